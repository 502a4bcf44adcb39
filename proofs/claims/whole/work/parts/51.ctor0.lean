/-! ===== the constructors ===== -/
def ct_wd (y : MethodName) (b : ByteArray) (n : Nat) : List Cond := .code y b n none :: sy_gT
theorem ct_in1 {w : Cond} (i : Nat) (h : lw_tbl[i]? = some w) (g : goodWord w = true) : w ∈ sy_gT := List.mem_filter.mpr ⟨List.mem_of_getElem? h, g⟩
theorem ct_good (y : MethodName) (b : ByteArray) (n : Nat) (h : Cond.code y b n none ∈ sy_gT) : GoodIn sy_gT (ct_wd y b n) := sy_gT_good _ (fun w hw => by
  rcases List.mem_cons.mp hw with e | e
  · rw [e]; exact h
  · exact e)
theorem ct_same {D : va_G} {cl : List vw_C} {cI cS cA : ClassId} {s : State} (h1 : va_K D cl (sy_tys cI cS) s) (h2 : va_K D cl (sy_tys cI cS ++ [(cA, .int)]) s) : cI = cA := Option.some.inj ((h1.2 0 _ rfl).2.symm.trans (h2.2 2 _ rfl).2)
theorem ct_sameS {D : va_G} {cl : List vw_C} {cI cS cA : ClassId} {s : State} (h1 : va_K D cl (sy_tys cI cS) s) (h2 : va_K D cl (sy_tys cI cS ++ [(cA, .object RX3)]) s) : cS = cA := by
  obtain ⟨_, _, _, _, _, e1⟩ := (h1.2 1 _ rfl).2
  obtain ⟨_, _, _, _, _, e2⟩ := (h2.2 2 _ rfl).2
  exact Option.some.inj (e1.symm.trans e2)
theorem ct_blind {av : List Value} {D : va_G} {cI cS : ClassId} {sz : Nat} {ws : va_W} {X : Prop} : FrameBlind (va_Pc av (fun U => U.heap.size = sz ∧ va_P D vwCl ws U.heap ∧ va_K D vwCl (sy_tys cI cS) U ∧ X)) := by
  intro a U g mk q
  obtain ⟨q0, q1, qP, qK, qD⟩ := q
  exact ⟨q0, q1, qP, va_K.moved (u := U) (U := U.calling g mk a) (Vm.Alike.refl U.vm) qK, qD⟩
def ct_nl : List Cond := [.methodLinkNest RX7 9 yX5_init "LuckyStolen", .methodLinkNest RX7 18 yX4_init "LuckyStolen", .methodLinkNest RX7 65 yX3_init "LuckyStolen"]
theorem ct_def0 : ∀ j, j < 10 → defaultValue (tyX0 j) = vp_V [.null, .null, .null, .null, .null, .int 0, .int 0, .int 0, .int 0, .int 0] j := fun j hj => by
  match j, hj with
  | 0, _ => rfl
  | 1, _ => rfl
  | 2, _ => rfl
  | 3, _ => rfl
  | 4, _ => rfl
  | 5, _ => rfl
  | 6, _ => rfl
  | 7, _ => rfl
  | 8, _ => rfl
  | 9, _ => rfl
  | j + 10, h => exact absurd h (by omega)
theorem ct_def1 : ∀ j, j < 1 → defaultValue (tyX1 j) = vp_V [.null] j := fun j hj => by
  match j, hj with
  | 0, _ => rfl
  | j + 1, h => exact absurd h (by omega)
theorem ct_def2 : ∀ j, j < 2 → defaultValue (tyX2 j) = vp_V [.null, .int 0] j := fun j hj => by
  match j, hj with
  | 0, _ => rfl
  | 1, _ => rfl
  | j + 2, h => exact absurd h (by omega)
theorem ct_def3 : ∀ j, j < 3 → defaultValue (tyX3 j) = vp_V [.null, .int 0, .int 0] j := fun j hj => by
  match j, hj with
  | 0, _ => rfl
  | 1, _ => rfl
  | 2, _ => rfl
  | j + 3, h => exact absurd h (by omega)
theorem ct_def4 : ∀ j, j < 6 → defaultValue (tyX4 j) = vp_V [.null, .null, .null, .null, .null, .int 0] j := fun j hj => by
  match j, hj with
  | 0, _ => rfl
  | 1, _ => rfl
  | 2, _ => rfl
  | 3, _ => rfl
  | 4, _ => rfl
  | 5, _ => rfl
  | j + 6, h => exact absurd h (by omega)
theorem ct_def5 : ∀ j, j < 4 → defaultValue (tyX5 j) = vp_V [.null, .int 0, .int 0, .int 0] j := fun j hj => by
  match j, hj with
  | 0, _ => rfl
  | 1, _ => rfl
  | 2, _ => rfl
  | 3, _ => rfl
  | j + 4, h => exact absurd h (by omega)
theorem ct_def6 : ∀ j, j < 11 → defaultValue (tyX6 j) = vp_V [.null, .null, .null, .null, .null, .int 0, .int 0, .int 0, .int 0, .int 0, .int 0] j := fun j hj => by
  match j, hj with
  | 0, _ => rfl
  | 1, _ => rfl
  | 2, _ => rfl
  | 3, _ => rfl
  | 4, _ => rfl
  | 5, _ => rfl
  | 6, _ => rfl
  | 7, _ => rfl
  | 8, _ => rfl
  | 9, _ => rfl
  | 10, _ => rfl
  | j + 11, h => exact absurd h (by omega)
theorem ct_def7 : ∀ j, j < 8 → defaultValue (tyX7 j) = vp_V [.null, .null, .null, .null, .null, .null, .null, .int 0] j := fun j hj => by
  match j, hj with
  | 0, _ => rfl
  | 1, _ => rfl
  | 2, _ => rfl
  | 3, _ => rfl
  | 4, _ => rfl
  | 5, _ => rfl
  | 6, _ => rfl
  | 7, _ => rfl
  | j + 8, h => exact absurd h (by omega)
theorem ct_def8 : ∀ j, j < 26 → defaultValue (tyX8 j) = vp_V [.null, .null, .null, .null, .int 0, .null, .int 0, .int 0, .int 0, .null, .int 0, .int 0, .int 0, .null, .null, .null, .null, .int 0, .int 0, .int 0, .int 0, .null, .null, .null, .null, .null] j := fun j hj => by
  match j, hj with
  | 0, _ => rfl
  | 1, _ => rfl
  | 2, _ => rfl
  | 3, _ => rfl
  | 4, _ => rfl
  | 5, _ => rfl
  | 6, _ => rfl
  | 7, _ => rfl
  | 8, _ => rfl
  | 9, _ => rfl
  | 10, _ => rfl
  | 11, _ => rfl
  | 12, _ => rfl
  | 13, _ => rfl
  | 14, _ => rfl
  | 15, _ => rfl
  | 16, _ => rfl
  | 17, _ => rfl
  | 18, _ => rfl
  | 19, _ => rfl
  | 20, _ => rfl
  | 21, _ => rfl
  | 22, _ => rfl
  | 23, _ => rfl
  | 24, _ => rfl
  | 25, _ => rfl
  | j + 26, h => exact absurd h (by omega)
theorem ct_arr : (.arrayClass .int : Cond) ∈ sy_gT := ct_in1 90 (by decide +kernel) (by decide +kernel)
theorem ct_cl_7_16 : (.classLink RX7 16 RX4 : Cond) ∈ sy_gT := ct_in1 91 (by decide +kernel) (by decide +kernel)
theorem ct_cl_7_23 : (.classLink RX7 23 RX6 : Cond) ∈ sy_gT := ct_in1 122 (by decide +kernel) (by decide +kernel)
theorem ct_cl_7_32 : (.classLink RX7 32 RX2 : Cond) ∈ sy_gT := ct_in1 173 (by decide +kernel) (by decide +kernel)
theorem ct_cl_7_41 : (.classLink RX7 41 RX0 : Cond) ∈ sy_gT := ct_in1 187 (by decide +kernel) (by decide +kernel)
theorem ct_cl_7_48 : (.classLink RX7 48 RX1 : Cond) ∈ sy_gT := ct_in1 229 (by decide +kernel) (by decide +kernel)
theorem ct_cl_7_55 : (.classLink RX7 55 RX3 : Cond) ∈ sy_gT := ct_in1 240 (by decide +kernel) (by decide +kernel)
theorem ct_cl_7_7 : (.classLink RX7 7 RX5 : Cond) ∈ sy_gT := ct_in1 65 (by decide +kernel) (by decide +kernel)
theorem ct_cl_L_10 : (.classLink RL 10 RX8 : Cond) ∈ sy_gT := ct_in1 698 (by decide +kernel) (by decide +kernel)
theorem ct_cl_L_7 : (.classLink RL 7 RX7 : Cond) ∈ sy_gT := ct_in1 57 (by decide +kernel) (by decide +kernel)
theorem ct_co_0 : (.code yX0_init cX0_init 2 none : Cond) ∈ sy_gT := ct_in1 191 (by decide +kernel) (by decide +kernel)
theorem ct_co_1 : (.code yX1_init cX1_init 2 none : Cond) ∈ sy_gT := ct_in1 233 (by decide +kernel) (by decide +kernel)
theorem ct_co_2 : (.code yX2_init cX2_init 2 none : Cond) ∈ sy_gT := ct_in1 177 (by decide +kernel) (by decide +kernel)
theorem ct_co_3 : (.code yX3_init cX3_init 1 none : Cond) ∈ sy_gT := ct_in1 245 (by decide +kernel) (by decide +kernel)
theorem ct_co_4 : (.code yX4_init cX4_init 1 none : Cond) ∈ sy_gT := ct_in1 95 (by decide +kernel) (by decide +kernel)
theorem ct_co_5 : (.code yX5_init cX5_init 1 none : Cond) ∈ sy_gT := ct_in1 69 (by decide +kernel) (by decide +kernel)
theorem ct_co_6 : (.code yX6_init cX6_init 3 none : Cond) ∈ sy_gT := ct_in1 126 (by decide +kernel) (by decide +kernel)
theorem ct_co_7 : (.code yX7_init cX7_init 2 none : Cond) ∈ sy_gT := ct_in1 61 (by decide +kernel) (by decide +kernel)
theorem ct_co_8 : (.code yX8_init cX8_init 2 none : Cond) ∈ sy_gT := ct_in1 702 (by decide +kernel) (by decide +kernel)
theorem ct_f_0_11 : (.fieldLink RX0 11 "LuckyStolen$Books" "houses" "[I" : Cond) ∈ sy_gT := ct_in1 194 (by decide +kernel) (by decide +kernel)
theorem ct_f_0_15 : (.fieldLink RX0 15 "LuckyStolen$Books" "nights" "[I" : Cond) ∈ sy_gT := ct_in1 195 (by decide +kernel) (by decide +kernel)
theorem ct_f_0_18 : (.fieldLink RX0 18 "LuckyStolen$Books" "eggs" "[I" : Cond) ∈ sy_gT := ct_in1 196 (by decide +kernel) (by decide +kernel)
theorem ct_f_0_21 : (.fieldLink RX0 21 "LuckyStolen$Books" "luckyIfReal" "[I" : Cond) ∈ sy_gT := ct_in1 197 (by decide +kernel) (by decide +kernel)
theorem ct_f_0_24 : (.fieldLink RX0 24 "LuckyStolen$Books" "size" "I" : Cond) ∈ sy_gT := ct_in1 198 (by decide +kernel) (by decide +kernel)
theorem ct_f_0_28 : (.fieldLink RX0 28 "LuckyStolen$Books" "sets" "I" : Cond) ∈ sy_gT := ct_in1 200 (by decide +kernel) (by decide +kernel)
theorem ct_f_0_31 : (.fieldLink RX0 31 "LuckyStolen$Books" "least" "I" : Cond) ∈ sy_gT := ct_in1 202 (by decide +kernel) (by decide +kernel)
theorem ct_f_0_34 : (.fieldLink RX0 34 "LuckyStolen$Books" "inAll" "I" : Cond) ∈ sy_gT := ct_in1 204 (by decide +kernel) (by decide +kernel)
theorem ct_f_0_37 : (.fieldLink RX0 37 "LuckyStolen$Books" "inNone" "I" : Cond) ∈ sy_gT := ct_in1 206 (by decide +kernel) (by decide +kernel)
theorem ct_f_0_40 : (.fieldLink RX0 40 "LuckyStolen$Books" "yard" "LLuckyStolen$Yard;" : Cond) ∈ sy_gT := ct_in1 193 (by decide +kernel) (by decide +kernel)
theorem ct_f_1_9 : (.fieldLink RX1 9 "LuckyStolen$Guards" "awake" "[I" : Cond) ∈ sy_gT := ct_in1 235 (by decide +kernel) (by decide +kernel)
theorem ct_f_2_15 : (.fieldLink RX2 15 "LuckyStolen$Lets" "yard" "LLuckyStolen$Yard;" : Cond) ∈ sy_gT := ct_in1 179 (by decide +kernel) (by decide +kernel)
theorem ct_f_2_9 : (.fieldLink RX2 9 "LuckyStolen$Lets" "picked" "I" : Cond) ∈ sy_gT := ct_in1 180 (by decide +kernel) (by decide +kernel)
theorem ct_f_3_11 : (.fieldLink RX3 11 "LuckyStolen$Sheet" "items" "[I" : Cond) ∈ sy_gT := ct_in1 247 (by decide +kernel) (by decide +kernel)
theorem ct_f_3_15 : (.fieldLink RX3 15 "LuckyStolen$Sheet" "form" "I" : Cond) ∈ sy_gT := ct_in1 249 (by decide +kernel) (by decide +kernel)
theorem ct_f_3_19 : (.fieldLink RX3 19 "LuckyStolen$Sheet" "size" "I" : Cond) ∈ sy_gT := ct_in1 251 (by decide +kernel) (by decide +kernel)
theorem ct_f_4_11 : (.fieldLink RX4 11 "LuckyStolen$Tale" "kinds" "[I" : Cond) ∈ sy_gT := ct_in1 97 (by decide +kernel) (by decide +kernel)
theorem ct_f_4_15 : (.fieldLink RX4 15 "LuckyStolen$Tale" "nights" "[I" : Cond) ∈ sy_gT := ct_in1 99 (by decide +kernel) (by decide +kernel)
theorem ct_f_4_18 : (.fieldLink RX4 18 "LuckyStolen$Tale" "stones" "[I" : Cond) ∈ sy_gT := ct_in1 101 (by decide +kernel) (by decide +kernel)
theorem ct_f_4_21 : (.fieldLink RX4 21 "LuckyStolen$Tale" "houses" "[I" : Cond) ∈ sy_gT := ct_in1 103 (by decide +kernel) (by decide +kernel)
theorem ct_f_4_24 : (.fieldLink RX4 24 "LuckyStolen$Tale" "knowings" "[I" : Cond) ∈ sy_gT := ct_in1 105 (by decide +kernel) (by decide +kernel)
theorem ct_f_4_27 : (.fieldLink RX4 27 "LuckyStolen$Tale" "size" "I" : Cond) ∈ sy_gT := ct_in1 106 (by decide +kernel) (by decide +kernel)
theorem ct_f_5_11 : (.fieldLink RX5 11 "LuckyStolen$Text" "bytes" "[I" : Cond) ∈ sy_gT := ct_in1 71 (by decide +kernel) (by decide +kernel)
theorem ct_f_5_15 : (.fieldLink RX5 15 "LuckyStolen$Text" "length" "I" : Cond) ∈ sy_gT := ct_in1 72 (by decide +kernel) (by decide +kernel)
theorem ct_f_5_19 : (.fieldLink RX5 19 "LuckyStolen$Text" "faultPlace" "I" : Cond) ∈ sy_gT := ct_in1 74 (by decide +kernel) (by decide +kernel)
theorem ct_f_5_22 : (.fieldLink RX5 22 "LuckyStolen$Text" "stones" "I" : Cond) ∈ sy_gT := ct_in1 76 (by decide +kernel) (by decide +kernel)
theorem ct_f_6_15 : (.fieldLink RX6 15 "LuckyStolen$Yard" "until" "[I" : Cond) ∈ sy_gT := ct_in1 135 (by decide +kernel) (by decide +kernel)
theorem ct_f_6_18 : (.fieldLink RX6 18 "LuckyStolen$Yard" "thefts" "[I" : Cond) ∈ sy_gT := ct_in1 138 (by decide +kernel) (by decide +kernel)
theorem ct_f_6_21 : (.fieldLink RX6 21 "LuckyStolen$Yard" "real" "I" : Cond) ∈ sy_gT := ct_in1 139 (by decide +kernel) (by decide +kernel)
theorem ct_f_6_25 : (.fieldLink RX6 25 "LuckyStolen$Yard" "nightsOfLuck" "I" : Cond) ∈ sy_gT := ct_in1 140 (by decide +kernel) (by decide +kernel)
theorem ct_f_6_28 : (.fieldLink RX6 28 "LuckyStolen$Yard" "told" "I" : Cond) ∈ sy_gT := ct_in1 143 (by decide +kernel) (by decide +kernel)
theorem ct_f_6_31 : (.fieldLink RX6 31 "LuckyStolen$Yard" "against" "I" : Cond) ∈ sy_gT := ct_in1 144 (by decide +kernel) (by decide +kernel)
theorem ct_f_6_34 : (.fieldLink RX6 34 "LuckyStolen$Yard" "firstAgainst" "I" : Cond) ∈ sy_gT := ct_in1 146 (by decide +kernel) (by decide +kernel)
theorem ct_f_6_37 : (.fieldLink RX6 37 "LuckyStolen$Yard" "trueThefts" "I" : Cond) ∈ sy_gT := ct_in1 148 (by decide +kernel) (by decide +kernel)
theorem ct_f_6_40 : (.fieldLink RX6 40 "LuckyStolen$Yard" "text" "LLuckyStolen$Text;" : Cond) ∈ sy_gT := ct_in1 128 (by decide +kernel) (by decide +kernel)
theorem ct_f_6_44 : (.fieldLink RX6 44 "LuckyStolen$Yard" "tale" "LLuckyStolen$Tale;" : Cond) ∈ sy_gT := ct_in1 131 (by decide +kernel) (by decide +kernel)
theorem ct_f_6_9 : (.fieldLink RX6 9 "LuckyStolen$Yard" "owner" "[I" : Cond) ∈ sy_gT := ct_in1 132 (by decide +kernel) (by decide +kernel)
theorem ct_f_7_10 : (.fieldLink RX7 10 "LuckyStolen" "text" "LLuckyStolen$Text;" : Cond) ∈ sy_gT := ct_in1 260 (by decide +kernel) (by decide +kernel)
theorem ct_f_7_19 : (.fieldLink RX7 19 "LuckyStolen" "tale" "LLuckyStolen$Tale;" : Cond) ∈ sy_gT := ct_in1 261 (by decide +kernel) (by decide +kernel)
theorem ct_f_7_28 : (.fieldLink RX7 28 "LuckyStolen" "yard" "LLuckyStolen$Yard;" : Cond) ∈ sy_gT := ct_in1 262 (by decide +kernel) (by decide +kernel)
theorem ct_f_7_37 : (.fieldLink RX7 37 "LuckyStolen" "letting" "LLuckyStolen$Lets;" : Cond) ∈ sy_gT := ct_in1 263 (by decide +kernel) (by decide +kernel)
theorem ct_f_7_44 : (.fieldLink RX7 44 "LuckyStolen" "books" "LLuckyStolen$Books;" : Cond) ∈ sy_gT := ct_in1 264 (by decide +kernel) (by decide +kernel)
theorem ct_f_7_51 : (.fieldLink RX7 51 "LuckyStolen" "guards" "LLuckyStolen$Guards;" : Cond) ∈ sy_gT := ct_in1 265 (by decide +kernel) (by decide +kernel)
theorem ct_f_7_57 : (.fieldLink RX7 57 "LuckyStolen" "sheets" "[LLuckyStolen$Sheet;" : Cond) ∈ sy_gT := ct_in1 266 (by decide +kernel) (by decide +kernel)
theorem ct_f_7_61 : (.fieldLink RX7 61 "LuckyStolen" "finding" "I" : Cond) ∈ sy_gT := ct_in1 267 (by decide +kernel) (by decide +kernel)
theorem ct_f_8_13 : (.fieldLink RX8 13 "LuckyStolenModel" "sizes" "[I" : Cond) ∈ sy_gT := ct_in1 705 (by decide +kernel) (by decide +kernel)
theorem ct_f_8_16 : (.fieldLink RX8 16 "LuckyStolenModel" "items" "[I" : Cond) ∈ sy_gT := ct_in1 706 (by decide +kernel) (by decide +kernel)
theorem ct_f_8_19 : (.fieldLink RX8 19 "LuckyStolenModel" "moved" "[I" : Cond) ∈ sy_gT := ct_in1 707 (by decide +kernel) (by decide +kernel)
theorem ct_f_8_22 : (.fieldLink RX8 22 "LuckyStolenModel" "text" "[I" : Cond) ∈ sy_gT := ct_in1 709 (by decide +kernel) (by decide +kernel)
theorem ct_f_8_25 : (.fieldLink RX8 25 "LuckyStolenModel" "first" "[I" : Cond) ∈ sy_gT := ct_in1 713 (by decide +kernel) (by decide +kernel)
theorem ct_f_8_28 : (.fieldLink RX8 28 "LuckyStolenModel" "lasting" "I" : Cond) ∈ sy_gT := ct_in1 715 (by decide +kernel) (by decide +kernel)
theorem ct_f_8_32 : (.fieldLink RX8 32 "LuckyStolenModel" "told" "[I" : Cond) ∈ sy_gT := ct_in1 717 (by decide +kernel) (by decide +kernel)
theorem ct_f_8_35 : (.fieldLink RX8 35 "LuckyStolenModel" "where" "[I" : Cond) ∈ sy_gT := ct_in1 718 (by decide +kernel) (by decide +kernel)
theorem ct_f_8_38 : (.fieldLink RX8 38 "LuckyStolenModel" "since" "[I" : Cond) ∈ sy_gT := ct_in1 719 (by decide +kernel) (by decide +kernel)
theorem ct_f_8_41 : (.fieldLink RX8 41 "LuckyStolenModel" "by" "[I" : Cond) ∈ sy_gT := ct_in1 720 (by decide +kernel) (by decide +kernel)
theorem ct_f_8_44 : (.fieldLink RX8 44 "LuckyStolenModel" "written" "[I" : Cond) ∈ sy_gT := ct_in1 725 (by decide +kernel) (by decide +kernel)
theorem ct_f_8_47 : (.fieldLink RX8 47 "LuckyStolenModel" "would" "[I" : Cond) ∈ sy_gT := ct_in1 726 (by decide +kernel) (by decide +kernel)
theorem ct_f_8_50 : (.fieldLink RX8 50 "LuckyStolenModel" "pick" "[I" : Cond) ∈ sy_gT := ct_in1 727 (by decide +kernel) (by decide +kernel)
theorem ct_f_8_53 : (.fieldLink RX8 53 "LuckyStolenModel" "sumTo" "[I" : Cond) ∈ sy_gT := ct_in1 728 (by decide +kernel) (by decide +kernel)
theorem ct_f_8_56 : (.fieldLink RX8 56 "LuckyStolenModel" "guards" "[I" : Cond) ∈ sy_gT := ct_in1 729 (by decide +kernel) (by decide +kernel)
theorem ct_f_8_7 : (.fieldLink RX8 7 "LuckyStolenModel" "forms" "[I" : Cond) ∈ sy_gT := ct_in1 704 (by decide +kernel) (by decide +kernel)
theorem ct_im_0 : (.instanceMethod yX0_init : Cond) ∈ sy_gT := ct_in1 190 (by decide +kernel) (by decide +kernel)
theorem ct_im_1 : (.instanceMethod yX1_init : Cond) ∈ sy_gT := ct_in1 232 (by decide +kernel) (by decide +kernel)
theorem ct_im_2 : (.instanceMethod yX2_init : Cond) ∈ sy_gT := ct_in1 176 (by decide +kernel) (by decide +kernel)
theorem ct_im_3 : (.instanceMethod yX3_init : Cond) ∈ sy_gT := ct_in1 244 (by decide +kernel) (by decide +kernel)
theorem ct_im_4 : (.instanceMethod yX4_init : Cond) ∈ sy_gT := ct_in1 94 (by decide +kernel) (by decide +kernel)
theorem ct_im_5 : (.instanceMethod yX5_init : Cond) ∈ sy_gT := ct_in1 68 (by decide +kernel) (by decide +kernel)
theorem ct_im_6 : (.instanceMethod yX6_init : Cond) ∈ sy_gT := ct_in1 125 (by decide +kernel) (by decide +kernel)
theorem ct_im_7 : (.instanceMethod yX7_init : Cond) ∈ sy_gT := ct_in1 60 (by decide +kernel) (by decide +kernel)
theorem ct_im_8 : (.instanceMethod yX8_init : Cond) ∈ sy_gT := ct_in1 701 (by decide +kernel) (by decide +kernel)
theorem ct_in_0 : (.instantiable RX0 10 : Cond) ∈ sy_gT := ct_in1 188 (by decide +kernel) (by decide +kernel)
theorem ct_in_1 : (.instantiable RX1 1 : Cond) ∈ sy_gT := ct_in1 230 (by decide +kernel) (by decide +kernel)
theorem ct_in_2 : (.instantiable RX2 2 : Cond) ∈ sy_gT := ct_in1 174 (by decide +kernel) (by decide +kernel)
theorem ct_in_3 : (.instantiable RX3 3 : Cond) ∈ sy_gT := ct_in1 242 (by decide +kernel) (by decide +kernel)
theorem ct_in_4 : (.instantiable RX4 6 : Cond) ∈ sy_gT := ct_in1 92 (by decide +kernel) (by decide +kernel)
theorem ct_in_5 : (.instantiable RX5 4 : Cond) ∈ sy_gT := ct_in1 66 (by decide +kernel) (by decide +kernel)
theorem ct_in_6 : (.instantiable RX6 11 : Cond) ∈ sy_gT := ct_in1 123 (by decide +kernel) (by decide +kernel)
theorem ct_in_7 : (.instantiable RX7 8 : Cond) ∈ sy_gT := ct_in1 58 (by decide +kernel) (by decide +kernel)
theorem ct_in_8 : (.instantiable RX8 26 : Cond) ∈ sy_gT := ct_in1 699 (by decide +kernel) (by decide +kernel)
theorem ct_ini_0 : (.initialized RX0 : Cond) ∈ sy_gT := ct_in1 50 (by decide +kernel) (by decide +kernel)
theorem ct_ini_1 : (.initialized RX1 : Cond) ∈ sy_gT := ct_in1 51 (by decide +kernel) (by decide +kernel)
theorem ct_ini_2 : (.initialized RX2 : Cond) ∈ sy_gT := ct_in1 49 (by decide +kernel) (by decide +kernel)
theorem ct_ini_3 : (.initialized RX3 : Cond) ∈ sy_gT := ct_in1 52 (by decide +kernel) (by decide +kernel)
theorem ct_ini_4 : (.initialized RX4 : Cond) ∈ sy_gT := ct_in1 47 (by decide +kernel) (by decide +kernel)
theorem ct_ini_5 : (.initialized RX5 : Cond) ∈ sy_gT := ct_in1 46 (by decide +kernel) (by decide +kernel)
theorem ct_ini_6 : (.initialized RX6 : Cond) ∈ sy_gT := ct_in1 48 (by decide +kernel) (by decide +kernel)
theorem ct_ini_7 : (.initialized RX7 : Cond) ∈ sy_gT := ct_in1 45 (by decide +kernel) (by decide +kernel)
theorem ct_ini_8 : (.initialized RX8 : Cond) ∈ sy_gT := ct_in1 53 (by decide +kernel) (by decide +kernel)
theorem ct_ml_7_25 : (.methodLink RX7 25 yX6_init : Cond) ∈ sy_gT := ct_in1 124 (by decide +kernel) (by decide +kernel)
theorem ct_ml_7_34 : (.methodLink RX7 34 yX2_init : Cond) ∈ sy_gT := ct_in1 175 (by decide +kernel) (by decide +kernel)
theorem ct_ml_7_43 : (.methodLink RX7 43 yX0_init : Cond) ∈ sy_gT := ct_in1 189 (by decide +kernel) (by decide +kernel)
theorem ct_ml_7_50 : (.methodLink RX7 50 yX1_init : Cond) ∈ sy_gT := ct_in1 231 (by decide +kernel) (by decide +kernel)
theorem ct_ml_L_12 : (.methodLink RL 12 yX8_init : Cond) ∈ sy_gT := ct_in1 700 (by decide +kernel) (by decide +kernel)
theorem ct_ml_L_9 : (.methodLink RL 9 yX7_init : Cond) ∈ sy_gT := ct_in1 59 (by decide +kernel) (by decide +kernel)
theorem ct_oco : (.code objectInit ⟨#[0xb1]⟩ 1 none : Cond) ∈ sy_gT := ct_in1 64 (by decide +kernel) (by decide +kernel)
theorem ct_oi_0 : (.methodLink RX0 3 objectInit : Cond) ∈ sy_gT := ct_in1 192 (by decide +kernel) (by decide +kernel)
theorem ct_oi_1 : (.methodLink RX1 3 objectInit : Cond) ∈ sy_gT := ct_in1 234 (by decide +kernel) (by decide +kernel)
theorem ct_oi_2 : (.methodLink RX2 3 objectInit : Cond) ∈ sy_gT := ct_in1 178 (by decide +kernel) (by decide +kernel)
theorem ct_oi_3 : (.methodLink RX3 3 objectInit : Cond) ∈ sy_gT := ct_in1 246 (by decide +kernel) (by decide +kernel)
theorem ct_oi_4 : (.methodLink RX4 3 objectInit : Cond) ∈ sy_gT := ct_in1 96 (by decide +kernel) (by decide +kernel)
theorem ct_oi_5 : (.methodLink RX5 3 objectInit : Cond) ∈ sy_gT := ct_in1 70 (by decide +kernel) (by decide +kernel)
theorem ct_oi_6 : (.methodLink RX6 3 objectInit : Cond) ∈ sy_gT := ct_in1 127 (by decide +kernel) (by decide +kernel)
theorem ct_oi_7 : (.methodLink RX7 1 objectInit : Cond) ∈ sy_gT := ct_in1 62 (by decide +kernel) (by decide +kernel)
theorem ct_oi_8 : (.methodLink RX8 1 objectInit : Cond) ∈ sy_gT := ct_in1 703 (by decide +kernel) (by decide +kernel)
theorem ct_oin : (.instanceMethod objectInit : Cond) ∈ sy_gT := ct_in1 63 (by decide +kernel) (by decide +kernel)
theorem dX5_init_0 : decode cX5_init 0 = .ok (.aload_n 0, 1) := by decide +kernel
theorem dX5_init_1 : decode cX5_init 1 = .ok (.invokespecial 3, 3) := by decide +kernel
theorem dX5_init_4 : decode cX5_init 4 = .ok (.aload_n 0, 1) := by decide +kernel
theorem dX5_init_5 : decode cX5_init 5 = .ok (.bipush 30, 2) := by decide +kernel
theorem dX5_init_7 : decode cX5_init 7 = .ok (.newarray .int, 2) := by decide +kernel
theorem dX5_init_9 : decode cX5_init 9 = .ok (.putfield 11, 3) := by decide +kernel
theorem dX5_init_12 : decode cX5_init 12 = .ok (.aload_n 0, 1) := by decide +kernel
theorem dX5_init_13 : decode cX5_init 13 = .ok (.iconst 0, 1) := by decide +kernel
theorem dX5_init_14 : decode cX5_init 14 = .ok (.putfield 15, 3) := by decide +kernel
theorem dX5_init_17 : decode cX5_init 17 = .ok (.aload_n 0, 1) := by decide +kernel
theorem dX5_init_18 : decode cX5_init 18 = .ok (.iconst (-1), 1) := by decide +kernel
theorem dX5_init_19 : decode cX5_init 19 = .ok (.putfield 19, 3) := by decide +kernel
theorem dX5_init_22 : decode cX5_init 22 = .ok (.aload_n 0, 1) := by decide +kernel
theorem dX5_init_23 : decode cX5_init 23 = .ok (.iconst 0, 1) := by decide +kernel
theorem dX5_init_24 : decode cX5_init 24 = .ok (.putfield 22, 3) := by decide +kernel
theorem dX5_init_27 : decode cX5_init 27 = .ok (.return_, 1) := by decide +kernel
theorem dX4_init_0 : decode cX4_init 0 = .ok (.aload_n 0, 1) := by decide +kernel
theorem dX4_init_1 : decode cX4_init 1 = .ok (.invokespecial 3, 3) := by decide +kernel
theorem dX4_init_4 : decode cX4_init 4 = .ok (.aload_n 0, 1) := by decide +kernel
theorem dX4_init_5 : decode cX4_init 5 = .ok (.bipush 40, 2) := by decide +kernel
theorem dX4_init_7 : decode cX4_init 7 = .ok (.newarray .int, 2) := by decide +kernel
theorem dX4_init_9 : decode cX4_init 9 = .ok (.putfield 11, 3) := by decide +kernel
theorem dX4_init_12 : decode cX4_init 12 = .ok (.aload_n 0, 1) := by decide +kernel
theorem dX4_init_13 : decode cX4_init 13 = .ok (.bipush 40, 2) := by decide +kernel
theorem dX4_init_15 : decode cX4_init 15 = .ok (.newarray .int, 2) := by decide +kernel
theorem dX4_init_17 : decode cX4_init 17 = .ok (.putfield 15, 3) := by decide +kernel
theorem dX4_init_20 : decode cX4_init 20 = .ok (.aload_n 0, 1) := by decide +kernel
theorem dX4_init_21 : decode cX4_init 21 = .ok (.bipush 40, 2) := by decide +kernel
theorem dX4_init_23 : decode cX4_init 23 = .ok (.newarray .int, 2) := by decide +kernel
theorem dX4_init_25 : decode cX4_init 25 = .ok (.putfield 18, 3) := by decide +kernel
theorem dX4_init_28 : decode cX4_init 28 = .ok (.aload_n 0, 1) := by decide +kernel
theorem dX4_init_29 : decode cX4_init 29 = .ok (.bipush 40, 2) := by decide +kernel
theorem dX4_init_31 : decode cX4_init 31 = .ok (.newarray .int, 2) := by decide +kernel
theorem dX4_init_33 : decode cX4_init 33 = .ok (.putfield 21, 3) := by decide +kernel
theorem dX4_init_36 : decode cX4_init 36 = .ok (.aload_n 0, 1) := by decide +kernel
theorem dX4_init_37 : decode cX4_init 37 = .ok (.bipush 40, 2) := by decide +kernel
theorem dX4_init_39 : decode cX4_init 39 = .ok (.newarray .int, 2) := by decide +kernel
theorem dX4_init_41 : decode cX4_init 41 = .ok (.putfield 24, 3) := by decide +kernel
theorem dX4_init_44 : decode cX4_init 44 = .ok (.aload_n 0, 1) := by decide +kernel
theorem dX4_init_45 : decode cX4_init 45 = .ok (.iconst 0, 1) := by decide +kernel
theorem dX4_init_46 : decode cX4_init 46 = .ok (.putfield 27, 3) := by decide +kernel
theorem dX4_init_49 : decode cX4_init 49 = .ok (.return_, 1) := by decide +kernel
theorem dX6_init_0 : decode cX6_init 0 = .ok (.aload_n 0, 1) := by decide +kernel
theorem dX6_init_1 : decode cX6_init 1 = .ok (.invokespecial 3, 3) := by decide +kernel
theorem dX6_init_4 : decode cX6_init 4 = .ok (.aload_n 0, 1) := by decide +kernel
theorem dX6_init_5 : decode cX6_init 5 = .ok (.bipush 9, 2) := by decide +kernel
theorem dX6_init_7 : decode cX6_init 7 = .ok (.newarray .int, 2) := by decide +kernel
theorem dX6_init_9 : decode cX6_init 9 = .ok (.putfield 9, 3) := by decide +kernel
theorem dX6_init_12 : decode cX6_init 12 = .ok (.aload_n 0, 1) := by decide +kernel
theorem dX6_init_13 : decode cX6_init 13 = .ok (.bipush 9, 2) := by decide +kernel
theorem dX6_init_15 : decode cX6_init 15 = .ok (.newarray .int, 2) := by decide +kernel
theorem dX6_init_17 : decode cX6_init 17 = .ok (.putfield 15, 3) := by decide +kernel
theorem dX6_init_20 : decode cX6_init 20 = .ok (.aload_n 0, 1) := by decide +kernel
theorem dX6_init_21 : decode cX6_init 21 = .ok (.bipush 9, 2) := by decide +kernel
theorem dX6_init_23 : decode cX6_init 23 = .ok (.newarray .int, 2) := by decide +kernel
theorem dX6_init_25 : decode cX6_init 25 = .ok (.putfield 18, 3) := by decide +kernel
theorem dX6_init_28 : decode cX6_init 28 = .ok (.aload_n 0, 1) := by decide +kernel
theorem dX6_init_29 : decode cX6_init 29 = .ok (.iconst 0, 1) := by decide +kernel
theorem dX6_init_30 : decode cX6_init 30 = .ok (.putfield 21, 3) := by decide +kernel
theorem dX6_init_33 : decode cX6_init 33 = .ok (.aload_n 0, 1) := by decide +kernel
theorem dX6_init_34 : decode cX6_init 34 = .ok (.bipush 30, 2) := by decide +kernel
theorem dX6_init_36 : decode cX6_init 36 = .ok (.putfield 25, 3) := by decide +kernel
theorem dX6_init_39 : decode cX6_init 39 = .ok (.aload_n 0, 1) := by decide +kernel
theorem dX6_init_40 : decode cX6_init 40 = .ok (.iconst 0, 1) := by decide +kernel
theorem dX6_init_41 : decode cX6_init 41 = .ok (.putfield 28, 3) := by decide +kernel
theorem dX6_init_44 : decode cX6_init 44 = .ok (.aload_n 0, 1) := by decide +kernel
theorem dX6_init_45 : decode cX6_init 45 = .ok (.iconst 0, 1) := by decide +kernel
theorem dX6_init_46 : decode cX6_init 46 = .ok (.putfield 31, 3) := by decide +kernel
theorem dX6_init_49 : decode cX6_init 49 = .ok (.aload_n 0, 1) := by decide +kernel
theorem dX6_init_50 : decode cX6_init 50 = .ok (.iconst (-1), 1) := by decide +kernel
theorem dX6_init_51 : decode cX6_init 51 = .ok (.putfield 34, 3) := by decide +kernel
theorem dX6_init_54 : decode cX6_init 54 = .ok (.aload_n 0, 1) := by decide +kernel
theorem dX6_init_55 : decode cX6_init 55 = .ok (.iconst 0, 1) := by decide +kernel
theorem dX6_init_56 : decode cX6_init 56 = .ok (.putfield 37, 3) := by decide +kernel
theorem dX6_init_59 : decode cX6_init 59 = .ok (.aload_n 0, 1) := by decide +kernel
theorem dX6_init_60 : decode cX6_init 60 = .ok (.aload_n 1, 1) := by decide +kernel
theorem dX6_init_61 : decode cX6_init 61 = .ok (.putfield 40, 3) := by decide +kernel
theorem dX6_init_64 : decode cX6_init 64 = .ok (.aload_n 0, 1) := by decide +kernel
theorem dX6_init_65 : decode cX6_init 65 = .ok (.aload_n 2, 1) := by decide +kernel
theorem dX6_init_66 : decode cX6_init 66 = .ok (.putfield 44, 3) := by decide +kernel
theorem dX6_init_69 : decode cX6_init 69 = .ok (.return_, 1) := by decide +kernel
theorem dX2_init_0 : decode cX2_init 0 = .ok (.aload_n 0, 1) := by decide +kernel
theorem dX2_init_1 : decode cX2_init 1 = .ok (.invokespecial 3, 3) := by decide +kernel
theorem dX2_init_4 : decode cX2_init 4 = .ok (.aload_n 0, 1) := by decide +kernel
theorem dX2_init_5 : decode cX2_init 5 = .ok (.iconst (-1), 1) := by decide +kernel
theorem dX2_init_6 : decode cX2_init 6 = .ok (.putfield 9, 3) := by decide +kernel
theorem dX2_init_9 : decode cX2_init 9 = .ok (.aload_n 0, 1) := by decide +kernel
theorem dX2_init_10 : decode cX2_init 10 = .ok (.aload_n 1, 1) := by decide +kernel
theorem dX2_init_11 : decode cX2_init 11 = .ok (.putfield 15, 3) := by decide +kernel
theorem dX2_init_14 : decode cX2_init 14 = .ok (.return_, 1) := by decide +kernel
theorem dX0_init_0 : decode cX0_init 0 = .ok (.aload_n 0, 1) := by decide +kernel
theorem dX0_init_1 : decode cX0_init 1 = .ok (.invokespecial 3, 3) := by decide +kernel
theorem dX0_init_4 : decode cX0_init 4 = .ok (.aload_n 0, 1) := by decide +kernel
theorem dX0_init_5 : decode cX0_init 5 = .ok (.bipush 8, 2) := by decide +kernel
theorem dX0_init_7 : decode cX0_init 7 = .ok (.newarray .int, 2) := by decide +kernel
theorem dX0_init_9 : decode cX0_init 9 = .ok (.putfield 11, 3) := by decide +kernel
theorem dX0_init_12 : decode cX0_init 12 = .ok (.aload_n 0, 1) := by decide +kernel
theorem dX0_init_13 : decode cX0_init 13 = .ok (.bipush 8, 2) := by decide +kernel
theorem dX0_init_15 : decode cX0_init 15 = .ok (.newarray .int, 2) := by decide +kernel
theorem dX0_init_17 : decode cX0_init 17 = .ok (.putfield 15, 3) := by decide +kernel
theorem dX0_init_20 : decode cX0_init 20 = .ok (.aload_n 0, 1) := by decide +kernel
theorem dX0_init_21 : decode cX0_init 21 = .ok (.bipush 8, 2) := by decide +kernel
theorem dX0_init_23 : decode cX0_init 23 = .ok (.newarray .int, 2) := by decide +kernel
theorem dX0_init_25 : decode cX0_init 25 = .ok (.putfield 18, 3) := by decide +kernel
theorem dX0_init_28 : decode cX0_init 28 = .ok (.aload_n 0, 1) := by decide +kernel
theorem dX0_init_29 : decode cX0_init 29 = .ok (.bipush 8, 2) := by decide +kernel
theorem dX0_init_31 : decode cX0_init 31 = .ok (.newarray .int, 2) := by decide +kernel
theorem dX0_init_33 : decode cX0_init 33 = .ok (.putfield 21, 3) := by decide +kernel
theorem dX0_init_36 : decode cX0_init 36 = .ok (.aload_n 0, 1) := by decide +kernel
theorem dX0_init_37 : decode cX0_init 37 = .ok (.iconst 0, 1) := by decide +kernel
theorem dX0_init_38 : decode cX0_init 38 = .ok (.putfield 24, 3) := by decide +kernel
theorem dX0_init_41 : decode cX0_init 41 = .ok (.aload_n 0, 1) := by decide +kernel
theorem dX0_init_42 : decode cX0_init 42 = .ok (.iconst 0, 1) := by decide +kernel
theorem dX0_init_43 : decode cX0_init 43 = .ok (.putfield 28, 3) := by decide +kernel
theorem dX0_init_46 : decode cX0_init 46 = .ok (.aload_n 0, 1) := by decide +kernel
theorem dX0_init_47 : decode cX0_init 47 = .ok (.iconst (-1), 1) := by decide +kernel
theorem dX0_init_48 : decode cX0_init 48 = .ok (.putfield 31, 3) := by decide +kernel
theorem dX0_init_51 : decode cX0_init 51 = .ok (.aload_n 0, 1) := by decide +kernel
theorem dX0_init_52 : decode cX0_init 52 = .ok (.iconst 0, 1) := by decide +kernel
theorem dX0_init_53 : decode cX0_init 53 = .ok (.putfield 34, 3) := by decide +kernel
theorem dX0_init_56 : decode cX0_init 56 = .ok (.aload_n 0, 1) := by decide +kernel
theorem dX0_init_57 : decode cX0_init 57 = .ok (.iconst 0, 1) := by decide +kernel
theorem dX0_init_58 : decode cX0_init 58 = .ok (.putfield 37, 3) := by decide +kernel
theorem dX0_init_61 : decode cX0_init 61 = .ok (.aload_n 0, 1) := by decide +kernel
theorem dX0_init_62 : decode cX0_init 62 = .ok (.aload_n 1, 1) := by decide +kernel
theorem dX0_init_63 : decode cX0_init 63 = .ok (.putfield 40, 3) := by decide +kernel
theorem dX0_init_66 : decode cX0_init 66 = .ok (.return_, 1) := by decide +kernel
theorem dX1_init_0 : decode cX1_init 0 = .ok (.aload_n 0, 1) := by decide +kernel
theorem dX1_init_1 : decode cX1_init 1 = .ok (.invokespecial 3, 3) := by decide +kernel
theorem dX1_init_4 : decode cX1_init 4 = .ok (.aload_n 0, 1) := by decide +kernel
theorem dX1_init_5 : decode cX1_init 5 = .ok (.bipush 8, 2) := by decide +kernel
theorem dX1_init_7 : decode cX1_init 7 = .ok (.newarray .int, 2) := by decide +kernel
theorem dX1_init_9 : decode cX1_init 9 = .ok (.putfield 9, 3) := by decide +kernel
theorem dX1_init_12 : decode cX1_init 12 = .ok (.iconst 0, 1) := by decide +kernel
theorem dX1_init_13 : decode cX1_init 13 = .ok (.istore_n 1, 1) := by decide +kernel
theorem dX1_init_14 : decode cX1_init 14 = .ok (.iload_n 1, 1) := by decide +kernel
theorem dX1_init_15 : decode cX1_init 15 = .ok (.bipush 8, 2) := by decide +kernel
theorem dX1_init_17 : decode cX1_init 17 = .ok (.if_icmp .ge 17, 3) := by decide +kernel
theorem dX1_init_20 : decode cX1_init 20 = .ok (.aload_n 0, 1) := by decide +kernel
theorem dX1_init_21 : decode cX1_init 21 = .ok (.getfield 9, 3) := by decide +kernel
theorem dX1_init_24 : decode cX1_init 24 = .ok (.iload_n 1, 1) := by decide +kernel
theorem dX1_init_25 : decode cX1_init 25 = .ok (.bipush 8, 2) := by decide +kernel
theorem dX1_init_27 : decode cX1_init 27 = .ok (.iastore, 1) := by decide +kernel
theorem dX1_init_28 : decode cX1_init 28 = .ok (.iinc 1 1, 3) := by decide +kernel
theorem dX1_init_31 : decode cX1_init 31 = .ok (.goto (-17), 3) := by decide +kernel
theorem dX1_init_34 : decode cX1_init 34 = .ok (.return_, 1) := by decide +kernel
theorem dX3_init_0 : decode cX3_init 0 = .ok (.aload_n 0, 1) := by decide +kernel
theorem dX3_init_1 : decode cX3_init 1 = .ok (.invokespecial 3, 3) := by decide +kernel
theorem dX3_init_4 : decode cX3_init 4 = .ok (.aload_n 0, 1) := by decide +kernel
theorem dX3_init_5 : decode cX3_init 5 = .ok (.bipush 60, 2) := by decide +kernel
theorem dX3_init_7 : decode cX3_init 7 = .ok (.newarray .int, 2) := by decide +kernel
theorem dX3_init_9 : decode cX3_init 9 = .ok (.putfield 11, 3) := by decide +kernel
theorem dX3_init_12 : decode cX3_init 12 = .ok (.aload_n 0, 1) := by decide +kernel
theorem dX3_init_13 : decode cX3_init 13 = .ok (.iconst (-1), 1) := by decide +kernel
theorem dX3_init_14 : decode cX3_init 14 = .ok (.putfield 15, 3) := by decide +kernel
theorem dX3_init_17 : decode cX3_init 17 = .ok (.aload_n 0, 1) := by decide +kernel
theorem dX3_init_18 : decode cX3_init 18 = .ok (.iconst 0, 1) := by decide +kernel
theorem dX3_init_19 : decode cX3_init 19 = .ok (.putfield 19, 3) := by decide +kernel
theorem dX3_init_22 : decode cX3_init 22 = .ok (.return_, 1) := by decide +kernel
theorem dX8_init_0 : decode cX8_init 0 = .ok (.aload_n 0, 1) := by decide +kernel
theorem dX8_init_1 : decode cX8_init 1 = .ok (.invokespecial 1, 3) := by decide +kernel
theorem dX8_init_4 : decode cX8_init 4 = .ok (.aload_n 0, 1) := by decide +kernel
theorem dX8_init_5 : decode cX8_init 5 = .ok (.iconst 4, 1) := by decide +kernel
theorem dX8_init_6 : decode cX8_init 6 = .ok (.newarray .int, 2) := by decide +kernel
theorem dX8_init_8 : decode cX8_init 8 = .ok (.putfield 7, 3) := by decide +kernel
theorem dX8_init_11 : decode cX8_init 11 = .ok (.aload_n 0, 1) := by decide +kernel
theorem dX8_init_12 : decode cX8_init 12 = .ok (.iconst 4, 1) := by decide +kernel
theorem dX8_init_13 : decode cX8_init 13 = .ok (.newarray .int, 2) := by decide +kernel
theorem dX8_init_15 : decode cX8_init 15 = .ok (.putfield 13, 3) := by decide +kernel
theorem dX8_init_18 : decode cX8_init 18 = .ok (.aload_n 0, 1) := by decide +kernel
theorem dX8_init_19 : decode cX8_init 19 = .ok (.sipush 240, 3) := by decide +kernel
theorem dX8_init_22 : decode cX8_init 22 = .ok (.newarray .int, 2) := by decide +kernel
theorem dX8_init_24 : decode cX8_init 24 = .ok (.putfield 16, 3) := by decide +kernel
theorem dX8_init_27 : decode cX8_init 27 = .ok (.aload_n 0, 1) := by decide +kernel
theorem dX8_init_28 : decode cX8_init 28 = .ok (.bipush 60, 2) := by decide +kernel
theorem dX8_init_30 : decode cX8_init 30 = .ok (.newarray .int, 2) := by decide +kernel
theorem dX8_init_32 : decode cX8_init 32 = .ok (.putfield 19, 3) := by decide +kernel
theorem dX8_init_35 : decode cX8_init 35 = .ok (.aload_n 0, 1) := by decide +kernel
theorem dX8_init_36 : decode cX8_init 36 = .ok (.bipush 30, 2) := by decide +kernel
theorem dX8_init_38 : decode cX8_init 38 = .ok (.newarray .int, 2) := by decide +kernel
theorem dX8_init_40 : decode cX8_init 40 = .ok (.putfield 22, 3) := by decide +kernel
theorem dX8_init_43 : decode cX8_init 43 = .ok (.aload_n 0, 1) := by decide +kernel
theorem dX8_init_44 : decode cX8_init 44 = .ok (.bipush 9, 2) := by decide +kernel
theorem dX8_init_46 : decode cX8_init 46 = .ok (.newarray .int, 2) := by decide +kernel
theorem dX8_init_48 : decode cX8_init 48 = .ok (.putfield 25, 3) := by decide +kernel
theorem dX8_init_51 : decode cX8_init 51 = .ok (.aload_n 0, 1) := by decide +kernel
theorem dX8_init_52 : decode cX8_init 52 = .ok (.bipush 30, 2) := by decide +kernel
theorem dX8_init_54 : decode cX8_init 54 = .ok (.putfield 28, 3) := by decide +kernel
theorem dX8_init_57 : decode cX8_init 57 = .ok (.aload_n 0, 1) := by decide +kernel
theorem dX8_init_58 : decode cX8_init 58 = .ok (.sipush 200, 3) := by decide +kernel
theorem dX8_init_61 : decode cX8_init 61 = .ok (.newarray .int, 2) := by decide +kernel
theorem dX8_init_63 : decode cX8_init 63 = .ok (.putfield 32, 3) := by decide +kernel
theorem dX8_init_66 : decode cX8_init 66 = .ok (.aload_n 0, 1) := by decide +kernel
theorem dX8_init_67 : decode cX8_init 67 = .ok (.bipush 36, 2) := by decide +kernel
theorem dX8_init_69 : decode cX8_init 69 = .ok (.newarray .int, 2) := by decide +kernel
theorem dX8_init_71 : decode cX8_init 71 = .ok (.putfield 35, 3) := by decide +kernel
theorem dX8_init_74 : decode cX8_init 74 = .ok (.aload_n 0, 1) := by decide +kernel
theorem dX8_init_75 : decode cX8_init 75 = .ok (.bipush 36, 2) := by decide +kernel
theorem dX8_init_77 : decode cX8_init 77 = .ok (.newarray .int, 2) := by decide +kernel
theorem dX8_init_79 : decode cX8_init 79 = .ok (.putfield 38, 3) := by decide +kernel
theorem dX8_init_82 : decode cX8_init 82 = .ok (.aload_n 0, 1) := by decide +kernel
theorem dX8_init_83 : decode cX8_init 83 = .ok (.bipush 9, 2) := by decide +kernel
theorem dX8_init_85 : decode cX8_init 85 = .ok (.newarray .int, 2) := by decide +kernel
theorem dX8_init_87 : decode cX8_init 87 = .ok (.putfield 41, 3) := by decide +kernel
theorem dX8_init_90 : decode cX8_init 90 = .ok (.aload_n 0, 1) := by decide +kernel
theorem dX8_init_91 : decode cX8_init 91 = .ok (.bipush 24, 2) := by decide +kernel
theorem dX8_init_93 : decode cX8_init 93 = .ok (.newarray .int, 2) := by decide +kernel
theorem dX8_init_95 : decode cX8_init 95 = .ok (.putfield 44, 3) := by decide +kernel
theorem dX8_init_98 : decode cX8_init 98 = .ok (.aload_n 0, 1) := by decide +kernel
theorem dX8_init_99 : decode cX8_init 99 = .ok (.bipush 8, 2) := by decide +kernel
theorem dX8_init_101 : decode cX8_init 101 = .ok (.newarray .int, 2) := by decide +kernel
theorem dX8_init_103 : decode cX8_init 103 = .ok (.putfield 47, 3) := by decide +kernel
theorem dX8_init_106 : decode cX8_init 106 = .ok (.aload_n 0, 1) := by decide +kernel
theorem dX8_init_107 : decode cX8_init 107 = .ok (.iconst 4, 1) := by decide +kernel
theorem dX8_init_108 : decode cX8_init 108 = .ok (.newarray .int, 2) := by decide +kernel
theorem dX8_init_110 : decode cX8_init 110 = .ok (.putfield 50, 3) := by decide +kernel
theorem dX8_init_113 : decode cX8_init 113 = .ok (.aload_n 0, 1) := by decide +kernel
theorem dX8_init_114 : decode cX8_init 114 = .ok (.iconst 4, 1) := by decide +kernel
theorem dX8_init_115 : decode cX8_init 115 = .ok (.newarray .int, 2) := by decide +kernel
theorem dX8_init_117 : decode cX8_init 117 = .ok (.putfield 53, 3) := by decide +kernel
theorem dX8_init_120 : decode cX8_init 120 = .ok (.aload_n 0, 1) := by decide +kernel
theorem dX8_init_121 : decode cX8_init 121 = .ok (.bipush 8, 2) := by decide +kernel
theorem dX8_init_123 : decode cX8_init 123 = .ok (.newarray .int, 2) := by decide +kernel
theorem dX8_init_125 : decode cX8_init 125 = .ok (.putfield 56, 3) := by decide +kernel
theorem dX8_init_128 : decode cX8_init 128 = .ok (.iconst 0, 1) := by decide +kernel
theorem dX8_init_129 : decode cX8_init 129 = .ok (.istore_n 1, 1) := by decide +kernel
theorem dX8_init_130 : decode cX8_init 130 = .ok (.iload_n 1, 1) := by decide +kernel
theorem dX8_init_131 : decode cX8_init 131 = .ok (.iconst 4, 1) := by decide +kernel
theorem dX8_init_132 : decode cX8_init 132 = .ok (.if_icmp .ge 16, 3) := by decide +kernel
theorem dX8_init_135 : decode cX8_init 135 = .ok (.aload_n 0, 1) := by decide +kernel
theorem dX8_init_136 : decode cX8_init 136 = .ok (.getfield 7, 3) := by decide +kernel
theorem dX8_init_139 : decode cX8_init 139 = .ok (.iload_n 1, 1) := by decide +kernel
theorem dX8_init_140 : decode cX8_init 140 = .ok (.iconst (-1), 1) := by decide +kernel
theorem dX8_init_141 : decode cX8_init 141 = .ok (.iastore, 1) := by decide +kernel
theorem dX8_init_142 : decode cX8_init 142 = .ok (.iinc 1 1, 3) := by decide +kernel
theorem dX8_init_145 : decode cX8_init 145 = .ok (.goto (-15), 3) := by decide +kernel
theorem dX8_init_148 : decode cX8_init 148 = .ok (.iconst 0, 1) := by decide +kernel
theorem dX8_init_149 : decode cX8_init 149 = .ok (.istore_n 1, 1) := by decide +kernel
theorem dX8_init_150 : decode cX8_init 150 = .ok (.iload_n 1, 1) := by decide +kernel
theorem dX8_init_151 : decode cX8_init 151 = .ok (.bipush 8, 2) := by decide +kernel
theorem dX8_init_153 : decode cX8_init 153 = .ok (.if_icmp .ge 17, 3) := by decide +kernel
theorem dX8_init_156 : decode cX8_init 156 = .ok (.aload_n 0, 1) := by decide +kernel
theorem dX8_init_157 : decode cX8_init 157 = .ok (.getfield 56, 3) := by decide +kernel
theorem dX8_init_160 : decode cX8_init 160 = .ok (.iload_n 1, 1) := by decide +kernel
theorem dX8_init_161 : decode cX8_init 161 = .ok (.bipush 8, 2) := by decide +kernel
theorem dX8_init_163 : decode cX8_init 163 = .ok (.iastore, 1) := by decide +kernel
theorem dX8_init_164 : decode cX8_init 164 = .ok (.iinc 1 1, 3) := by decide +kernel
theorem dX8_init_167 : decode cX8_init 167 = .ok (.goto (-17), 3) := by decide +kernel
theorem dX8_init_170 : decode cX8_init 170 = .ok (.return_, 1) := by decide +kernel
theorem dX7_init_0 : decode cX7_init 0 = .ok (.aload_n 0, 1) := by decide +kernel
theorem dX7_init_1 : decode cX7_init 1 = .ok (.invokespecial 1, 3) := by decide +kernel
theorem dX7_init_4 : decode cX7_init 4 = .ok (.aload_n 0, 1) := by decide +kernel
theorem dX7_init_5 : decode cX7_init 5 = .ok (.new 7, 3) := by decide +kernel
theorem dX7_init_8 : decode cX7_init 8 = .ok (.dup, 1) := by decide +kernel
theorem dX7_init_9 : decode cX7_init 9 = .ok (.invokespecial 9, 3) := by decide +kernel
theorem dX7_init_12 : decode cX7_init 12 = .ok (.putfield 10, 3) := by decide +kernel
theorem dX7_init_15 : decode cX7_init 15 = .ok (.aload_n 0, 1) := by decide +kernel
theorem dX7_init_16 : decode cX7_init 16 = .ok (.new 16, 3) := by decide +kernel
theorem dX7_init_19 : decode cX7_init 19 = .ok (.dup, 1) := by decide +kernel
theorem dX7_init_20 : decode cX7_init 20 = .ok (.invokespecial 18, 3) := by decide +kernel
theorem dX7_init_23 : decode cX7_init 23 = .ok (.putfield 19, 3) := by decide +kernel
theorem dX7_init_26 : decode cX7_init 26 = .ok (.aload_n 0, 1) := by decide +kernel
theorem dX7_init_27 : decode cX7_init 27 = .ok (.new 23, 3) := by decide +kernel
theorem dX7_init_30 : decode cX7_init 30 = .ok (.dup, 1) := by decide +kernel
theorem dX7_init_31 : decode cX7_init 31 = .ok (.aload_n 0, 1) := by decide +kernel
theorem dX7_init_32 : decode cX7_init 32 = .ok (.getfield 10, 3) := by decide +kernel
theorem dX7_init_35 : decode cX7_init 35 = .ok (.aload_n 0, 1) := by decide +kernel
theorem dX7_init_36 : decode cX7_init 36 = .ok (.getfield 19, 3) := by decide +kernel
theorem dX7_init_39 : decode cX7_init 39 = .ok (.invokespecial 25, 3) := by decide +kernel
theorem dX7_init_42 : decode cX7_init 42 = .ok (.putfield 28, 3) := by decide +kernel
theorem dX7_init_45 : decode cX7_init 45 = .ok (.aload_n 0, 1) := by decide +kernel
theorem dX7_init_46 : decode cX7_init 46 = .ok (.new 32, 3) := by decide +kernel
theorem dX7_init_49 : decode cX7_init 49 = .ok (.dup, 1) := by decide +kernel
theorem dX7_init_50 : decode cX7_init 50 = .ok (.aload_n 0, 1) := by decide +kernel
theorem dX7_init_51 : decode cX7_init 51 = .ok (.getfield 28, 3) := by decide +kernel
theorem dX7_init_54 : decode cX7_init 54 = .ok (.invokespecial 34, 3) := by decide +kernel
theorem dX7_init_57 : decode cX7_init 57 = .ok (.putfield 37, 3) := by decide +kernel
theorem dX7_init_60 : decode cX7_init 60 = .ok (.aload_n 0, 1) := by decide +kernel
theorem dX7_init_61 : decode cX7_init 61 = .ok (.new 41, 3) := by decide +kernel
theorem dX7_init_64 : decode cX7_init 64 = .ok (.dup, 1) := by decide +kernel
theorem dX7_init_65 : decode cX7_init 65 = .ok (.aload_n 0, 1) := by decide +kernel
theorem dX7_init_66 : decode cX7_init 66 = .ok (.getfield 28, 3) := by decide +kernel
theorem dX7_init_69 : decode cX7_init 69 = .ok (.invokespecial 43, 3) := by decide +kernel
theorem dX7_init_72 : decode cX7_init 72 = .ok (.putfield 44, 3) := by decide +kernel
theorem dX7_init_75 : decode cX7_init 75 = .ok (.aload_n 0, 1) := by decide +kernel
theorem dX7_init_76 : decode cX7_init 76 = .ok (.new 48, 3) := by decide +kernel
theorem dX7_init_79 : decode cX7_init 79 = .ok (.dup, 1) := by decide +kernel
theorem dX7_init_80 : decode cX7_init 80 = .ok (.invokespecial 50, 3) := by decide +kernel
theorem dX7_init_83 : decode cX7_init 83 = .ok (.putfield 51, 3) := by decide +kernel
theorem dX7_init_86 : decode cX7_init 86 = .ok (.aload_n 0, 1) := by decide +kernel
theorem dX7_init_87 : decode cX7_init 87 = .ok (.iconst 4, 1) := by decide +kernel
theorem dX7_init_88 : decode cX7_init 88 = .ok (.anewarray 55, 3) := by decide +kernel
theorem dX7_init_91 : decode cX7_init 91 = .ok (.putfield 57, 3) := by decide +kernel
theorem dX7_init_94 : decode cX7_init 94 = .ok (.aload_n 0, 1) := by decide +kernel
theorem dX7_init_95 : decode cX7_init 95 = .ok (.iconst 0, 1) := by decide +kernel
theorem dX7_init_96 : decode cX7_init 96 = .ok (.putfield 61, 3) := by decide +kernel
theorem dX7_init_99 : decode cX7_init 99 = .ok (.iconst 0, 1) := by decide +kernel
theorem dX7_init_100 : decode cX7_init 100 = .ok (.istore_n 1, 1) := by decide +kernel
theorem dX7_init_101 : decode cX7_init 101 = .ok (.iload_n 1, 1) := by decide +kernel
theorem dX7_init_102 : decode cX7_init 102 = .ok (.iconst 4, 1) := by decide +kernel
theorem dX7_init_103 : decode cX7_init 103 = .ok (.if_icmp .ge 22, 3) := by decide +kernel
theorem dX7_init_106 : decode cX7_init 106 = .ok (.aload_n 0, 1) := by decide +kernel
theorem dX7_init_107 : decode cX7_init 107 = .ok (.getfield 57, 3) := by decide +kernel
theorem dX7_init_110 : decode cX7_init 110 = .ok (.iload_n 1, 1) := by decide +kernel
theorem dX7_init_111 : decode cX7_init 111 = .ok (.new 55, 3) := by decide +kernel
theorem dX7_init_114 : decode cX7_init 114 = .ok (.dup, 1) := by decide +kernel
theorem dX7_init_115 : decode cX7_init 115 = .ok (.invokespecial 65, 3) := by decide +kernel
theorem dX7_init_118 : decode cX7_init 118 = .ok (.aastore, 1) := by decide +kernel
theorem dX7_init_119 : decode cX7_init 119 = .ok (.iinc 1 1, 3) := by decide +kernel
theorem dX7_init_122 : decode cX7_init 122 = .ok (.goto (-21), 3) := by decide +kernel
theorem dX7_init_125 : decode cX7_init 125 = .ok (.return_, 1) := by decide +kernel
