/-! small methods that reach no cell -/
section LF
variable {xs : Nat → Int32} {L : Nat} {σ : xS} {G : xG}
def fmod (x y : Int32) : Int32 := if 0 ≤ x ^^^ y then x - x / y * y else if x - x / y * y = 0 then x - x / y * y else x - x / y * y + y
theorem E_floorMod {x y : Int32} (hy : ¬ y = 0) : Cl xs L mJ9_floorMod_7cf53 [.int x, .int y] G σ G (pI σ (fmod x y)) := by
  show Ev xs L mJ9_floorMod_7cf53 0 [.int x, .int y, .null] [] G σ G _
  refine xe_iload_n dJ9_floorMod_7cf53_0 rfl ?_
  refine xe_iload_n dJ9_floorMod_7cf53_1 rfl ?_
  refine xe_irem dJ9_floorMod_7cf53_2 hy ?_
  refine xe_istore_n dJ9_floorMod_7cf53_3 (by decide) ?_
  refine xe_iload_n dJ9_floorMod_7cf53_4 rfl ?_
  refine xe_iload_n dJ9_floorMod_7cf53_5 rfl ?_
  refine xe_ixor dJ9_floorMod_7cf53_6 ?_
  refine xe_if_ge 18 dJ9_floorMod_7cf53_7 (by decide) (fun c7 => ?_) (fun c7 => ?_)
  · refine xe_iload_n dJ9_floorMod_7cf53_18 rfl ?_
    exact e_iret dJ9_floorMod_7cf53_19 rfl (by simp [fmod, *])
  · refine xe_iload_n dJ9_floorMod_7cf53_10 rfl ?_
    refine xe_if_eq 18 dJ9_floorMod_7cf53_11 (by decide) (fun c11 => ?_) (fun c11 => ?_)
    · refine xe_iload_n dJ9_floorMod_7cf53_18 rfl ?_
      exact e_iret dJ9_floorMod_7cf53_19 rfl (by simp [fmod, *])
    · refine xe_iload_n dJ9_floorMod_7cf53_14 rfl ?_
      refine xe_iload_n dJ9_floorMod_7cf53_15 rfl ?_
      refine xe_iadd dJ9_floorMod_7cf53_16 ?_
      exact e_iret dJ9_floorMod_7cf53_17 rfl (by simp [fmod, *])
theorem E_max {x y : Int32} : Cl xs L mJ9_max_7cf53 [.int x, .int y] G σ G (pI σ (if x < y then y else x)) := by
  show Ev xs L mJ9_max_7cf53 0 [.int x, .int y] [] G σ G _
  refine xe_iload_n dJ9_max_7cf53_0 rfl ?_
  refine xe_iload_n dJ9_max_7cf53_1 rfl ?_
  refine xe_icmp_lt 9 dJ9_max_7cf53_2 (by decide) (fun c2 => ?_) (fun c2 => ?_)
  · refine xe_iload_n dJ9_max_7cf53_9 rfl ?_
    exact e_iret dJ9_max_7cf53_10 rfl (by first | rfl | simp [*])
  · refine xe_iload_n dJ9_max_7cf53_5 rfl ?_
    refine xe_goto 10 dJ9_max_7cf53_6 (by decide) ?_
    exact e_iret dJ9_max_7cf53_10 rfl (by first | rfl | simp [*])
theorem E_min {x y : Int32} : Cl xs L mJ9_min_7cf53 [.int x, .int y] G σ G (pI σ (if y < x then y else x)) := by
  show Ev xs L mJ9_min_7cf53 0 [.int x, .int y] [] G σ G _
  refine xe_iload_n dJ9_min_7cf53_0 rfl ?_
  refine xe_iload_n dJ9_min_7cf53_1 rfl ?_
  refine xe_icmp_gt 9 dJ9_min_7cf53_2 (by decide) (fun c2 => ?_) (fun c2 => ?_)
  · refine xe_iload_n dJ9_min_7cf53_9 rfl ?_
    exact e_iret dJ9_min_7cf53_10 rfl (by first | rfl | simp [*])
  · refine xe_iload_n dJ9_min_7cf53_5 rfl ?_
    refine xe_goto 10 dJ9_min_7cf53_6 (by decide) ?_
    exact e_iret dJ9_min_7cf53_10 rfl (by first | rfl | simp [*])
theorem E_abs {x : Int32} : Cl xs L mJ9_abs_0f7a4 [.int x] G σ G (pI σ (if 0 ≤ x then x else -x)) := by
  show Ev xs L mJ9_abs_0f7a4 0 [.int x] [] G σ G _
  refine xe_iload_n dJ9_abs_0f7a4_0 rfl ?_
  refine xe_if_ge 9 dJ9_abs_0f7a4_1 (by decide) (fun c1 => ?_) (fun c1 => ?_)
  · refine xe_iload_n dJ9_abs_0f7a4_9 rfl ?_
    exact e_iret dJ9_abs_0f7a4_10 rfl (by first | rfl | simp [*])
  · refine xe_iload_n dJ9_abs_0f7a4_4 rfl ?_
    refine xe_ineg dJ9_abs_0f7a4_5 ?_
    refine xe_goto 10 dJ9_abs_0f7a4_6 (by decide) ?_
    exact e_iret dJ9_abs_0f7a4_10 rfl (by first | rfl | simp [*])
theorem E_isOutside {x a b : Int32} : Cl xs L mX10_isOutside [.int x, .int a, .int b] G σ G (pI σ (bI (decide (x < a) || !decide (x ≤ b)))) := by
  show Ev xs L mX10_isOutside 0 [.int x, .int a, .int b] [] G σ G _
  refine xe_iload_n dX10_isOutside_0 rfl ?_
  refine xe_iload_n dX10_isOutside_1 rfl ?_
  refine xe_icmp_lt 10 dX10_isOutside_2 (by decide) (fun c2 => ?_) (fun c2 => ?_)
  · refine xe_iconst (v := nI 1) dX10_isOutside_10 (by decide) ?_
    refine xe_goto 15 dX10_isOutside_11 (by decide) ?_
    exact e_zret dX10_isOutside_15 rfl (by simp [bI, nI_0, nI_one, *])
  · refine xe_iload_n dX10_isOutside_5 rfl ?_
    refine xe_iload_n dX10_isOutside_6 rfl ?_
    refine xe_icmp_le 14 dX10_isOutside_7 (by decide) (fun c7 => ?_) (fun c7 => ?_)
    · refine xe_iconst (v := nI 0) dX10_isOutside_14 (by decide) ?_
      exact e_zret dX10_isOutside_15 rfl (by simp [bI, nI_0, nI_one, *])
    · refine xe_iconst (v := nI 1) dX10_isOutside_10 (by decide) ?_
      refine xe_goto 15 dX10_isOutside_11 (by decide) ?_
      exact e_zret dX10_isOutside_15 rfl (by simp [bI, nI_0, nI_one, *])
theorem E_stepsOn {x y : Int32} : Cl xs L mX5_stepsOn [.int x, .int y] G σ G (pI σ (fmod (x + y) 12)) := by
  show Ev xs L mX5_stepsOn 0 [.int x, .int y] [] G σ G _
  refine xe_iload_n dX5_stepsOn_0 rfl ?_
  refine xe_iload_n dX5_stepsOn_1 rfl ?_
  refine xe_iadd dX5_stepsOn_2 ?_
  refine xe_bipush (v := nI 12) dX5_stepsOn_3 (by decide) ?_
  refine e_callSp (E_floorMod (by decide)) dX5_stepsOn_5 ksX5_9 rfl ?_
  exact e_iret dX5_stepsOn_8 rfl (by first | rfl | simp [*])
def japart (x y : Int32) : Int32 := if 12 - fmod (y - x) 12 < fmod (y - x) 12 then 12 - fmod (y - x) 12 else fmod (y - x) 12
theorem E_apart {x y : Int32} : Cl xs L mX5_apart [.int x, .int y] G σ G (pI σ (japart x y)) := by
  show Ev xs L mX5_apart 0 [.int x, .int y, .null] [] G σ G _
  refine xe_iload_n dX5_apart_0 rfl ?_
  refine xe_iload_n dX5_apart_1 rfl ?_
  refine xe_isub dX5_apart_2 ?_
  refine xe_bipush (v := nI 12) dX5_apart_3 (by decide) ?_
  refine e_callSp (E_floorMod (by decide)) dX5_apart_5 ksX5_9 rfl ?_
  refine xe_istore_n dX5_apart_8 (by decide) ?_
  refine xe_iload_n dX5_apart_9 rfl ?_
  refine xe_bipush (v := nI 12) dX5_apart_10 (by decide) ?_
  refine xe_iload_n dX5_apart_12 rfl ?_
  refine xe_isub dX5_apart_13 ?_
  refine e_callSp (E_min) dX5_apart_14 ksX5_15 rfl ?_
  exact e_iret dX5_apart_17 rfl (by first | rfl | simp [*])
/-- how long a stretch is -/
def lnb (a b : Nat) : Nat := ([0, 5, 10, 14, 17, 19, 20, 19, 17, 14, 10, 5] : List Nat).getD (if a < b then b - a else a - b) 0
theorem xlen_n : ∀ j, j < 12 → xlen j = nI (([0, 5, 10, 14, 17, 19, 20, 19, 17, 14, 10, 5] : List Nat).getD j 0) := by decide +kernel
theorem E_lengthBetween {a b : Nat} (ha : a < 12) (hb : b < 12) : Cl xs L mX5_lengthBetween [.int (nI a), .int (nI b)] G σ G (pI σ (nI (lnb a b))) := by
  show Ev xs L mX5_lengthBetween 0 [.int (nI a), .int (nI b), .null] [] G σ G _
  have key : ∀ j : Nat, j < 12 → j = (if a < b then b - a else a - b) → Ev xs L mX5_lengthBetween 14 [.int (nI a), .int (nI b), .null] [.int (nI j)] G σ G (pI σ (nI (lnb a b))) := by
    intro j hj hd
    refine xe_istore_n dX5_lengthBetween_14 (by decide) ?_
    refine xe_iload_n dX5_lengthBetween_15 rfl ?_
    refine xe_gets1 dX5_lengthBetween_16 gw349 ?_
    refine xe_tlen dX5_lengthBetween_19 ?_
    refine xe_icmp_ge 31 dX5_lengthBetween_20 (by decide) (fun c => absurd c (nI_ge (b := 12) hj (by omega))) (fun _ => ?_)
    refine xe_gets1 dX5_lengthBetween_23 gw349 ?_
    refine xe_iload_n dX5_lengthBetween_26 rfl ?_
    refine xe_tald dX5_lengthBetween_27 (vp_in_nI hj (by omega)) ?_
    refine xe_goto 32 dX5_lengthBetween_28 (by decide) ?_
    exact e_iret dX5_lengthBetween_32 rfl (by rw [nI_clamp (by omega), xlen_n j hj, lnb, ← hd])
  refine xe_iload_n dX5_lengthBetween_0 rfl ?_
  refine xe_iload_n dX5_lengthBetween_1 rfl ?_
  refine xn_icmp_ge 11 dX5_lengthBetween_2 (by decide) (by omega) (by omega) (fun c => ?_) (fun c => ?_)
  · refine xe_iload_n dX5_lengthBetween_11 rfl ?_
    refine xe_iload_n dX5_lengthBetween_12 rfl ?_
    refine xe_isub dX5_lengthBetween_13 ?_
    rw [pk_sub (by omega)]
    exact key _ (by omega) (by rw [if_neg (by omega)])
  · refine xe_iload_n dX5_lengthBetween_5 rfl ?_
    refine xe_iload_n dX5_lengthBetween_6 rfl ?_
    refine xe_isub dX5_lengthBetween_7 ?_
    refine xe_goto 14 dX5_lengthBetween_8 (by decide) ?_
    rw [pk_sub (by omega)]
    exact key _ (by omega) (by rw [if_pos (by omega)])
/-- whether two stretches cross -/
def crs4 (a b c d : Nat) : Bool := if a = c ∨ a = d ∨ b = c ∨ b = d then false else ((decide (min a b < c) && decide (c < max a b)) != (decide (min a b < d) && decide (d < max a b)))
theorem E_doCross {a b c d : Nat} (ha : a < 12) (hb : b < 12) (hc : c < 12) (hd : d < 12) : Cl xs L mX5_doCross [.int (nI a), .int (nI b), .int (nI c), .int (nI d)] G σ G (pI σ (bI (crs4 a b c d))) := by
  show Ev xs L mX5_doCross 0 [.int (nI a), .int (nI b), .int (nI c), .int (nI d), .null, .null] [] G σ G _
  have k80 : ∀ (p q : Bool) (lv : List Value), crs4 a b c d = (p != q) → Ev xs L mX5_doCross 80 lv [.int (bI q), .int (bI p)] G σ G (pI σ (bI (crs4 a b c d))) := by
    intro p q lv h
    rw [h]
    refine xe_icmp_eq 87 dX5_doCross_80 (by decide) (fun e8 => ?_) (fun e8 => ?_)
    · refine xe_iconst (v := nI 0) dX5_doCross_87 (by decide) ?_
      exact e_zret dX5_doCross_88 rfl (by cases p <;> cases q <;> first | rfl | exact absurd e8 (by decide))
    · refine xe_iconst (v := nI 1) dX5_doCross_83 (by decide) ?_
      refine xe_goto 88 dX5_doCross_84 (by decide) ?_
      exact e_zret dX5_doCross_88 rfl (by cases p <;> cases q <;> first | rfl | exact absurd rfl e8)
  have k46 : a ≠ c → a ≠ d → b ≠ c → b ≠ d → Ev xs L mX5_doCross 46 [.int (nI a), .int (nI b), .int (nI c), .int (nI d), .int (nI (min a b)), .int (nI (max a b))] [] G σ G (pI σ (bI (crs4 a b c d))) := by
    intro h1 h2 h3 h4
    have k63 : ∀ p : Bool, p = (decide (min a b < c) && decide (c < max a b)) → Ev xs L mX5_doCross 63 [.int (nI a), .int (nI b), .int (nI c), .int (nI d), .int (nI (min a b)), .int (nI (max a b))] [.int (bI p)] G σ G (pI σ (bI (crs4 a b c d))) := by
      intro p hp
      have fin : ∀ q : Bool, q = (decide (min a b < d) && decide (d < max a b)) → crs4 a b c d = (p != q) := by
        intro q hq
        unfold crs4
        rw [if_neg (by omega), ← hp, ← hq]
      refine xe_iload dX5_doCross_63 rfl ?_
      refine xe_iload_n dX5_doCross_65 rfl ?_
      refine xn_icmp_ge 79 dX5_doCross_66 (by decide) (by omega) (by omega) (fun c66 => ?_) (fun c66 => ?_)
      · refine xe_iconst (v := bI false) dX5_doCross_79 (by decide) ?_
        exact k80 p false _ (fin false (by simp; omega))
      · refine xe_iload_n dX5_doCross_69 rfl ?_
        refine xe_iload dX5_doCross_70 rfl ?_
        refine xn_icmp_ge 79 dX5_doCross_72 (by decide) (by omega) (by omega) (fun c72 => ?_) (fun c72 => ?_)
        · refine xe_iconst (v := bI false) dX5_doCross_79 (by decide) ?_
          exact k80 p false _ (fin false (by simp; omega))
        · refine xe_iconst (v := bI true) dX5_doCross_75 (by decide) ?_
          refine xe_goto 80 dX5_doCross_76 (by decide) ?_
          exact k80 p true _ (fin true (by simp; omega))
    refine xe_iload dX5_doCross_46 rfl ?_
    refine xe_iload_n dX5_doCross_48 rfl ?_
    refine xn_icmp_ge 62 dX5_doCross_49 (by decide) (by omega) (by omega) (fun c49 => ?_) (fun c49 => ?_)
    · refine xe_iconst (v := bI false) dX5_doCross_62 (by decide) ?_
      exact k63 false (by simp; omega)
    · refine xe_iload_n dX5_doCross_52 rfl ?_
      refine xe_iload dX5_doCross_53 rfl ?_
      refine xn_icmp_ge 62 dX5_doCross_55 (by decide) (by omega) (by omega) (fun c55 => ?_) (fun c55 => ?_)
      · refine xe_iconst (v := bI false) dX5_doCross_62 (by decide) ?_
        exact k63 false (by simp; omega)
      · refine xe_iconst (v := bI true) dX5_doCross_58 (by decide) ?_
        refine xe_goto 63 dX5_doCross_59 (by decide) ?_
        exact k63 true (by simp; omega)
  have no : (a = c ∨ a = d ∨ b = c ∨ b = d) → crs4 a b c d = false := fun h => if_pos h
  have k20 : ∀ lv : List Value, (a = c ∨ a = d ∨ b = c ∨ b = d) → Ev xs L mX5_doCross 20 lv [] G σ G (pI σ (bI (crs4 a b c d))) := by
    intro lv h
    refine xe_iconst (v := nI 0) dX5_doCross_20 (by decide) ?_
    exact e_zret dX5_doCross_21 rfl (by rw [no h]; rfl)
  refine xe_iload_n dX5_doCross_0 rfl ?_
  refine xe_iload_n dX5_doCross_1 rfl ?_
  refine xn_icmp_eq 20 dX5_doCross_2 (by decide) (by omega) (by omega) (fun c2 => ?_) (fun c2 => ?_)
  · exact k20 _ (by omega)
  refine xe_iload_n dX5_doCross_5 rfl ?_
  refine xe_iload_n dX5_doCross_6 rfl ?_
  refine xn_icmp_eq 20 dX5_doCross_7 (by decide) (by omega) (by omega) (fun c7 => ?_) (fun c7 => ?_)
  · exact k20 _ (by omega)
  refine xe_iload_n dX5_doCross_10 rfl ?_
  refine xe_iload_n dX5_doCross_11 rfl ?_
  refine xn_icmp_eq 20 dX5_doCross_12 (by decide) (by omega) (by omega) (fun c12 => ?_) (fun c12 => ?_)
  · exact k20 _ (by omega)
  refine xe_iload_n dX5_doCross_15 rfl ?_
  refine xe_iload_n dX5_doCross_16 rfl ?_
  refine xn_icmp_ne 22 dX5_doCross_17 (by decide) (by omega) (by omega) (fun c17 => ?_) (fun c17 => ?_)
  · refine xe_iload_n dX5_doCross_22 rfl ?_
    refine xe_iload_n dX5_doCross_23 rfl ?_
    refine xn_icmp_ge 31 dX5_doCross_24 (by decide) (by omega) (by omega) (fun c24 => ?_) (fun c24 => ?_)
    · refine xe_iload_n dX5_doCross_31 rfl ?_
      refine xe_istore dX5_doCross_32 (by decide) ?_
      refine xe_iload_n dX5_doCross_34 rfl ?_
      refine xe_iload_n dX5_doCross_35 rfl ?_
      refine xn_icmp_ge 43 dX5_doCross_36 (by decide) (by omega) (by omega) (fun c36 => ?_) (fun c36 => ?_)
      · refine xe_iload_n dX5_doCross_43 rfl ?_
        refine xe_istore dX5_doCross_44 (by decide) ?_
        have e1 : min a b = b := by omega
        have e2 : max a b = a := by omega
        have k := k46 c2 c7 c12 c17
        rw [e1, e2] at k
        exact k
      · omega
    · refine xe_iload_n dX5_doCross_27 rfl ?_
      refine xe_goto 32 dX5_doCross_28 (by decide) ?_
      refine xe_istore dX5_doCross_32 (by decide) ?_
      refine xe_iload_n dX5_doCross_34 rfl ?_
      refine xe_iload_n dX5_doCross_35 rfl ?_
      refine xn_icmp_ge 43 dX5_doCross_36 (by decide) (by omega) (by omega) (fun c36 => ?_) (fun c36 => ?_)
      · omega
      · refine xe_iload_n dX5_doCross_39 rfl ?_
        refine xe_goto 44 dX5_doCross_40 (by decide) ?_
        refine xe_istore dX5_doCross_44 (by decide) ?_
        have e1 : min a b = a := by omega
        have e2 : max a b = b := by omega
        have k := k46 c2 c7 c12 c17
        rw [e1, e2] at k
        exact k
  · exact k20 _ (by omega)
end LF
