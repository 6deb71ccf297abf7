/-! a board is read -/
section RD
variable {xs : Nat → Int32} {L : Nat} {σ : xS} {B : Nat} {z : List xSt}
theorem E_threadAt (hB : IsBd B) (hz : Ls σ B z) {i : Nat} {s : xSt} (hs : z[i]? = some s) : Cl xs L mX0_threadAt [.ref B, .int (nI i)] GS σ GS (pI σ (nI s.1)) := by
  show Ev xs L mX0_threadAt 0 [.ref B, .int (nI i)] [] GS σ GS _
  have hl := Ls.lt hs
  have h48 := hz.2.1
  refine xe_iload_n dX0_threadAt_0 rfl ?_
  refine xn_if_lt 24 dX0_threadAt_1 (by decide) (by omega) ?_
  refine xe_iload_n dX0_threadAt_4 rfl ?_
  refine xe_aload_n dX0_threadAt_5 rfl ?_
  refine e_getI dX0_threadAt_6 fdX0_28 rfl (bd_k hB) hz.1 ?_
  refine xe_icmp_ge 24 dX0_threadAt_9 (by decide) (fun c => absurd c (nI_ge (Ls.lt hs) (by have := hz.2.1; omega))) (fun _ => ?_)
  refine xe_aload_n dX0_threadAt_12 rfl ?_
  refine e_getA dX0_threadAt_13 fdX0_21 rfl (bd_k hB) (bd_r3 hB) ?_
  refine xe_iload_n dX0_threadAt_16 rfl ?_
  refine e_iald dX0_threadAt_17 (bd_k4 hB) (bd_n4 hB) (by have := hz.2.1; have := Ls.lt hs; omega) (by decide) (hz.2.2.1 i s hs) ?_
  refine xe_bipush (v := nI 15) dX0_threadAt_18 (by decide) ?_
  refine xe_iand dX0_threadAt_20 ?_
  refine xe_goto 25 dX0_threadAt_21 (by decide) ?_
  exact e_iret dX0_threadAt_25 rfl (pkC_t (hz.so hs))
theorem E_fromAt (hB : IsBd B) (hz : Ls σ B z) {i : Nat} {s : xSt} (hs : z[i]? = some s) : Cl xs L mX0_fromAt [.ref B, .int (nI i)] GS σ GS (pI σ (nI s.2.1)) := by
  show Ev xs L mX0_fromAt 0 [.ref B, .int (nI i)] [] GS σ GS _
  have hl := Ls.lt hs
  have h48 := hz.2.1
  refine xe_iload_n dX0_fromAt_0 rfl ?_
  refine xn_if_lt 26 dX0_fromAt_1 (by decide) (by omega) ?_
  refine xe_iload_n dX0_fromAt_4 rfl ?_
  refine xe_aload_n dX0_fromAt_5 rfl ?_
  refine e_getI dX0_fromAt_6 fdX0_28 rfl (bd_k hB) hz.1 ?_
  refine xe_icmp_ge 26 dX0_fromAt_9 (by decide) (fun c => absurd c (nI_ge (Ls.lt hs) (by have := hz.2.1; omega))) (fun _ => ?_)
  refine xe_aload_n dX0_fromAt_12 rfl ?_
  refine e_getA dX0_fromAt_13 fdX0_21 rfl (bd_k hB) (bd_r3 hB) ?_
  refine xe_iload_n dX0_fromAt_16 rfl ?_
  refine e_iald dX0_fromAt_17 (bd_k4 hB) (bd_n4 hB) (by have := hz.2.1; have := Ls.lt hs; omega) (by decide) (hz.2.2.1 i s hs) ?_
  refine xe_iconst (v := nI 4) dX0_fromAt_18 (by decide) ?_
  refine xe_ishr dX0_fromAt_19 ?_
  refine xe_bipush (v := nI 15) dX0_fromAt_20 (by decide) ?_
  refine xe_iand dX0_fromAt_22 ?_
  refine xe_goto 27 dX0_fromAt_23 (by decide) ?_
  exact e_iret dX0_fromAt_27 rfl (pkC_f (hz.so hs))
theorem E_toAt (hB : IsBd B) (hz : Ls σ B z) {i : Nat} {s : xSt} (hs : z[i]? = some s) : Cl xs L mX0_toAt [.ref B, .int (nI i)] GS σ GS (pI σ (nI s.2.2.1)) := by
  show Ev xs L mX0_toAt 0 [.ref B, .int (nI i)] [] GS σ GS _
  have hl := Ls.lt hs
  have h48 := hz.2.1
  refine xe_iload_n dX0_toAt_0 rfl ?_
  refine xn_if_lt 27 dX0_toAt_1 (by decide) (by omega) ?_
  refine xe_iload_n dX0_toAt_4 rfl ?_
  refine xe_aload_n dX0_toAt_5 rfl ?_
  refine e_getI dX0_toAt_6 fdX0_28 rfl (bd_k hB) hz.1 ?_
  refine xe_icmp_ge 27 dX0_toAt_9 (by decide) (fun c => absurd c (nI_ge (Ls.lt hs) (by have := hz.2.1; omega))) (fun _ => ?_)
  refine xe_aload_n dX0_toAt_12 rfl ?_
  refine e_getA dX0_toAt_13 fdX0_21 rfl (bd_k hB) (bd_r3 hB) ?_
  refine xe_iload_n dX0_toAt_16 rfl ?_
  refine e_iald dX0_toAt_17 (bd_k4 hB) (bd_n4 hB) (by have := hz.2.1; have := Ls.lt hs; omega) (by decide) (hz.2.2.1 i s hs) ?_
  refine xe_bipush (v := nI 8) dX0_toAt_18 (by decide) ?_
  refine xe_ishr dX0_toAt_20 ?_
  refine xe_bipush (v := nI 15) dX0_toAt_21 (by decide) ?_
  refine xe_iand dX0_toAt_23 ?_
  refine xe_goto 28 dX0_toAt_24 (by decide) ?_
  exact e_iret dX0_toAt_28 rfl (pkC_o (hz.so hs))
theorem E_placeAt (hB : IsBd B) (hz : Ls σ B z) {i : Nat} {s : xSt} (hs : z[i]? = some s) : Cl xs L mX0_placeAt [.ref B, .int (nI i)] GS σ GS (pI σ (nI s.2.2.2)) := by
  show Ev xs L mX0_placeAt 0 [.ref B, .int (nI i)] [] GS σ GS _
  have hl := Ls.lt hs
  have h48 := hz.2.1
  refine xe_iload_n dX0_placeAt_0 rfl ?_
  refine xn_if_lt 27 dX0_placeAt_1 (by decide) (by omega) ?_
  refine xe_iload_n dX0_placeAt_4 rfl ?_
  refine xe_aload_n dX0_placeAt_5 rfl ?_
  refine e_getI dX0_placeAt_6 fdX0_28 rfl (bd_k hB) hz.1 ?_
  refine xe_icmp_ge 27 dX0_placeAt_9 (by decide) (fun c => absurd c (nI_ge (Ls.lt hs) (by have := hz.2.1; omega))) (fun _ => ?_)
  refine xe_aload_n dX0_placeAt_12 rfl ?_
  refine e_getA dX0_placeAt_13 fdX0_21 rfl (bd_k hB) (bd_r3 hB) ?_
  refine xe_iload_n dX0_placeAt_16 rfl ?_
  refine e_iald dX0_placeAt_17 (bd_k4 hB) (bd_n4 hB) (by have := hz.2.1; have := Ls.lt hs; omega) (by decide) (hz.2.2.1 i s hs) ?_
  refine xe_bipush (v := nI 12) dX0_placeAt_18 (by decide) ?_
  refine xe_ishr dX0_placeAt_20 ?_
  refine xe_bipush (v := nI 15) dX0_placeAt_21 (by decide) ?_
  refine xe_iand dX0_placeAt_23 ?_
  refine xe_goto 28 dX0_placeAt_24 (by decide) ?_
  exact e_iret dX0_placeAt_28 rfl (pkC_p (hz.so hs))
theorem E_packed {G : xG} {t f o p : Nat} (ht : t < 4) (hf : f < 12) (ho : o < 12) (hp : p < 12) : Cl xs L mX0_packed [.int (nI t), .int (nI f), .int (nI o), .int (nI p)] G σ G (pI σ (nI (pkC (t, f, o, p)))) := by
  show Ev xs L mX0_packed 0 [.int (nI t), .int (nI f), .int (nI o), .int (nI p)] [] G σ G _
  refine xe_iload_n dX0_packed_0 rfl ?_
  refine xe_iload_n dX0_packed_1 rfl ?_
  refine xe_iconst (v := nI 4) dX0_packed_2 (by decide) ?_
  refine xe_ishl dX0_packed_3 ?_
  refine xe_ior dX0_packed_4 ?_
  refine xe_iload_n dX0_packed_5 rfl ?_
  refine xe_bipush (v := nI 8) dX0_packed_6 (by decide) ?_
  refine xe_ishl dX0_packed_8 ?_
  refine xe_ior dX0_packed_9 ?_
  refine xe_iload_n dX0_packed_10 rfl ?_
  refine xe_bipush (v := nI 12) dX0_packed_11 (by decide) ?_
  refine xe_ishl dX0_packed_13 ?_
  refine xe_ior dX0_packed_14 ?_
  exact e_iret dX0_packed_15 rfl (pkC_all t ht f hf o ho p hp)
theorem E_size (hB : IsBd B) (hz : Ls σ B z) : Cl xs L mX0_size [.ref B] GS σ GS (pI σ (nI z.length)) := by
  show Ev xs L mX0_size 0 [.ref B] [] GS σ GS _
  refine xe_aload_n dX0_size_0 rfl ?_
  refine e_getI dX0_size_1 fdX0_28 rfl (bd_k hB) hz.1 ?_
  exact e_iret dX0_size_4 rfl (by first | rfl | simp [*])
theorem E_lengthOf (hB : IsBd B) (hz : Ls σ B z) {t : Nat} (ht : t < 2 ^ 31) : Cl xs L mX0_lengthOf [.ref B, .int (nI t)] GS σ GS (pI σ (nI (lenT z t))) := by
  show Ev xs L mX0_lengthOf 0 [.ref B, .int (nI t), .null, .null] [] GS σ GS _
  have h48 := hz.2.1
  have key := goZ z (fun a s => a + if s.1 = t then lnb s.2.1 s.2.2.1 else 0) (fun i a => Ev xs L mX0_lengthOf 4 [.ref B, .int (nI t), .int (nI a), .int (nI i)] [] GS σ GS (pI σ (nI (lenT z t)))) (lenT z t) (by
      refine xe_iload_n dX0_lengthOf_4 rfl ?_
      refine xe_aload_n dX0_lengthOf_5 rfl ?_
      refine e_getI dX0_lengthOf_6 fdX0_28 rfl (bd_k hB) hz.1 ?_
      refine xe_icmp_ge 43 dX0_lengthOf_9 (by decide) (fun _ => ?_) (fun c => absurd (nI_le (Nat.le_refl _) (by omega)) c)
      refine xe_iload_n dX0_lengthOf_43 rfl ?_
      exact e_iret dX0_lengthOf_44 rfl rfl) (by
      intro i s a hs k
      have hl := Ls.lt hs
      obtain ⟨o1, o2, o3, o4⟩ := hz.so hs
      refine xe_iload_n dX0_lengthOf_4 rfl ?_
      refine xe_aload_n dX0_lengthOf_5 rfl ?_
      refine e_getI dX0_lengthOf_6 fdX0_28 rfl (bd_k hB) hz.1 ?_
      refine xe_icmp_ge 43 dX0_lengthOf_9 (by decide) (fun c => absurd c (nI_ge hl (by omega))) (fun _ => ?_)
      refine xe_aload_n dX0_lengthOf_12 rfl ?_
      refine xe_iload_n dX0_lengthOf_13 rfl ?_
      refine e_callVp (E_threadAt hB hz hs) dX0_lengthOf_14 kvX0_44 (bd_k hB) rfl ?_
      refine xe_iload_n dX0_lengthOf_17 rfl ?_
      have go : ∀ b : Nat, b = (a + if s.1 = t then lnb s.2.1 s.2.2.1 else 0) → Ev xs L mX0_lengthOf 37 [.ref B, .int (nI t), .int (nI b), .int (nI i)] [] GS σ GS (pI σ (nI (lenT z t))) := by
        intro b hb
        subst hb
        refine xe_inc dX0_lengthOf_37 rfl (by decide) ?_
        refine xe_goto 4 dX0_lengthOf_40 (by decide) ?_
        rw [nI_1]
        exact k
      refine xn_icmp_ne 37 dX0_lengthOf_18 (by decide) (by omega) (by omega) (fun c => ?_) (fun c => ?_)
      · exact go a (by rw [if_neg c]; rfl)
      · refine xe_iload_n dX0_lengthOf_21 rfl ?_
        refine xe_aload_n dX0_lengthOf_22 rfl ?_
        refine xe_iload_n dX0_lengthOf_23 rfl ?_
        refine e_callVp (E_fromAt hB hz hs) dX0_lengthOf_24 kvX0_48 (bd_k hB) rfl ?_
        refine xe_aload_n dX0_lengthOf_27 rfl ?_
        refine xe_iload_n dX0_lengthOf_28 rfl ?_
        refine e_callVp (E_toAt hB hz hs) dX0_lengthOf_29 kvX0_51 (bd_k hB) rfl ?_
        refine e_callSp (E_lengthBetween o2 o3) dX0_lengthOf_32 ksX0_54 rfl ?_
        refine xe_iadd dX0_lengthOf_35 ?_
        refine xe_istore_n dX0_lengthOf_36 (by decide) ?_
        rw [nI_add]
        exact go _ (by rw [if_pos c])) z.length 0 0 (by omega) (by rw [List.drop_zero, fold_sum, Nat.zero_add]; rfl)
  refine xe_iconst (v := nI 0) dX0_lengthOf_0 (by decide) ?_
  refine xe_istore_n dX0_lengthOf_1 (by decide) ?_
  refine xe_iconst (v := nI 0) dX0_lengthOf_2 (by decide) ?_
  refine xe_istore_n dX0_lengthOf_3 (by decide) ?_
  exact key
theorem E_lengthOfAll (hB : IsBd B) (hz : Ls σ B z) : Cl xs L mX0_lengthOfAll [.ref B] GS σ GS (pI σ (nI (lenA z))) := by
  show Ev xs L mX0_lengthOfAll 0 [.ref B, .null, .null] [] GS σ GS _
  have h48 := hz.2.1
  have key := goZ z (fun a s => a + lnb s.2.1 s.2.2.1) (fun i a => Ev xs L mX0_lengthOfAll 4 [.ref B, .int (nI a), .int (nI i)] [] GS σ GS (pI σ (nI (lenA z)))) (lenA z) (by
      refine xe_iload_n dX0_lengthOfAll_4 rfl ?_
      refine xe_aload_n dX0_lengthOfAll_5 rfl ?_
      refine e_getI dX0_lengthOfAll_6 fdX0_28 rfl (bd_k hB) hz.1 ?_
      refine xe_icmp_ge 34 dX0_lengthOfAll_9 (by decide) (fun _ => ?_) (fun c => absurd (nI_le (Nat.le_refl _) (by omega)) c)
      refine xe_iload_n dX0_lengthOfAll_34 rfl ?_
      exact e_iret dX0_lengthOfAll_35 rfl rfl) (by
      intro i s a hs k
      have hl := Ls.lt hs
      obtain ⟨o1, o2, o3, o4⟩ := hz.so hs
      refine xe_iload_n dX0_lengthOfAll_4 rfl ?_
      refine xe_aload_n dX0_lengthOfAll_5 rfl ?_
      refine e_getI dX0_lengthOfAll_6 fdX0_28 rfl (bd_k hB) hz.1 ?_
      refine xe_icmp_ge 34 dX0_lengthOfAll_9 (by decide) (fun c => absurd c (nI_ge hl (by omega))) (fun _ => ?_)
      refine xe_iload_n dX0_lengthOfAll_12 rfl ?_
      refine xe_aload_n dX0_lengthOfAll_13 rfl ?_
      refine xe_iload_n dX0_lengthOfAll_14 rfl ?_
      refine e_callVp (E_fromAt hB hz hs) dX0_lengthOfAll_15 kvX0_48 (bd_k hB) rfl ?_
      refine xe_aload_n dX0_lengthOfAll_18 rfl ?_
      refine xe_iload_n dX0_lengthOfAll_19 rfl ?_
      refine e_callVp (E_toAt hB hz hs) dX0_lengthOfAll_20 kvX0_51 (bd_k hB) rfl ?_
      refine e_callSp (E_lengthBetween o2 o3) dX0_lengthOfAll_23 ksX0_54 rfl ?_
      refine xe_iadd dX0_lengthOfAll_26 ?_
      refine xe_istore_n dX0_lengthOfAll_27 (by decide) ?_
      refine xe_inc dX0_lengthOfAll_28 rfl (by decide) ?_
      refine xe_goto 4 dX0_lengthOfAll_31 (by decide) ?_
      rw [nI_add, nI_1]
      exact k) z.length 0 0 (by omega) (by rw [List.drop_zero, fold_sum, Nat.zero_add]; rfl)
  refine xe_iconst (v := nI 0) dX0_lengthOfAll_0 (by decide) ?_
  refine xe_istore_n dX0_lengthOfAll_1 (by decide) ?_
  refine xe_iconst (v := nI 0) dX0_lengthOfAll_2 (by decide) ?_
  refine xe_istore_n dX0_lengthOfAll_3 (by decide) ?_
  exact key
/-- of all (th = -1), or of a thread -/
theorem E_crossed (hB : IsBd B) (hz : Ls σ B z) {l f o : Nat} {th : Int32} {p : Nat → Bool} (hl : l ≤ z.length) (hf : f < 12) (ho : o < 12) (hp : (th = -1 ∧ ∀ t, p t = true) ∨ (∃ j : Nat, j < 2 ^ 31 ∧ th = nI j ∧ ¬ th = -1 ∧ ∀ t, p t = (t == j))) : Cl xs L mX0_crossed [.ref B, .int (nI l), .int th, .int (nI f), .int (nI o)] GS σ GS (pI σ (nI (crc p f o (z.drop l)))) := by
  show Ev xs L mX0_crossed 0 [.ref B, .int (nI l), .int th, .int (nI f), .int (nI o), .null, .null] [] GS σ GS _
  have h48 := hz.2.1
  have key := goZ z (fun a s => if p s.1 && crs4 s.2.1 s.2.2.1 f o then a + 1 else a) (fun i a => Ev xs L mX0_crossed 14 [.ref B, .int (nI l), .int th, .int (nI f), .int (nI o), .int (nI a), .int (nI i)] [] GS σ GS (pI σ (nI (crc p f o (z.drop l))))) (crc p f o (z.drop l)) (by
      refine xe_iload dX0_crossed_14 rfl ?_
      refine xe_aload_n dX0_crossed_16 rfl ?_
      refine e_getI dX0_crossed_17 fdX0_28 rfl (bd_k hB) hz.1 ?_
      refine xe_icmp_ge 68 dX0_crossed_20 (by decide) (fun _ => ?_) (fun c => absurd (nI_le (Nat.le_refl _) (by omega)) c)
      refine xe_iload dX0_crossed_68 rfl ?_
      exact e_iret dX0_crossed_70 rfl rfl) (by
      intro i s a hs k
      have hil := Ls.lt hs
      obtain ⟨o1, o2, o3, o4⟩ := hz.so hs
      refine xe_iload dX0_crossed_14 rfl ?_
      refine xe_aload_n dX0_crossed_16 rfl ?_
      refine e_getI dX0_crossed_17 fdX0_28 rfl (bd_k hB) hz.1 ?_
      refine xe_icmp_ge 68 dX0_crossed_20 (by decide) (fun c => absurd c (nI_ge hil (by omega))) (fun _ => ?_)
      refine xe_iload_n dX0_crossed_23 rfl ?_
      refine xe_iconst (v := -1) dX0_crossed_24 (by decide) ?_
      have no : (p s.1 && crs4 s.2.1 s.2.2.1 f o) = false → Ev xs L mX0_crossed 62 [.ref B, .int (nI l), .int th, .int (nI f), .int (nI o), .int (nI a), .int (nI i)] [] GS σ GS (pI σ (nI (crc p f o (z.drop l)))) := by
        intro h
        rw [h] at k
        refine xe_inc dX0_crossed_62 rfl (by decide) ?_
        refine xe_goto 14 dX0_crossed_65 (by decide) ?_
        rw [nI_1]
        exact k
      have yes : p s.1 = true → Ev xs L mX0_crossed 38 [.ref B, .int (nI l), .int th, .int (nI f), .int (nI o), .int (nI a), .int (nI i)] [] GS σ GS (pI σ (nI (crc p f o (z.drop l)))) := by
        intro h
        refine xe_aload_n dX0_crossed_38 rfl ?_
        refine xe_iload dX0_crossed_39 rfl ?_
        refine e_callVp (E_fromAt hB hz hs) dX0_crossed_41 kvX0_48 (bd_k hB) rfl ?_
        refine xe_aload_n dX0_crossed_44 rfl ?_
        refine xe_iload dX0_crossed_45 rfl ?_
        refine e_callVp (E_toAt hB hz hs) dX0_crossed_47 kvX0_51 (bd_k hB) rfl ?_
        refine xe_iload_n dX0_crossed_50 rfl ?_
        refine xe_iload dX0_crossed_51 rfl ?_
        refine e_callSp (E_doCross o2 o3 hf ho) dX0_crossed_53 ksX0_84 rfl ?_
        refine xz_if_eq 62 dX0_crossed_56 (by decide) (fun c => ?_) (fun c => ?_)
        · exact no (by rw [c, Bool.and_false])
        · refine xe_inc dX0_crossed_59 rfl (by decide) ?_
          refine xe_inc dX0_crossed_62 rfl (by decide) ?_
          refine xe_goto 14 dX0_crossed_65 (by decide) ?_
          rw [h, c] at k
          rw [nI_1, nI_1]
          exact k
      rcases hp with ⟨e, h⟩ | ⟨j, hj, e, hn, h⟩
      · subst e
        refine xe_icmp_eq 38 dX0_crossed_25 (by decide) (fun _ => ?_) (fun c => absurd rfl c)
        exact yes (h _)
      · refine xe_icmp_eq 38 dX0_crossed_25 (by decide) (fun c => absurd c hn) (fun _ => ?_)
        refine xe_aload_n dX0_crossed_28 rfl ?_
        refine xe_iload dX0_crossed_29 rfl ?_
        refine e_callVp (E_threadAt hB hz hs) dX0_crossed_31 kvX0_44 (bd_k hB) rfl ?_
        refine xe_iload_n dX0_crossed_34 rfl ?_
        subst e
        refine xn_icmp_ne 62 dX0_crossed_35 (by decide) (by omega) (by omega) (fun c => ?_) (fun c => ?_)
        · exact no (by rw [h, beq_false_of_ne c]; rfl)
        · exact yes (by rw [h, c]; exact beq_self_eq_true _)) (z.length - l) l 0 (by omega) (by rw [fold_cnt, Nat.zero_add]; rfl)
  refine xe_iconst (v := nI 0) dX0_crossed_0 (by decide) ?_
  refine xe_istore dX0_crossed_1 (by decide) ?_
  refine xe_iload_n dX0_crossed_3 rfl ?_
  refine xn_if_ge 11 dX0_crossed_4 (by decide) (by omega) ?_
  refine xe_iload_n dX0_crossed_11 rfl ?_
  refine xe_istore dX0_crossed_12 (by decide) ?_
  exact key
end RD
