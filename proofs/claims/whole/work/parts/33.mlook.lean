/-! the model: what is counted on a level -/
/-- nothing but one array has changed -/
def FA (a : Nat) (σ t : xS) : Prop := (∀ c, c ≠ a → t.1 c = σ.1 c) ∧ t.2 = σ.2
theorem FA.rf (a : Nat) (σ : xS) : FA a σ σ := ⟨fun _ _ => rfl, rfl⟩
theorem FA.tr {a : Nat} {σ t u : xS} (h1 : FA a σ t) (h2 : FA a t u) : FA a σ u := ⟨fun c hc => (h2.1 c hc).trans (h1.1 c hc), h2.2.trans h1.2⟩
theorem FA.pi {a : Nat} {σ t : xS} (k : Nat) (x : Int32) (h : FA a σ t) : FA a σ (xpi t a k x) := ⟨fun c hc => (xpi_ne t k x hc).trans (h.1 c hc), h.2⟩
theorem Lv.fa {a : Nat} {σ t : xS} {v : Nat} {P : xP} (h : Lv σ v P) (f : FA a σ t) (ha : a ≠ 112) : Lv t v P := h.to (fun k _ _ => by rw [f.1 112 (Ne.symm ha)])
/-- the model's lines -/
def Ln (σ : xS) (J : Nat → Nat) : Prop := ∀ k, k < 144 → σ.1 117 k = nI (b1 (li J k))
theorem cnt_and (b : Bool) (q : xSt → Bool) (z : List xSt) : z.countP (fun w => b && q w) = if b then z.countP q else 0 := by
  cases b with
  | false => rw [if_neg (by decide)]; exact List.countP_eq_zero.mpr (fun w _ => by simp)
  | true => simp
theorem anyN_add (p : Nat → Bool) : ∀ a b i, anyN p i (a + b) = (anyN p i a || anyN p (i + a) b)
  | 0, b, i => by rw [Nat.zero_add, Nat.add_zero]; rfl
  | a + 1, b, i => by
    rw [show a + 1 + b = (a + b) + 1 by omega]
    show (p i || anyN p (i + 1) (a + b)) = ((p i || anyN p (i + 1) a) || _)
    rw [anyN_add p a b (i + 1), show i + 1 + a = i + (a + 1) by omega, Bool.or_assoc]
theorem anyN_f {p : Nat → Bool} : ∀ k i, (∀ j, i ≤ j → j < i + k → p j = false) → anyN p i k = false
  | 0, _, _ => rfl
  | k + 1, i, h => by
    show (p i || anyN p (i + 1) k) = false
    rw [h i (by omega) (by omega), anyN_f k (i + 1) (fun j h1 h2 => h j (by omega) (by omega))]
    rfl
section MK
variable {xs : Nat → Int32} {L : Nat} {σ : xS} {v : Nat} {P : xP} {G : xG}
theorem M_ones {u : Nat} (hu : u < 2 ^ 31) : Cl xs L mX11_ones [.int (nI u)] G σ G (pI σ (nI (pc u))) := by
  show Ev xs L mX11_ones 0 [.int (nI u), .null, .null] [] G σ G _
  have key := goN 12 (fun c k => c + b1 (u.testBit k)) (fun i a => Ev xs L mX11_ones 4 [.int (nI u), .int (nI a), .int (nI i)] [] G σ G (pI σ (nI (pc u)))) (pc u) (by
      refine xe_iload_n dX11_ones_4 rfl ?_
      refine xe_bipush (v := nI 12) dX11_ones_5 (by decide) ?_
      refine xe_icmp_ge 24 dX11_ones_7 (by decide) (fun _ => ?_) (fun c => absurd (by decide) c)
      refine xe_iload_n dX11_ones_24 rfl ?_
      exact e_iret dX11_ones_25 rfl rfl) (by
      intro i a hi k
      refine xe_iload_n dX11_ones_4 rfl ?_
      refine xe_bipush (v := nI 12) dX11_ones_5 (by decide) ?_
      refine xe_icmp_ge 24 dX11_ones_7 (by decide) (fun c => absurd c (nI_ge hi (by omega))) (fun _ => ?_)
      refine xe_iload_n dX11_ones_10 rfl ?_
      refine xe_iload_n dX11_ones_11 rfl ?_
      refine xe_iload_n dX11_ones_12 rfl ?_
      refine xe_ishr dX11_ones_13 ?_
      refine xe_iconst (v := nI 1) dX11_ones_14 (by decide) ?_
      refine xe_iand dX11_ones_15 ?_
      rw [bit_n hu (by omega)]
      first | refine xn_iadd dX11_ones_16 ?_ | refine xe_iadd dX11_ones_16 ?_
      refine xe_istore_n dX11_ones_17 (by decide) ?_
      refine xn_inc dX11_ones_18 rfl (by decide) ?_
      refine xe_goto 4 dX11_ones_21 (by decide) ?_
      exact k) 12 0 0 rfl (by rw [foldN_rS (f := fun k => b1 (u.testBit k)) (fun _ _ => rfl), Nat.zero_add]; exact (pcf_rS 12 u).symm)
  refine xe_iconst (v := nI 0) dX11_ones_0 (by decide) ?_
  refine xe_istore_n dX11_ones_1 (by decide) ?_
  refine xe_iconst (v := nI 0) dX11_ones_2 (by decide) ?_
  refine xe_istore_n dX11_ones_3 (by decide) ?_
  exact key
theorem M_crossesOf (h : Lv σ v P) {u : Nat} (hu : u < 2 ^ 31) : Cl xs L mX11_crossesOf [.ref 110, .int (nI v), .int (nI u)] GS σ GS (pI σ (nI (csz u P.2.2.2))) := by
  show Ev xs L mX11_crossesOf 0 [.ref 110, .int (nI v), .int (nI u), .null, .null, .null, .null] [] GS σ GS _
  have h48 := h.2.1.len
  have key : ∀ k i a (w1 w2 : Value), i + k = P.2.2.2.length → a + csz u (P.2.2.2.drop i) = csz u P.2.2.2 → Ev xs L mX11_crossesOf 5 [.ref 110, .int (nI v), .int (nI u), .int (nI a), .int (nI i), w1, w2] [] GS σ GS (pI σ (nI (csz u P.2.2.2))) := by
    intro k
    induction k with
    | zero =>
      intro i a w1 w2 hi ha
      have e : i = P.2.2.2.length := by omega
      subst e
      rw [List.drop_length] at ha
      refine xe_iload dX11_crossesOf_5 rfl ?_
      refine xe_aload_n dX11_crossesOf_7 rfl ?_
      refine xe_iload_n dX11_crossesOf_8 rfl ?_
      refine e_callVp (G := GS) (r := 110) (M_many h) dX11_crossesOf_9 kvX11_121 gk_110 rfl ?_
      refine xe_icmp_ge 117 dX11_crossesOf_12 (by decide) (fun _ => ?_) (fun c => absurd (nI_le (Nat.le_refl _) (by omega)) c)
      refine xe_iload_n dX11_crossesOf_117 rfl ?_
      exact e_iret dX11_crossesOf_118 rfl (by rw [← ha]; rfl)
    | succ k ih =>
      intro i a w1 w2 hi ha
      have hl : i < P.2.2.2.length := by omega
      have hs : P.2.2.2[i]? = some P.2.2.2[i] := List.getElem?_eq_getElem hl
      rw [List.drop_eq_getElem_cons hl] at ha
      generalize P.2.2.2[i] = s at hs ha
      obtain ⟨o1, o2, o3, o4⟩ := h.so hs
      have ha : a + ((if u.testBit s.1 then (P.2.2.2.drop (i + 1)).countP (fun w => u.testBit w.1 && crS s w) else 0) + csz u (P.2.2.2.drop (i + 1))) = csz u P.2.2.2 := ha
      have inner := goZ P.2.2.2 (fun c w => if u.testBit s.1 && (u.testBit w.1 && crS s w) then c + 1 else c) (fun e c => ∀ w2 : Value, Ev xs L mX11_crossesOf 21 [.ref 110, .int (nI v), .int (nI u), .int (nI c), .int (nI i), .int (nI e), w2] [] GS σ GS (pI σ (nI (csz u P.2.2.2)))) (a + (if u.testBit s.1 then (P.2.2.2.drop (i + 1)).countP (fun w => u.testBit w.1 && crS s w) else 0)) (by
          intro w2
          refine xe_iload dX11_crossesOf_21 rfl ?_
          refine xe_aload_n dX11_crossesOf_23 rfl ?_
          refine xe_iload_n dX11_crossesOf_24 rfl ?_
          refine e_callVp (G := GS) (r := 110) (M_many h) dX11_crossesOf_25 kvX11_121 gk_110 rfl ?_
          refine xe_icmp_ge 111 dX11_crossesOf_28 (by decide) (fun _ => ?_) (fun c => absurd (nI_le (Nat.le_refl _) (by omega)) c)
          refine xn_inc dX11_crossesOf_111 rfl (by decide) ?_
          refine xe_goto 5 dX11_crossesOf_114 (by decide) ?_
          exact ih (i + 1) _ _ _ (by omega) (by omega)) (by
          intro e x c hx kk w2
          have hl2 := Ls.lt hx
          obtain ⟨p1, p2, p3, p4⟩ := h.so hx
          have no : (u.testBit s.1 && (u.testBit x.1 && crS s x)) = false → ∀ w : Value, Ev xs L mX11_crossesOf 102 [.ref 110, .int (nI v), .int (nI u), .int (nI c), .int (nI i), .int (nI e), w] [.int (nI c)] GS σ GS (pI σ (nI (csz u P.2.2.2))) := by
            intro hn w
            rw [hn] at kk
            refine xe_iconst (v := nI 0) dX11_crossesOf_102 (by decide) ?_
            first | refine xn_iadd dX11_crossesOf_103 ?_ | refine xe_iadd dX11_crossesOf_103 ?_
            refine xe_istore_n dX11_crossesOf_104 (by decide) ?_
            refine xn_inc dX11_crossesOf_105 rfl (by decide) ?_
            refine xe_goto 21 dX11_crossesOf_108 (by decide) ?_
            exact kk _
          have nb : (u.testBit s.1 && u.testBit x.1) = false → Ev xs L mX11_crossesOf 69 [.ref 110, .int (nI v), .int (nI u), .int (nI c), .int (nI i), .int (nI e), w2] [] GS σ GS (pI σ (nI (csz u P.2.2.2))) := by
            intro hn
            refine xe_iconst (v := nI 0) dX11_crossesOf_69 (by decide) ?_
            refine xe_istore dX11_crossesOf_70 (by decide) ?_
            refine xe_iload_n dX11_crossesOf_72 rfl ?_
            refine xe_iload dX11_crossesOf_73 rfl ?_
            refine xe_if_eq 102 dX11_crossesOf_75 (by decide) (fun _ => ?_) (fun c => absurd rfl c)
            exact no (by rw [← Bool.and_assoc, hn]; rfl) _
          refine xe_iload dX11_crossesOf_21 rfl ?_
          refine xe_aload_n dX11_crossesOf_23 rfl ?_
          refine xe_iload_n dX11_crossesOf_24 rfl ?_
          refine e_callVp (G := GS) (r := 110) (M_many h) dX11_crossesOf_25 kvX11_121 gk_110 rfl ?_
          refine xe_icmp_ge 111 dX11_crossesOf_28 (by decide) (fun c => absurd c (nI_ge hl2 (by omega))) (fun _ => ?_)
          refine xe_iload_n dX11_crossesOf_31 rfl ?_
          refine xe_aload_n dX11_crossesOf_32 rfl ?_
          refine xe_iload_n dX11_crossesOf_33 rfl ?_
          refine xe_iload dX11_crossesOf_34 rfl ?_
          refine e_callVp (G := GS) (r := 110) (M_laid h hs) dX11_crossesOf_36 kvX11_124 gk_110 rfl ?_
          refine e_callSp (M_threadOf (h.so hs)) dX11_crossesOf_39 ksX11_127 rfl ?_
          refine e_callSp (M_has hu (show s.1 < 32 by omega)) dX11_crossesOf_42 ksX11_201 rfl ?_
          refine xz_if_eq 69 dX11_crossesOf_45 (by decide) (fun c1 => ?_) (fun c1 => ?_)
          · exact nb (by rw [c1]; rfl)
          refine xe_iload_n dX11_crossesOf_48 rfl ?_
          refine xe_aload_n dX11_crossesOf_49 rfl ?_
          refine xe_iload_n dX11_crossesOf_50 rfl ?_
          refine xe_iload dX11_crossesOf_51 rfl ?_
          refine e_callVp (G := GS) (r := 110) (M_laid h hx) dX11_crossesOf_53 kvX11_124 gk_110 rfl ?_
          refine e_callSp (M_threadOf (h.so hx)) dX11_crossesOf_56 ksX11_127 rfl ?_
          refine e_callSp (M_has hu (show x.1 < 32 by omega)) dX11_crossesOf_59 ksX11_201 rfl ?_
          refine xz_if_eq 69 dX11_crossesOf_62 (by decide) (fun c2 => ?_) (fun c2 => ?_)
          · exact nb (by rw [c2, Bool.and_false])
          refine xe_iconst (v := nI 1) dX11_crossesOf_65 (by decide) ?_
          refine xe_goto 70 dX11_crossesOf_66 (by decide) ?_
          refine xe_istore dX11_crossesOf_70 (by decide) ?_
          refine xe_iload_n dX11_crossesOf_72 rfl ?_
          refine xe_iload dX11_crossesOf_73 rfl ?_
          refine xe_if_eq 102 dX11_crossesOf_75 (by decide) (fun c => absurd c (by decide)) (fun _ => ?_)
          refine xe_aload_n dX11_crossesOf_78 rfl ?_
          refine xe_iload_n dX11_crossesOf_79 rfl ?_
          refine xe_iload dX11_crossesOf_80 rfl ?_
          refine e_callVp (G := GS) (r := 110) (M_laid h hs) dX11_crossesOf_82 kvX11_124 gk_110 rfl ?_
          refine xe_aload_n dX11_crossesOf_85 rfl ?_
          refine xe_iload_n dX11_crossesOf_86 rfl ?_
          refine xe_iload dX11_crossesOf_87 rfl ?_
          refine e_callVp (G := GS) (r := 110) (M_laid h hx) dX11_crossesOf_89 kvX11_124 gk_110 rfl ?_
          refine e_callSp (M_crossOnes (h.so hs) (h.so hx)) dX11_crossesOf_92 ksX11_156 rfl ?_
          refine xz_if_eq 102 dX11_crossesOf_95 (by decide) (fun c3 => ?_) (fun c3 => ?_)
          · exact no (by rw [c3, Bool.and_false, Bool.and_false]) _
          rw [c1, c2, c3] at kk
          refine xe_iconst (v := nI 1) dX11_crossesOf_98 (by decide) ?_
          refine xe_goto 103 dX11_crossesOf_99 (by decide) ?_
          first | refine xn_iadd dX11_crossesOf_103 ?_ | refine xe_iadd dX11_crossesOf_103 ?_
          refine xe_istore_n dX11_crossesOf_104 (by decide) ?_
          refine xn_inc dX11_crossesOf_105 rfl (by decide) ?_
          refine xe_goto 21 dX11_crossesOf_108 (by decide) ?_
          exact kk _) (P.2.2.2.length - (i + 1)) (i + 1) a (by omega) (by rw [fold_cnt, cnt_and])
      refine xe_iload dX11_crossesOf_5 rfl ?_
      refine xe_aload_n dX11_crossesOf_7 rfl ?_
      refine xe_iload_n dX11_crossesOf_8 rfl ?_
      refine e_callVp (G := GS) (r := 110) (M_many h) dX11_crossesOf_9 kvX11_121 gk_110 rfl ?_
      refine xe_icmp_ge 117 dX11_crossesOf_12 (by decide) (fun c => absurd c (nI_ge hl (by omega))) (fun _ => ?_)
      refine xe_iload dX11_crossesOf_15 rfl ?_
      refine xe_iconst (v := nI 1) dX11_crossesOf_17 (by decide) ?_
      first | refine xn_iadd dX11_crossesOf_18 ?_ | refine xe_iadd dX11_crossesOf_18 ?_
      refine xe_istore dX11_crossesOf_19 (by decide) ?_
      exact inner w2
  refine xe_iconst (v := nI 0) dX11_crossesOf_0 (by decide) ?_
  refine xe_istore_n dX11_crossesOf_1 (by decide) ?_
  refine xe_iconst (v := nI 0) dX11_crossesOf_2 (by decide) ?_
  refine xe_istore dX11_crossesOf_3 (by decide) ?_
  exact key P.2.2.2.length 0 0 .null .null (by omega) (by rw [List.drop_zero, Nat.zero_add])
theorem M_crossesOfTwo (h : Lv σ v P) {a b : Nat} (ha : a < 4) (hb : b < 4) : Cl xs L mX11_crossesOfTwo [.ref 110, .int (nI v), .int (nI a), .int (nI b)] GS σ GS (pI σ (nI (cro P.2.2.2 a b))) := by
  show Ev xs L mX11_crossesOfTwo 0 [.ref 110, .int (nI v), .int (nI a), .int (nI b), .null] [] GS σ GS _
  have hz : ∀ s ∈ P.2.2.2, SO s := fun s hs => (h.2.1.2.2.1 s hs).2
  have e2 := csz_two hz ha hb
  have p1 : 2 ^ a < 2 ^ 31 := Nat.pow_lt_pow_right (by decide) (by omega)
  have p2 : 2 ^ b < 2 ^ 31 := Nat.pow_lt_pow_right (by decide) (by omega)
  refine xe_aload_n dX11_crossesOfTwo_0 rfl ?_
  refine xe_iload_n dX11_crossesOfTwo_1 rfl ?_
  refine xe_iconst (v := nI 1) dX11_crossesOfTwo_2 (by decide) ?_
  refine xe_iload_n dX11_crossesOfTwo_3 rfl ?_
  refine xe_ishl dX11_crossesOfTwo_4 ?_
  refine xe_iconst (v := nI 1) dX11_crossesOfTwo_5 (by decide) ?_
  refine xe_iload_n dX11_crossesOfTwo_6 rfl ?_
  refine xe_ishl dX11_crossesOfTwo_7 ?_
  refine xe_ior dX11_crossesOfTwo_8 ?_
  rw [bit_shl (by omega), bit_shl (by omega), nI_or]
  refine e_callVp (G := GS) (r := 110) (M_crossesOf h (Nat.or_lt_two_pow p1 p2)) dX11_crossesOfTwo_9 kvX11_204 gk_110 rfl ?_
  refine xe_istore dX11_crossesOfTwo_12 (by decide) ?_
  refine xe_iload_n dX11_crossesOfTwo_14 rfl ?_
  refine xe_iload_n dX11_crossesOfTwo_15 rfl ?_
  refine xn_icmp_ne 24 dX11_crossesOfTwo_16 (by decide) (by omega) (by omega) (fun c => ?_) (fun c => ?_)
  · rw [if_neg c] at e2
    refine xe_iload dX11_crossesOfTwo_24 rfl ?_
    refine xe_aload_n dX11_crossesOfTwo_26 rfl ?_
    refine xe_iload_n dX11_crossesOfTwo_27 rfl ?_
    refine xe_iconst (v := nI 1) dX11_crossesOfTwo_28 (by decide) ?_
    refine xe_iload_n dX11_crossesOfTwo_29 rfl ?_
    refine xe_ishl dX11_crossesOfTwo_30 ?_
    rw [bit_shl (show a < 31 by omega)]
    refine e_callVp (G := GS) (r := 110) (M_crossesOf h p1) dX11_crossesOfTwo_31 kvX11_204 gk_110 rfl ?_
    refine xn_isub dX11_crossesOfTwo_34 (by omega) ?_
    refine xe_aload_n dX11_crossesOfTwo_35 rfl ?_
    refine xe_iload_n dX11_crossesOfTwo_36 rfl ?_
    refine xe_iconst (v := nI 1) dX11_crossesOfTwo_37 (by decide) ?_
    refine xe_iload_n dX11_crossesOfTwo_38 rfl ?_
    refine xe_ishl dX11_crossesOfTwo_39 ?_
    rw [bit_shl (show b < 31 by omega)]
    refine e_callVp (G := GS) (r := 110) (M_crossesOf h p2) dX11_crossesOfTwo_40 kvX11_204 gk_110 rfl ?_
    refine xn_isub dX11_crossesOfTwo_43 (by omega) ?_
    exact e_iret dX11_crossesOfTwo_44 rfl (by congr 1; omega)
  · rw [if_pos c] at e2
    refine xe_iload dX11_crossesOfTwo_19 rfl ?_
    refine xe_goto 44 dX11_crossesOfTwo_21 (by decide) ?_
    exact e_iret dX11_crossesOfTwo_44 rfl (by rw [e2])
theorem M_findLines (h : Lv σ v P) : Cl xs L mX11_findLines [.ref 110, .int (nI v)] GS σ GS (fun w t => w = none ∧ Ln t (jm P.2.2.2) ∧ FA 117 σ t) := by
  show Ev xs L mX11_findLines 0 [.ref 110, .int (nI v), .null, .null, .null] [] GS σ GS _
  have h48 := h.2.1.len
  have key2 : ∀ k i (t : xS) (w1 w2 : Value), i + k = P.2.2.2.length → Ln t (jm (P.2.2.2.take i)) → FA 117 σ t → Ev xs L mX11_findLines 24 [.ref 110, .int (nI v), .int (nI i), w1, w2] [] GS t GS (fun w t => w = none ∧ Ln t (jm P.2.2.2) ∧ FA 117 σ t) := by
    intro k
    induction k with
    | zero =>
      intro i t w1 w2 hi ht hf
      have h2 := h.fa hf (by decide)
      refine xe_iload_n dX11_findLines_24 rfl ?_
      refine xe_aload_n dX11_findLines_25 rfl ?_
      refine xe_iload_n dX11_findLines_26 rfl ?_
      refine e_callVp (G := GS) (r := 110) (M_many h2) dX11_findLines_27 kvX11_121 gk_110 rfl ?_
      refine xe_icmp_ge 89 dX11_findLines_30 (by decide) (fun _ => ?_) (fun c => absurd (nI_le (by omega) (by omega)) c)
      rw [List.take_of_length_le (by omega)] at ht
      exact xe_vret dX11_findLines_89 rfl ⟨rfl, ht, hf⟩
    | succ k ih =>
      intro i t w1 w2 hi ht hf
      have h2 := h.fa hf (by decide)
      have hl : i < P.2.2.2.length := by omega
      have hs : P.2.2.2[i]? = some P.2.2.2[i] := List.getElem?_eq_getElem hl
      generalize P.2.2.2[i] = s at hs
      obtain ⟨o1, o2, o3, o4⟩ := h.so hs
      have hn := h.ne hs
      have et : P.2.2.2.take (i + 1) = P.2.2.2.take i ++ [s] := by rw [List.take_add_one, hs]; rfl
      have go : ∀ (m : Nat) (w1 w2 : Value), m < 144 → m = (if s.2.1 < s.2.2.1 then 12 * s.2.1 + s.2.2.1 else 12 * s.2.2.1 + s.2.1) → Ev xs L mX11_findLines 81 [.ref 110, .int (nI v), .int (nI i), w1, w2] [.int (nI m), .ref 117] GS t GS (fun w t => w = none ∧ Ln t (jm P.2.2.2) ∧ FA 117 σ t) := by
        intro m w1 w2 hm em
        refine xe_iconst (v := nI 1) dX11_findLines_81 (by decide) ?_
        refine e_iast (G := GS) (a := 117) dX11_findLines_82 gk_117 gn_117 (by omega) (by decide) ?_
        refine xn_inc dX11_findLines_83 rfl (by decide) ?_
        refine xe_goto 24 dX11_findLines_86 (by decide) ?_
        refine ih (i + 1) _ _ _ (by omega) (fun q hq => ?_) (hf.pi _ _)
        rw [et, li_app _ o2 o3 hn hq, ← em]
        by_cases e : q = m
        · rw [xpi_rd, if_pos (by omega), decide_eq_true e, Bool.or_true]
          rfl
        · rw [xpi_rd, if_neg (by omega), decide_eq_false e, Bool.or_false]
          exact ht q hq
      refine xe_iload_n dX11_findLines_24 rfl ?_
      refine xe_aload_n dX11_findLines_25 rfl ?_
      refine xe_iload_n dX11_findLines_26 rfl ?_
      refine e_callVp (G := GS) (r := 110) (M_many h2) dX11_findLines_27 kvX11_121 gk_110 rfl ?_
      refine xe_icmp_ge 89 dX11_findLines_30 (by decide) (fun c => absurd c (nI_ge hl (by omega))) (fun _ => ?_)
      refine xe_aload_n dX11_findLines_33 rfl ?_
      refine xe_iload_n dX11_findLines_34 rfl ?_
      refine xe_iload_n dX11_findLines_35 rfl ?_
      refine e_callVp (G := GS) (r := 110) (M_laid h2 hs) dX11_findLines_36 kvX11_124 gk_110 rfl ?_
      refine e_callSp (M_fromOf (h.so hs)) dX11_findLines_39 ksX11_61 rfl ?_
      refine xe_istore_n dX11_findLines_42 (by decide) ?_
      refine xe_aload_n dX11_findLines_43 rfl ?_
      refine xe_iload_n dX11_findLines_44 rfl ?_
      refine xe_iload_n dX11_findLines_45 rfl ?_
      refine e_callVp (G := GS) (r := 110) (M_laid h2 hs) dX11_findLines_46 kvX11_124 gk_110 rfl ?_
      refine e_callSp (M_toOf (h.so hs)) dX11_findLines_49 ksX11_65 rfl ?_
      refine xe_istore dX11_findLines_52 (by decide) ?_
      refine xe_aload_n dX11_findLines_54 rfl ?_
      refine e_getA (G := GS) (r := 110) dX11_findLines_55 fdX11_28 rfl gk_110 gr_110_12 ?_
      refine xe_iload_n dX11_findLines_58 rfl ?_
      refine xe_iload dX11_findLines_59 rfl ?_
      refine xn_icmp_ge 74 dX11_findLines_61 (by decide) (by omega) (by omega) (fun c => ?_) (fun c => ?_)
      · refine xe_bipush (v := nI 12) dX11_findLines_74 (by decide) ?_
        refine xe_iload dX11_findLines_76 rfl ?_
        first | refine xn_imul dX11_findLines_78 ?_ | refine xe_imul dX11_findLines_78 ?_
        refine xe_iload_n dX11_findLines_79 rfl ?_
        first | refine xn_iadd dX11_findLines_80 ?_ | refine xe_iadd dX11_findLines_80 ?_
        exact go _ _ _ (by omega) (by rw [if_neg (by omega)])
      · refine xe_bipush (v := nI 12) dX11_findLines_64 (by decide) ?_
        refine xe_iload_n dX11_findLines_66 rfl ?_
        first | refine xn_imul dX11_findLines_67 ?_ | refine xe_imul dX11_findLines_67 ?_
        refine xe_iload dX11_findLines_68 rfl ?_
        first | refine xn_iadd dX11_findLines_70 ?_ | refine xe_iadd dX11_findLines_70 ?_
        refine xe_goto 81 dX11_findLines_71 (by decide) ?_
        exact go _ _ _ (by omega) (by rw [if_pos c])
  have key1 : ∀ k i (t : xS), i + k = 144 → (∀ q, q < i → t.1 117 q = nI 0) → FA 117 σ t → Ev xs L mX11_findLines 2 [.ref 110, .int (nI v), .int (nI i), .null, .null] [] GS t GS (fun w t => w = none ∧ Ln t (jm P.2.2.2) ∧ FA 117 σ t) := by
    intro k
    induction k with
    | zero =>
      intro i t hi ht hf
      refine xe_iload_n dX11_findLines_2 rfl ?_
      refine xe_sipush (v := nI 144) dX11_findLines_3 (by decide) ?_
      refine xe_icmp_ge 22 dX11_findLines_6 (by decide) (fun _ => ?_) (fun c => absurd (nI_le (by omega) (by omega)) c)
      refine xe_iconst (v := nI 0) dX11_findLines_22 (by decide) ?_
      refine xe_istore_n dX11_findLines_23 (by decide) ?_
      refine key2 P.2.2.2.length 0 t _ _ (by omega) (fun q hq => ?_) hf
      rw [ht q (by omega)]
      have : li (jm (P.2.2.2.take 0)) q = false := by
        unfold li
        rw [jm_bit]
        simp
      rw [this]
      rfl
    | succ k ih =>
      intro i t hi ht hf
      refine xe_iload_n dX11_findLines_2 rfl ?_
      refine xe_sipush (v := nI 144) dX11_findLines_3 (by decide) ?_
      refine xe_icmp_ge 22 dX11_findLines_6 (by decide) (fun c => absurd c (nI_ge (by omega) (by omega))) (fun _ => ?_)
      refine xe_aload_n dX11_findLines_9 rfl ?_
      refine e_getA (G := GS) (r := 110) dX11_findLines_10 fdX11_28 rfl gk_110 gr_110_12 ?_
      refine xe_iload_n dX11_findLines_13 rfl ?_
      refine xe_iconst (v := nI 0) dX11_findLines_14 (by decide) ?_
      refine e_iast (G := GS) (a := 117) dX11_findLines_15 gk_117 gn_117 (by omega) (by decide) ?_
      refine xn_inc dX11_findLines_16 rfl (by decide) ?_
      refine xe_goto 2 dX11_findLines_19 (by decide) ?_
      refine ih (i + 1) _ (by omega) (fun q hq => ?_) (hf.pi _ _)
      by_cases e : q = i
      · rw [xpi_rd, if_pos (by omega)]
      · rw [xpi_rd, if_neg (by omega)]
        exact ht q (by omega)
  refine xe_iconst (v := nI 0) dX11_findLines_0 (by decide) ?_
  refine xe_istore_n dX11_findLines_1 (by decide) ?_
  exact key1 144 0 σ (by omega) (fun q hq => absurd hq (Nat.not_lt_zero _)) (FA.rf 117 σ)
theorem M_partsOn (h : Lv σ v P) : Cl xs L mX11_partsOn [.ref 110, .int (nI v)] GS σ GS (fun w t => w = some (.int (nI (prt (jm P.2.2.2)))) ∧ FA 117 σ t) := by
  show Ev xs L mX11_partsOn 0 [.ref 110, .int (nI v), .null, .null, .null] [] GS σ GS _
  rw [← mprt_prt (jm_lt (fun s hs => (h.2.1.2.2.1 s hs).2))]
  refine xe_aload_n dX11_partsOn_0 rfl ?_
  refine xe_iload_n dX11_partsOn_1 rfl ?_
  refine e_callV (G := GS) (r := 110) (M_findLines h) dX11_partsOn_2 kvX11_210 gk_110 rfl ?_
  rintro w t ⟨rfl, hL, hf⟩
  generalize jm P.2.2.2 = J at hL ⊢
  have key := goN 144 (mpO J) (fun i a => ∀ w : Value, Ev xs L mX11_partsOn 9 [.ref 110, .int (nI v), .int (nI a), .int (nI i), w] [] GS t GS (fun w t => w = some (.int (nI (mprt J))) ∧ FA 117 σ t)) (mprt J) (by
      intro w
      refine xe_iload_n dX11_partsOn_9 rfl ?_
      refine xe_sipush (v := nI 144) dX11_partsOn_10 (by decide) ?_
      refine xe_icmp_ge 100 dX11_partsOn_13 (by decide) (fun _ => ?_) (fun c => absurd (by decide) c)
      refine xe_iload_n dX11_partsOn_100 rfl ?_
      exact xe_iret dX11_partsOn_101 rfl ⟨rfl, hf⟩) (by
      intro i a hi kk w
      have inner := goN 144 (mpI J i) (fun e c => Ev xs L mX11_partsOn 30 [.ref 110, .int (nI v), .int (nI c), .int (nI i), .int (nI e)] [] GS t GS (fun w t => w = some (.int (nI (mprt J))) ∧ FA 117 σ t)) (mpO J a i) (by
          refine xe_iload dX11_partsOn_30 rfl ?_
          refine xe_sipush (v := nI 144) dX11_partsOn_32 (by decide) ?_
          refine xe_icmp_ge 94 dX11_partsOn_35 (by decide) (fun _ => ?_) (fun c => absurd (by decide) c)
          refine xn_inc dX11_partsOn_94 rfl (by decide) ?_
          refine xe_goto 9 dX11_partsOn_97 (by decide) ?_
          exact kk _) (by
          intro e c he k
          have ns : (li J i && li J e && crs4 (i / 12) (i % 12) (e / 12) (e % 12)) = false → Ev xs L mX11_partsOn 85 [.ref 110, .int (nI v), .int (nI c), .int (nI i), .int (nI e)] [.int (nI c)] GS t GS (fun w t => w = some (.int (nI (mprt J))) ∧ FA 117 σ t) := by
            intro hn
            unfold mpI at k
            rw [hn] at k
            refine xe_iconst (v := nI 0) dX11_partsOn_85 (by decide) ?_
            first | refine xn_iadd dX11_partsOn_86 ?_ | refine xe_iadd dX11_partsOn_86 ?_
            refine xe_istore_n dX11_partsOn_87 (by decide) ?_
            refine xn_inc dX11_partsOn_88 rfl (by decide) ?_
            refine xe_goto 30 dX11_partsOn_91 (by decide) ?_
            exact k
          refine xe_iload dX11_partsOn_30 rfl ?_
          refine xe_sipush (v := nI 144) dX11_partsOn_32 (by decide) ?_
          refine xe_icmp_ge 94 dX11_partsOn_35 (by decide) (fun c => absurd c (nI_ge he (by omega))) (fun _ => ?_)
          refine xe_iload_n dX11_partsOn_38 rfl ?_
          refine xe_aload_n dX11_partsOn_39 rfl ?_
          refine e_getA (G := GS) (r := 110) dX11_partsOn_40 fdX11_28 rfl gk_110 gr_110_12 ?_
          refine xe_iload_n dX11_partsOn_43 rfl ?_
          refine e_iald (G := GS) (a := 117) dX11_partsOn_44 gk_117 gn_117 (by omega) (by decide) (hL i hi) ?_
          refine xe_aload_n dX11_partsOn_45 rfl ?_
          refine e_getA (G := GS) (r := 110) dX11_partsOn_46 fdX11_28 rfl gk_110 gr_110_12 ?_
          refine xe_iload dX11_partsOn_49 rfl ?_
          refine e_iald (G := GS) (a := 117) dX11_partsOn_51 gk_117 gn_117 (by omega) (by decide) (hL e he) ?_
          first | refine xn_iadd dX11_partsOn_52 ?_ | refine xe_iadd dX11_partsOn_52 ?_
          refine xe_iconst (v := nI 2) dX11_partsOn_53 (by decide) ?_
          cases hi2 : li J i with
          | false =>
            rw [hi2] at ns
            refine xe_icmp_ne 85 dX11_partsOn_54 (by decide) (fun _ => ?_) (fun c => absurd c (by cases li J e <;> decide))
            exact ns rfl
          | true =>
            cases he2 : li J e with
            | false =>
              rw [hi2, he2] at ns
              refine xe_icmp_ne 85 dX11_partsOn_54 (by decide) (fun _ => ?_) (fun c => absurd c (by decide))
              exact ns rfl
            | true =>
              refine xe_icmp_ne 85 dX11_partsOn_54 (by decide) (fun c => absurd c (fun q => q rfl)) (fun _ => ?_)
              refine xe_iload_n dX11_partsOn_57 rfl ?_
              refine xe_bipush (v := nI 12) dX11_partsOn_58 (by decide) ?_
              refine xn_idiv dX11_partsOn_60 (by omega) (by decide) (by decide) ?_
              refine xe_iload_n dX11_partsOn_61 rfl ?_
              refine xe_bipush (v := nI 12) dX11_partsOn_62 (by decide) ?_
              refine xn_irem dX11_partsOn_64 (by omega) (by decide) (by decide) ?_
              refine xe_iload dX11_partsOn_65 rfl ?_
              refine xe_bipush (v := nI 12) dX11_partsOn_67 (by decide) ?_
              refine xn_idiv dX11_partsOn_69 (by omega) (by decide) (by decide) ?_
              refine xe_iload dX11_partsOn_70 rfl ?_
              refine xe_bipush (v := nI 12) dX11_partsOn_72 (by decide) ?_
              refine xn_irem dX11_partsOn_74 (by omega) (by decide) (by decide) ?_
              refine e_callSp (M_cross (show i / 12 < 12 by omega) (show i % 12 < 12 by omega) (show e / 12 < 12 by omega) (show e % 12 < 12 by omega)) dX11_partsOn_75 ksX11_68 rfl ?_
              refine xz_if_eq 85 dX11_partsOn_78 (by decide) (fun c2 => ?_) (fun c2 => ?_)
              · exact ns (by rw [c2, Bool.and_false])
              · unfold mpI at k
                rw [hi2, he2, c2] at k
                refine xe_iconst (v := nI 1) dX11_partsOn_81 (by decide) ?_
                refine xe_goto 86 dX11_partsOn_82 (by decide) ?_
                first | refine xn_iadd dX11_partsOn_86 ?_ | refine xe_iadd dX11_partsOn_86 ?_
                refine xe_istore_n dX11_partsOn_87 (by decide) ?_
                refine xn_inc dX11_partsOn_88 rfl (by decide) ?_
                refine xe_goto 30 dX11_partsOn_91 (by decide) ?_
                exact k) (143 - i) (i + 1) (a + b1 (li J i)) (by omega) rfl
      refine xe_iload_n dX11_partsOn_9 rfl ?_
      refine xe_sipush (v := nI 144) dX11_partsOn_10 (by decide) ?_
      refine xe_icmp_ge 100 dX11_partsOn_13 (by decide) (fun c => absurd c (nI_ge hi (by omega))) (fun _ => ?_)
      refine xe_iload_n dX11_partsOn_16 rfl ?_
      refine xe_aload_n dX11_partsOn_17 rfl ?_
      refine e_getA (G := GS) (r := 110) dX11_partsOn_18 fdX11_28 rfl gk_110 gr_110_12 ?_
      refine xe_iload_n dX11_partsOn_21 rfl ?_
      refine e_iald (G := GS) (a := 117) dX11_partsOn_22 gk_117 gn_117 (by omega) (by decide) (hL i hi) ?_
      first | refine xn_iadd dX11_partsOn_23 ?_ | refine xe_iadd dX11_partsOn_23 ?_
      refine xe_istore_n dX11_partsOn_24 (by decide) ?_
      refine xe_iload_n dX11_partsOn_25 rfl ?_
      refine xe_iconst (v := nI 1) dX11_partsOn_26 (by decide) ?_
      first | refine xn_iadd dX11_partsOn_27 ?_ | refine xe_iadd dX11_partsOn_27 ?_
      refine xe_istore dX11_partsOn_28 (by decide) ?_
      exact inner) 144 0 1 rfl rfl
  refine xe_iconst (v := nI 1) dX11_partsOn_5 (by decide) ?_
  refine xe_istore_n dX11_partsOn_6 (by decide) ?_
  refine xe_iconst (v := nI 0) dX11_partsOn_7 (by decide) ?_
  refine xe_istore_n dX11_partsOn_8 (by decide) ?_
  exact key .null
theorem M_linesAt {J : Nat → Nat} (hL : Ln σ J) {p : Nat} (hp : p < 12) : Cl xs L mX11_linesAt [.ref 110, .int (nI p)] GS σ GS (pI σ (nI (mln J p))) := by
  show Ev xs L mX11_linesAt 0 [.ref 110, .int (nI p), .null, .null] [] GS σ GS _
  have key := goN 144 (mlnI J p) (fun i a => Ev xs L mX11_linesAt 4 [.ref 110, .int (nI p), .int (nI a), .int (nI i)] [] GS σ GS (pI σ (nI (mln J p)))) (mln J p) (by
      refine xe_iload_n dX11_linesAt_4 rfl ?_
      refine xe_sipush (v := nI 144) dX11_linesAt_5 (by decide) ?_
      refine xe_icmp_ge 46 dX11_linesAt_8 (by decide) (fun _ => ?_) (fun c => absurd (by decide) c)
      refine xe_iload_n dX11_linesAt_46 rfl ?_
      exact e_iret dX11_linesAt_47 rfl rfl) (by
      intro i a hi k
      unfold mlnI at k
      have yes : (i / 12 = p ∨ i % 12 = p) → Ev xs L mX11_linesAt 28 [.ref 110, .int (nI p), .int (nI a), .int (nI i)] [.int (nI a)] GS σ GS (pI σ (nI (mln J p))) := by
        intro hy
        rw [if_pos hy] at k
        refine xe_aload_n dX11_linesAt_28 rfl ?_
        refine e_getA (G := GS) (r := 110) dX11_linesAt_29 fdX11_28 rfl gk_110 gr_110_12 ?_
        refine xe_iload_n dX11_linesAt_32 rfl ?_
        refine e_iald (G := GS) (a := 117) dX11_linesAt_33 gk_117 gn_117 (by omega) (by decide) (hL i hi) ?_
        refine xe_goto 38 dX11_linesAt_34 (by decide) ?_
        first | refine xn_iadd dX11_linesAt_38 ?_ | refine xe_iadd dX11_linesAt_38 ?_
        refine xe_istore_n dX11_linesAt_39 (by decide) ?_
        refine xn_inc dX11_linesAt_40 rfl (by decide) ?_
        refine xe_goto 4 dX11_linesAt_43 (by decide) ?_
        exact k
      refine xe_iload_n dX11_linesAt_4 rfl ?_
      refine xe_sipush (v := nI 144) dX11_linesAt_5 (by decide) ?_
      refine xe_icmp_ge 46 dX11_linesAt_8 (by decide) (fun c => absurd c (nI_ge hi (by omega))) (fun _ => ?_)
      refine xe_iload_n dX11_linesAt_11 rfl ?_
      refine xe_iload_n dX11_linesAt_12 rfl ?_
      refine xe_bipush (v := nI 12) dX11_linesAt_13 (by decide) ?_
      refine xn_idiv dX11_linesAt_15 (by omega) (by decide) (by decide) ?_
      refine xe_iload_n dX11_linesAt_16 rfl ?_
      refine xn_icmp_eq 28 dX11_linesAt_17 (by decide) (by omega) (by omega) (fun c1 => ?_) (fun c1 => ?_)
      · exact yes (Or.inl c1)
      refine xe_iload_n dX11_linesAt_20 rfl ?_
      refine xe_bipush (v := nI 12) dX11_linesAt_21 (by decide) ?_
      refine xn_irem dX11_linesAt_23 (by omega) (by decide) (by decide) ?_
      refine xe_iload_n dX11_linesAt_24 rfl ?_
      refine xn_icmp_ne 37 dX11_linesAt_25 (by decide) (by omega) (by omega) (fun c2 => ?_) (fun c2 => ?_)
      · rw [if_neg (fun q => q.elim c1 c2)] at k
        refine xe_iconst (v := nI 0) dX11_linesAt_37 (by decide) ?_
        first | refine xn_iadd dX11_linesAt_38 ?_ | refine xe_iadd dX11_linesAt_38 ?_
        refine xe_istore_n dX11_linesAt_39 (by decide) ?_
        refine xn_inc dX11_linesAt_40 rfl (by decide) ?_
        refine xe_goto 4 dX11_linesAt_43 (by decide) ?_
        exact k
      · exact yes (Or.inr c2)) 144 0 0 rfl rfl
  refine xe_iconst (v := nI 0) dX11_linesAt_0 (by decide) ?_
  refine xe_istore_n dX11_linesAt_1 (by decide) ?_
  refine xe_iconst (v := nI 0) dX11_linesAt_2 (by decide) ?_
  refine xe_istore_n dX11_linesAt_3 (by decide) ?_
  exact key
theorem M_partOf {J : Nat → Nat} (hL : Ln σ J) {p : Nat} (hp : p < 12) : Cl xs L mX11_partOf [.ref 110, .int (nI p)] GS σ GS (pI σ (nI (po J p))) := by
  show Ev xs L mX11_partOf 0 [.ref 110, .int (nI p), .null, .null, .null, .null] [] GS σ GS _
  have key := goN 12 (poO J) (fun r g => g < 2 ^ 12 → ∀ w1 w2 : Value, Ev xs L mX11_partOf 6 [.ref 110, .int (nI p), .int (nI g), .int (nI r), w1, w2] [] GS σ GS (pI σ (nI (po J p)))) (po J p) (by
      intro hg w1 w2
      refine xe_iload_n dX11_partOf_6 rfl ?_
      refine xe_bipush (v := nI 12) dX11_partOf_7 (by decide) ?_
      refine xe_icmp_ge 104 dX11_partOf_9 (by decide) (fun _ => ?_) (fun c => absurd (by decide) c)
      refine xe_iload_n dX11_partOf_104 rfl ?_
      exact e_iret dX11_partOf_105 rfl rfl) (by
      intro r g0 hr kk hg0 w1 w2
      have inner := goN 144 (poI J) (fun i g => g < 2 ^ 12 → ∀ w2 : Value, Ev xs L mX11_partOf 15 [.ref 110, .int (nI p), .int (nI g), .int (nI r), .int (nI i), w2] [] GS σ GS (pI σ (nI (po J p)))) (poO J g0 r) (by
          intro hg w2
          refine xe_iload dX11_partOf_15 rfl ?_
          refine xe_sipush (v := nI 144) dX11_partOf_17 (by decide) ?_
          refine xe_icmp_ge 98 dX11_partOf_20 (by decide) (fun _ => ?_) (fun c => absurd (by decide) c)
          refine xn_inc dX11_partOf_98 rfl (by decide) ?_
          refine xe_goto 6 dX11_partOf_101 (by decide) ?_
          exact kk hg _ _) (by
          intro i g hi k hg w2
          have k := k (poI_lt J hi hg)
          have no : (li J i && (g.testBit (i / 12) || g.testBit (i % 12))) = false → Ev xs L mX11_partOf 62 [.ref 110, .int (nI p), .int (nI g), .int (nI r), .int (nI i), w2] [] GS σ GS (pI σ (nI (po J p))) := by
            intro hn
            have e : poI J g i = g := by unfold poI; rw [hn]; rfl
            rw [e] at k
            refine xe_iconst (v := nI 0) dX11_partOf_62 (by decide) ?_
            refine xe_istore dX11_partOf_63 (by decide) ?_
            refine xe_iload_n dX11_partOf_65 rfl ?_
            refine xe_iload dX11_partOf_66 rfl ?_
            refine xe_if_eq 89 dX11_partOf_68 (by decide) (fun _ => ?_) (fun c => absurd rfl c)
            refine xe_iconst (v := nI 0) dX11_partOf_89 (by decide) ?_
            refine xe_ior dX11_partOf_90 ?_
            rw [nI_or, Nat.or_zero]
            refine xe_istore_n dX11_partOf_91 (by decide) ?_
            refine xn_inc dX11_partOf_92 rfl (by decide) ?_
            refine xe_goto 15 dX11_partOf_95 (by decide) ?_
            exact k _
          have yes : (li J i && (g.testBit (i / 12) || g.testBit (i % 12))) = true → Ev xs L mX11_partOf 58 [.ref 110, .int (nI p), .int (nI g), .int (nI r), .int (nI i), w2] [] GS σ GS (pI σ (nI (po J p))) := by
            intro hy
            have e : poI J g i = g ||| (2 ^ (i / 12) ||| 2 ^ (i % 12)) := by unfold poI; rw [hy]; rfl
            rw [e] at k
            refine xe_iconst (v := nI 1) dX11_partOf_58 (by decide) ?_
            refine xe_goto 63 dX11_partOf_59 (by decide) ?_
            refine xe_istore dX11_partOf_63 (by decide) ?_
            refine xe_iload_n dX11_partOf_65 rfl ?_
            refine xe_iload dX11_partOf_66 rfl ?_
            refine xe_if_eq 89 dX11_partOf_68 (by decide) (fun c => absurd c (by decide)) (fun _ => ?_)
            refine xe_iconst (v := nI 1) dX11_partOf_71 (by decide) ?_
            refine xe_iload dX11_partOf_72 rfl ?_
            refine xe_bipush (v := nI 12) dX11_partOf_74 (by decide) ?_
            refine xn_idiv dX11_partOf_76 (by omega) (by decide) (by decide) ?_
            refine xe_ishl dX11_partOf_77 ?_
            refine xe_iconst (v := nI 1) dX11_partOf_78 (by decide) ?_
            refine xe_iload dX11_partOf_79 rfl ?_
            refine xe_bipush (v := nI 12) dX11_partOf_81 (by decide) ?_
            refine xn_irem dX11_partOf_83 (by omega) (by decide) (by decide) ?_
            refine xe_ishl dX11_partOf_84 ?_
            refine xe_ior dX11_partOf_85 ?_
            refine xe_goto 90 dX11_partOf_86 (by decide) ?_
            refine xe_ior dX11_partOf_90 ?_
            rw [bit_shl (show i / 12 < 31 by omega), bit_shl (show i % 12 < 31 by omega), nI_or, nI_or]
            refine xe_istore_n dX11_partOf_91 (by decide) ?_
            refine xn_inc dX11_partOf_92 rfl (by decide) ?_
            refine xe_goto 15 dX11_partOf_95 (by decide) ?_
            exact k _
          refine xe_iload dX11_partOf_15 rfl ?_
          refine xe_sipush (v := nI 144) dX11_partOf_17 (by decide) ?_
          refine xe_icmp_ge 98 dX11_partOf_20 (by decide) (fun c => absurd c (nI_ge hi (by omega))) (fun _ => ?_)
          refine xe_aload_n dX11_partOf_23 rfl ?_
          refine e_getA (G := GS) (r := 110) dX11_partOf_24 fdX11_28 rfl gk_110 gr_110_12 ?_
          refine xe_iload dX11_partOf_27 rfl ?_
          refine e_iald (G := GS) (a := 117) dX11_partOf_29 gk_117 gn_117 (by omega) (by decide) (hL i hi) ?_
          refine xe_iconst (v := nI 1) dX11_partOf_30 (by decide) ?_
          cases hi2 : li J i with
          | false =>
            rw [hi2] at no
            refine xe_icmp_ne 62 dX11_partOf_31 (by decide) (fun _ => ?_) (fun c => absurd c (by decide))
            exact no rfl
          | true =>
            rw [hi2, Bool.true_and] at no yes
            refine xe_icmp_ne 62 dX11_partOf_31 (by decide) (fun c => absurd c (fun q => q rfl)) (fun _ => ?_)
            refine xe_iload_n dX11_partOf_34 rfl ?_
            refine xe_iload dX11_partOf_35 rfl ?_
            refine xe_bipush (v := nI 12) dX11_partOf_37 (by decide) ?_
            refine xn_idiv dX11_partOf_39 (by omega) (by decide) (by decide) ?_
            refine e_callSp (M_has (show g < 2 ^ 31 by omega) (show i / 12 < 32 by omega)) dX11_partOf_40 ksX11_201 rfl ?_
            refine xz_if_ne 58 dX11_partOf_43 (by decide) (fun c1 => ?_) (fun c1 => ?_)
            · exact yes (by rw [c1]; rfl)
            refine xe_iload_n dX11_partOf_46 rfl ?_
            refine xe_iload dX11_partOf_47 rfl ?_
            refine xe_bipush (v := nI 12) dX11_partOf_49 (by decide) ?_
            refine xn_irem dX11_partOf_51 (by omega) (by decide) (by decide) ?_
            refine e_callSp (M_has (show g < 2 ^ 31 by omega) (show i % 12 < 32 by omega)) dX11_partOf_52 ksX11_201 rfl ?_
            refine xz_if_eq 62 dX11_partOf_55 (by decide) (fun c2 => ?_) (fun c2 => ?_)
            · exact no (by rw [c1, c2]; rfl)
            · exact yes (by rw [c2, Bool.or_true])) 144 0 g0 rfl rfl
      refine xe_iload_n dX11_partOf_6 rfl ?_
      refine xe_bipush (v := nI 12) dX11_partOf_7 (by decide) ?_
      refine xe_icmp_ge 104 dX11_partOf_9 (by decide) (fun c => absurd c (nI_ge hr (by omega))) (fun _ => ?_)
      refine xe_iconst (v := nI 0) dX11_partOf_12 (by decide) ?_
      refine xe_istore dX11_partOf_13 (by decide) ?_
      exact inner hg0 w2) 12 0 (2 ^ p) rfl rfl
  refine xe_iconst (v := nI 1) dX11_partOf_0 (by decide) ?_
  refine xe_iload_n dX11_partOf_1 rfl ?_
  refine xe_ishl dX11_partOf_2 ?_
  rw [bit_shl (by omega)]
  refine xe_istore_n dX11_partOf_3 (by decide) ?_
  refine xe_iconst (v := nI 0) dX11_partOf_4 (by decide) ?_
  refine xe_istore_n dX11_partOf_5 (by decide) ?_
  exact key (two12 hp) .null .null
theorem M_factorial {n : Nat} (hn : n < 1000) : Cl xs L mX11_factorial [.int (nI n)] G σ G (pI σ (nI (fc n))) := by
  show Ev xs L mX11_factorial 0 [.int (nI n), .null, .null] [] G σ G _
  have key : ∀ d k, k + d = n → Ev xs L mX11_factorial 4 [.int (nI n), .int (nI (fc k)), .int (nI (k + 1))] [] G σ G (pI σ (nI (fc n))) := by
    intro d
    induction d with
    | zero =>
      intro k hk
      refine xe_iload_n dX11_factorial_4 rfl ?_
      refine xe_iload_n dX11_factorial_5 rfl ?_
      refine xe_icmp_gt 19 dX11_factorial_6 (by decide) (fun _ => ?_) (fun c => absurd (nI_lt (by omega) (by omega)) c)
      refine xe_iload_n dX11_factorial_19 rfl ?_
      exact e_iret dX11_factorial_20 rfl (by rw [show k = n by omega])
    | succ d ih =>
      intro k hk
      refine xe_iload_n dX11_factorial_4 rfl ?_
      refine xe_iload_n dX11_factorial_5 rfl ?_
      refine xe_icmp_gt 19 dX11_factorial_6 (by decide) (fun c => absurd c (fun q => absurd q (nI_nlt (by omega) (by omega)))) (fun _ => ?_)
      refine xe_iload_n dX11_factorial_9 rfl ?_
      refine xe_iload_n dX11_factorial_10 rfl ?_
      first | refine xn_imul dX11_factorial_11 ?_ | refine xe_imul dX11_factorial_11 ?_
      refine xe_istore_n dX11_factorial_12 (by decide) ?_
      refine xn_inc dX11_factorial_13 rfl (by decide) ?_
      refine xe_goto 4 dX11_factorial_16 (by decide) ?_
      have := ih (k + 1) (by omega)
      rw [show fc (k + 1) = fc k * (k + 1) from Nat.mul_comm _ _] at this
      exact this
  refine xe_iconst (v := nI 1) dX11_factorial_0 (by decide) ?_
  refine xe_istore_n dX11_factorial_1 (by decide) ?_
  refine xe_iconst (v := nI 2) dX11_factorial_2 (by decide) ?_
  refine xe_istore_n dX11_factorial_3 (by decide) ?_
  match n, hn, key with
  | 0, _, _ =>
    refine xe_iload_n dX11_factorial_4 rfl ?_
    refine xe_iload_n dX11_factorial_5 rfl ?_
    refine xe_icmp_gt 19 dX11_factorial_6 (by decide) (fun _ => ?_) (fun c => absurd (by decide) c)
    refine xe_iload_n dX11_factorial_19 rfl ?_
    exact e_iret dX11_factorial_20 rfl rfl
  | n + 1, _, key => exact key n 1 (by omega)
theorem M_common {a b : Nat} (ha : a < 2 ^ 31) (hb : b < 2 ^ 31) : Cl xs L mX11_common [.int (nI a), .int (nI b)] G σ G (pI σ (nI (Nat.gcd a b))) := by
  show Ev xs L mX11_common 0 [.int (nI a), .int (nI b), .null, .null, .null] [] G σ G _
  have key : ∀ n x y (w : Value), y < n → x < 2 ^ 31 → y < 2 ^ 31 → Nat.gcd x y = Nat.gcd a b → Ev xs L mX11_common 13 [.int (nI a), .int (nI b), .int (nI x), .int (nI y), w] [] G σ G (pI σ (nI (Nat.gcd a b))) := by
    intro n
    induction n with
    | zero => intro x y w h; exact absurd h (Nat.not_lt_zero _)
    | succ n ih =>
      intro x y w h hx hy hg
      refine xe_iload_n dX11_common_13 rfl ?_
      refine xe_if_eq 30 dX11_common_14 (by decide) (fun c => ?_) (fun c => ?_)
      · have c : y = 0 := (nI_eq (b := 0) hy (by decide)).mp c
        subst c
        refine xe_iload_n dX11_common_30 rfl ?_
        exact e_iret dX11_common_31 rfl (by rw [← hg, Nat.gcd_zero_right])
      · have c : 0 < y := Nat.pos_of_ne_zero (fun q => c (by rw [q]; rfl))
        refine xe_iload_n dX11_common_17 rfl ?_
        refine xe_iload_n dX11_common_18 rfl ?_
        refine xn_irem dX11_common_19 hx c hy ?_
        refine xe_istore dX11_common_20 (by decide) ?_
        refine xe_iload_n dX11_common_22 rfl ?_
        refine xe_istore_n dX11_common_23 (by decide) ?_
        refine xe_iload dX11_common_24 rfl ?_
        refine xe_istore_n dX11_common_26 (by decide) ?_
        refine xe_goto 13 dX11_common_27 (by decide) ?_
        have := Nat.mod_lt x c
        refine ih y (x % y) _ (by omega) hy (by omega) ?_
        rw [← hg, Nat.gcd_comm x y, Nat.gcd_rec y x, Nat.gcd_comm]
  refine xe_iload_n dX11_common_0 rfl ?_
  refine xn_if_ge 9 dX11_common_1 (by decide) ha ?_
  refine xe_iload_n dX11_common_9 rfl ?_
  refine xe_istore_n dX11_common_10 (by decide) ?_
  refine xe_iload_n dX11_common_11 rfl ?_
  refine xe_istore_n dX11_common_12 (by decide) ?_
  exact key (b + 1) a b .null (by omega) ha hb rfl
theorem M_tenThousandTo {n : Nat} (hn : n < 1000) : Cl xs L mX11_tenThousandTo [.int (nI n)] G σ G (pL σ (lN (10000 ^ n))) := by
  show Ev xs L mX11_tenThousandTo 0 [.int (nI n), .null, .null, .null] [] G σ G _
  have key : ∀ d k, k + d = n → Ev xs L mX11_tenThousandTo 4 [.int (nI n), .long (lN (10000 ^ k)), .null, .int (nI k)] [] G σ G (pL σ (lN (10000 ^ n))) := by
    intro d
    induction d with
    | zero =>
      intro k hk
      refine xe_iload_n dX11_tenThousandTo_4 rfl ?_
      refine xe_iload_n dX11_tenThousandTo_5 rfl ?_
      refine xe_icmp_ge 21 dX11_tenThousandTo_6 (by decide) (fun _ => ?_) (fun c => absurd (nI_le (by omega) (by omega)) c)
      refine xe_lload_n dX11_tenThousandTo_21 rfl ?_
      exact xe_lret dX11_tenThousandTo_22 rfl ⟨by rw [show k = n by omega], rfl⟩
    | succ d ih =>
      intro k hk
      refine xe_iload_n dX11_tenThousandTo_4 rfl ?_
      refine xe_iload_n dX11_tenThousandTo_5 rfl ?_
      refine xe_icmp_ge 21 dX11_tenThousandTo_6 (by decide) (fun c => absurd c (nI_ge (by omega) (by omega))) (fun _ => ?_)
      refine xe_lload_n dX11_tenThousandTo_9 rfl ?_
      refine xe_ldc2n (n := 10000) dX11_tenThousandTo_10 gw1114 (by decide) ?_
      refine xe_lmul dX11_tenThousandTo_13 ?_
      rw [lN_mul]
      refine xe_lstore_n dX11_tenThousandTo_14 (by decide) ?_
      refine xn_inc dX11_tenThousandTo_15 rfl (by decide) ?_
      refine xe_goto 4 dX11_tenThousandTo_18 (by decide) ?_
      have := ih (k + 1) (by omega)
      rw [show 10000 ^ (k + 1) = 10000 ^ k * 10000 from Nat.pow_succ ..] at this
      exact this
  refine xe_lconst (v := lN 1) dX11_tenThousandTo_0 (by decide) ?_
  refine xe_lstore_n dX11_tenThousandTo_1 (by decide) ?_
  refine xe_iconst (v := nI 0) dX11_tenThousandTo_2 (by decide) ?_
  refine xe_istore_n dX11_tenThousandTo_3 (by decide) ?_
  exact key n 0 (by omega)
theorem M_usedNails (h : Lv σ 0 P) : Cl xs L mX11_usedNails [.ref 110] GS σ GS (pI σ (ends P.2.2.2)) := by
  show Ev xs L mX11_usedNails 0 [.ref 110, .null, .null] [] GS σ GS _
  have h48 := h.2.1.len
  have key := goZ P.2.2.2 (fun a s => a ||| (nI 1 <<< (nI s.2.1 &&& 31) ||| nI 1 <<< (nI s.2.2.1 &&& 31))) (fun i a => Ev xs L mX11_usedNails 4 [.ref 110, .int a, .int (nI i)] [] GS σ GS (pI σ (ends P.2.2.2))) (ends P.2.2.2) (by
      refine xe_iload_n dX11_usedNails_4 rfl ?_
      refine xe_aload_n dX11_usedNails_5 rfl ?_
      refine xe_iconst (v := nI 0) dX11_usedNails_6 (by decide) ?_
      refine e_callVp (G := GS) (r := 110) (M_many h) dX11_usedNails_7 kvX11_121 gk_110 rfl ?_
      refine xe_icmp_ge 45 dX11_usedNails_10 (by decide) (fun _ => ?_) (fun c => absurd (nI_le (Nat.le_refl _) (by omega)) c)
      refine xe_iload_n dX11_usedNails_45 rfl ?_
      exact e_iret dX11_usedNails_46 rfl rfl) (by
      intro i s a hs k
      have hl := Ls.lt hs
      refine xe_iload_n dX11_usedNails_4 rfl ?_
      refine xe_aload_n dX11_usedNails_5 rfl ?_
      refine xe_iconst (v := nI 0) dX11_usedNails_6 (by decide) ?_
      refine e_callVp (G := GS) (r := 110) (M_many h) dX11_usedNails_7 kvX11_121 gk_110 rfl ?_
      refine xe_icmp_ge 45 dX11_usedNails_10 (by decide) (fun c => absurd c (nI_ge hl (by omega))) (fun _ => ?_)
      refine xe_iload_n dX11_usedNails_13 rfl ?_
      refine xe_iconst (v := nI 1) dX11_usedNails_14 (by decide) ?_
      refine xe_aload_n dX11_usedNails_15 rfl ?_
      refine xe_iconst (v := nI 0) dX11_usedNails_16 (by decide) ?_
      refine xe_iload_n dX11_usedNails_17 rfl ?_
      refine e_callVp (G := GS) (r := 110) (M_laid h hs) dX11_usedNails_18 kvX11_124 gk_110 rfl ?_
      refine e_callSp (M_fromOf (h.so hs)) dX11_usedNails_21 ksX11_61 rfl ?_
      refine xe_ishl dX11_usedNails_24 ?_
      refine xe_iconst (v := nI 1) dX11_usedNails_25 (by decide) ?_
      refine xe_aload_n dX11_usedNails_26 rfl ?_
      refine xe_iconst (v := nI 0) dX11_usedNails_27 (by decide) ?_
      refine xe_iload_n dX11_usedNails_28 rfl ?_
      refine e_callVp (G := GS) (r := 110) (M_laid h hs) dX11_usedNails_29 kvX11_124 gk_110 rfl ?_
      refine e_callSp (M_toOf (h.so hs)) dX11_usedNails_32 ksX11_65 rfl ?_
      refine xe_ishl dX11_usedNails_35 ?_
      refine xe_ior dX11_usedNails_36 ?_
      refine xe_ior dX11_usedNails_37 ?_
      refine xe_istore_n dX11_usedNails_38 (by decide) ?_
      refine xn_inc dX11_usedNails_39 rfl (by decide) ?_
      refine xe_goto 4 dX11_usedNails_42 (by decide) ?_
      exact k) P.2.2.2.length 0 (nI 0) (by omega) rfl
  refine xe_iconst (v := nI 0) dX11_usedNails_0 (by decide) ?_
  refine xe_istore_n dX11_usedNails_1 (by decide) ?_
  refine xe_iconst (v := nI 0) dX11_usedNails_2 (by decide) ?_
  refine xe_istore_n dX11_usedNails_3 (by decide) ?_
  exact key
theorem M_aboveOf (h : Lv σ 0 P) {i : Nat} {s : xSt} (hs : P.2.2.2[i]? = some s) : Cl xs L mX11_aboveOf [.ref 110, .int (nI i)] GS σ GS (fun w t => w = some (.int (nI (abv P.2.2.2 i))) ∧ FA 115 σ t) := by
  show Ev xs L mX11_aboveOf 0 [.ref 110, .int (nI i), .null, .null, .null, .null] [] GS σ GS _
  have h48 := h.2.1.len
  have hil := Ls.lt hs
  have key2 : ∀ k q (a : Nat × Nat) (t : xS) (w1 w2 : Value), q + k = P.2.2.2.length → i < q → foldN (abS P.2.2.2) q k a = foldN (abS P.2.2.2) (i + 1) (P.2.2.2.length - (i + 1)) (2 ^ i, 0) → a.1.testBit i = true → (∀ e, e < i → a.1.testBit e = false) → a.1 < 2 ^ q → (∀ e, i < e → e < q → t.1 115 e = nI (b1 (a.1.testBit e))) → FA 115 σ t → Ev xs L mX11_aboveOf 30 [.ref 110, .int (nI i), .int (nI a.2), .int (nI q), w1, w2] [] GS t GS (fun w t => w = some (.int (nI (abv P.2.2.2 i))) ∧ FA 115 σ t) := by
    intro k
    induction k with
    | zero =>
      intro q a t w1 w2 hq hiq hr b1' b2' b3' b4' hf
      have h2 := h.fa hf (by decide)
      refine xe_iload_n dX11_aboveOf_30 rfl ?_
      refine xe_aload_n dX11_aboveOf_31 rfl ?_
      refine xe_iconst (v := nI 0) dX11_aboveOf_32 (by decide) ?_
      refine e_callVp (G := GS) (r := 110) (M_many h2) dX11_aboveOf_33 kvX11_121 gk_110 rfl ?_
      refine xe_icmp_ge 146 dX11_aboveOf_36 (by decide) (fun _ => ?_) (fun c => absurd (nI_le (by omega) (by omega)) c)
      refine xe_iload_n dX11_aboveOf_146 rfl ?_
      have hr : a = foldN (abS P.2.2.2) (i + 1) (P.2.2.2.length - (i + 1)) (2 ^ i, 0) := hr
      exact xe_iret dX11_aboveOf_147 rfl ⟨by rw [hr]; rfl, hf⟩
    | succ k ih =>
      intro q a t w1 w2 hq hiq hr b1' b2' b3' b4' hf
      have h2 := h.fa hf (by decide)
      have hl : q < P.2.2.2.length := by omega
      have hx : P.2.2.2[q]? = some P.2.2.2[q] := List.getElem?_eq_getElem hl
      generalize P.2.2.2[q] = x at hx
      have hsp : crQ P.2.2.2 a.1 q = (crS s x || anyN (fun e => a.1.testBit e && crX P.2.2.2 e q) (i + 1) (q - (i + 1))) := by
        unfold crQ
        have e1 := anyN_add (fun e => a.1.testBit e && crX P.2.2.2 e q) i (q - i) 0
        rw [show i + (q - i) = q by omega, Nat.zero_add, anyN_f (p := fun e => a.1.testBit e && crX P.2.2.2 e q) i 0 (fun j _ hj => by rw [b2' j (by omega)]; rfl), Bool.false_or] at e1
        rw [e1, show q - i = (q - (i + 1)) + 1 by omega]
        show ((a.1.testBit i && crX P.2.2.2 i q) || _) = _
        rw [b1', Bool.true_and]
        have : crX P.2.2.2 i q = crS s x := by unfold crX; rw [hs, hx]
        rw [this]
      have hr : foldN (abS P.2.2.2) (q + 1) k (abS P.2.2.2 a q) = foldN (abS P.2.2.2) (i + 1) (P.2.2.2.length - (i + 1)) (2 ^ i, 0) := hr
      have inner : ∀ d e (is : Bool) (w1 : Value), e + d = q → i < e → (is || anyN (fun e => a.1.testBit e && crX P.2.2.2 e q) e d) = crQ P.2.2.2 a.1 q → Ev xs L mX11_aboveOf 61 [.ref 110, .int (nI i), .int (nI a.2), .int (nI q), .int (bI is), .int (nI e)] [] GS t GS (fun w t => w = some (.int (nI (abv P.2.2.2 i))) ∧ FA 115 σ t) := by
        intro d
        induction d with
        | zero =>
          intro e is w1 he hie hR
          have hR : (is || false) = crQ P.2.2.2 a.1 q := hR
          rw [Bool.or_false] at hR
          refine xe_iload dX11_aboveOf_61 rfl ?_
          refine xe_iload_n dX11_aboveOf_63 rfl ?_
          refine xe_icmp_ge 115 dX11_aboveOf_64 (by decide) (fun _ => ?_) (fun c => absurd (nI_le (by omega) (by omega)) c)
          have fin : ∀ (a2 : Nat × Nat), a2 = abS P.2.2.2 a q → a2.2 = a.2 + b1 is → a2.1 = (if is then a.1 ||| 2 ^ q else a.1) → ∀ w1 w2 : Value, Ev xs L mX11_aboveOf 130 [.ref 110, .int (nI i), .int (nI a.2), .int (nI q), w1, w2] [.int (nI (b1 is)), .int (nI q), .ref 115] GS t GS (fun w t => w = some (.int (nI (abv P.2.2.2 i))) ∧ FA 115 σ t) := by
            intro a2 ea e2 e1 w1 w2
            refine e_iast (G := GS) (a := 115) dX11_aboveOf_130 gk_115 gn_115 (by omega) (by decide) ?_
            refine xe_iload_n dX11_aboveOf_131 rfl ?_
            refine xe_aload_n dX11_aboveOf_132 rfl ?_
            refine e_getA (G := GS) (r := 110) dX11_aboveOf_133 fdX11_22 rfl gk_110 gr_110_8 ?_
            refine xe_iload_n dX11_aboveOf_136 rfl ?_
            refine e_iald (G := GS) (a := 115) dX11_aboveOf_137 gk_115 gn_115 (by omega) (by decide) (show _ = nI (b1 is) by rw [xpi_rd, if_pos (by omega)]) ?_
            first | refine xn_iadd dX11_aboveOf_138 ?_ | refine xe_iadd dX11_aboveOf_138 ?_
            refine xe_istore_n dX11_aboveOf_139 (by decide) ?_
            refine xn_inc dX11_aboveOf_140 rfl (by decide) ?_
            refine xe_goto 30 dX11_aboveOf_143 (by decide) ?_
            rw [← e2]
            have tb : ∀ m, a2.1.testBit m = (a.1.testBit m || (is && decide (q = m))) := by
              intro m
              rw [e1]
              cases is with
              | false => simp
              | true => rw [if_pos rfl, Nat.testBit_or, Nat.testBit_two_pow]; simp
            refine ih (q + 1) a2 _ _ _ (by omega) (by omega) (by rw [ea]; exact hr) (by rw [tb, b1']; rfl) (fun e he => by rw [tb, b2' e he, decide_eq_false (by omega), Bool.and_false]; rfl) ?_ (fun e h1 h2 => ?_) (hf.pi _ _)
            · rw [e1]
              have p1 : 2 ^ q < 2 ^ (q + 1) := Nat.pow_lt_pow_right (by decide) (by omega)
              split
              · exact Nat.or_lt_two_pow (by omega) p1
              · omega
            · rw [tb]
              by_cases c : e = q
              · rw [c, xpi_rd, if_pos (by omega), Nat.testBit_lt_two_pow b3', decide_eq_true rfl, Bool.and_true, Bool.false_or]
              · rw [xpi_rd, if_neg (by omega), decide_eq_false (by omega), Bool.and_false, Bool.or_false]
                exact b4' e h1 (by omega)
          refine xe_aload_n dX11_aboveOf_115 rfl ?_
          refine e_getA (G := GS) (r := 110) dX11_aboveOf_116 fdX11_22 rfl gk_110 gr_110_8 ?_
          refine xe_iload_n dX11_aboveOf_119 rfl ?_
          refine xe_iload dX11_aboveOf_120 rfl ?_
          refine xz_if_eq 129 dX11_aboveOf_122 (by decide) (fun c => ?_) (fun c => ?_)
          · have ea : abS P.2.2.2 a q = a := by unfold abS; rw [← hR, c]; rfl
            have := fin a ea.symm (by rw [c]; rfl) (by rw [c]; rfl)
            rw [c] at this
            refine xe_iconst (v := nI 0) dX11_aboveOf_129 (by decide) ?_
            exact this _ _
          · have ea : abS P.2.2.2 a q = (a.1 ||| 2 ^ q, a.2 + 1) := by unfold abS; rw [← hR, c]; rfl
            have := fin (a.1 ||| 2 ^ q, a.2 + 1) ea.symm (by rw [c]; rfl) (by rw [c]; rfl)
            rw [c] at this
            refine xe_iconst (v := nI 1) dX11_aboveOf_125 (by decide) ?_
            refine xe_goto 130 dX11_aboveOf_126 (by decide) ?_
            exact this _ _
        | succ d ih2 =>
          intro e is w1 he hie hR
          have hle : e < P.2.2.2.length := by omega
          have hy : P.2.2.2[e]? = some P.2.2.2[e] := List.getElem?_eq_getElem hle
          generalize P.2.2.2[e] = y at hy
          have hcx : crX P.2.2.2 e q = crS y x := by unfold crX; rw [hy, hx]
          have hR : (is || ((a.1.testBit e && crX P.2.2.2 e q) || anyN (fun e => a.1.testBit e && crX P.2.2.2 e q) (e + 1) d)) = crQ P.2.2.2 a.1 q := hR
          rw [hcx, ← Bool.or_assoc] at hR
          have yes : (is || (a.1.testBit e && crS y x)) = true → Ev xs L mX11_aboveOf 102 [.ref 110, .int (nI i), .int (nI a.2), .int (nI q), .int (bI is), .int (nI e)] [] GS t GS (fun w t => w = some (.int (nI (abv P.2.2.2 i))) ∧ FA 115 σ t) := by
            intro hy2
            rw [hy2] at hR
            refine xe_iconst (v := nI 1) dX11_aboveOf_102 (by decide) ?_
            refine xe_goto 107 dX11_aboveOf_103 (by decide) ?_
            refine xe_istore dX11_aboveOf_107 (by decide) ?_
            refine xn_inc dX11_aboveOf_109 rfl (by decide) ?_
            refine xe_goto 61 dX11_aboveOf_112 (by decide) ?_
            exact ih2 (e + 1) true w1 (by omega) (by omega) hR
          have no : (is || (a.1.testBit e && crS y x)) = false → Ev xs L mX11_aboveOf 106 [.ref 110, .int (nI i), .int (nI a.2), .int (nI q), .int (bI is), .int (nI e)] [] GS t GS (fun w t => w = some (.int (nI (abv P.2.2.2 i))) ∧ FA 115 σ t) := by
            intro hy2
            rw [hy2] at hR
            refine xe_iconst (v := nI 0) dX11_aboveOf_106 (by decide) ?_
            refine xe_istore dX11_aboveOf_107 (by decide) ?_
            refine xn_inc dX11_aboveOf_109 rfl (by decide) ?_
            refine xe_goto 61 dX11_aboveOf_112 (by decide) ?_
            exact ih2 (e + 1) false w1 (by omega) (by omega) hR
          refine xe_iload dX11_aboveOf_61 rfl ?_
          refine xe_iload_n dX11_aboveOf_63 rfl ?_
          refine xe_icmp_ge 115 dX11_aboveOf_64 (by decide) (fun c => absurd c (nI_ge (by omega) (by omega))) (fun _ => ?_)
          refine xe_iload dX11_aboveOf_67 rfl ?_
          refine xz_if_ne 102 dX11_aboveOf_69 (by decide) (fun c => ?_) (fun c => ?_)
          · exact yes (by rw [c]; rfl)
          refine xe_aload_n dX11_aboveOf_72 rfl ?_
          refine e_getA (G := GS) (r := 110) dX11_aboveOf_73 fdX11_22 rfl gk_110 gr_110_8 ?_
          refine xe_iload dX11_aboveOf_76 rfl ?_
          refine e_iald (G := GS) (a := 115) dX11_aboveOf_78 gk_115 gn_115 (by omega) (by decide) (b4' e hie (by omega)) ?_
          refine xe_iconst (v := nI 1) dX11_aboveOf_79 (by decide) ?_
          cases ht : a.1.testBit e with
          | false =>
            rw [ht] at no
            refine xe_icmp_ne 106 dX11_aboveOf_80 (by decide) (fun _ => ?_) (fun c => absurd c (by decide))
            exact no (by rw [c]; rfl)
          | true =>
            rw [ht] at no yes
            refine xe_icmp_ne 106 dX11_aboveOf_80 (by decide) (fun c => absurd c (fun q => q rfl)) (fun _ => ?_)
            refine xe_aload_n dX11_aboveOf_83 rfl ?_
            refine xe_iconst (v := nI 0) dX11_aboveOf_84 (by decide) ?_
            refine xe_iload dX11_aboveOf_85 rfl ?_
            refine e_callVp (G := GS) (r := 110) (M_laid h2 hy) dX11_aboveOf_87 kvX11_124 gk_110 rfl ?_
            refine xe_aload_n dX11_aboveOf_90 rfl ?_
            refine xe_iconst (v := nI 0) dX11_aboveOf_91 (by decide) ?_
            refine xe_iload_n dX11_aboveOf_92 rfl ?_
            refine e_callVp (G := GS) (r := 110) (M_laid h2 hx) dX11_aboveOf_93 kvX11_124 gk_110 rfl ?_
            refine e_callSp (M_crossOnes (h.so hy) (h.so hx)) dX11_aboveOf_96 ksX11_156 rfl ?_
            refine xz_if_eq 106 dX11_aboveOf_99 (by decide) (fun c2 => ?_) (fun c2 => ?_)
            · exact no (by rw [c, c2]; rfl)
            · exact yes (by rw [c2, Bool.and_true, Bool.or_true])
      refine xe_iload_n dX11_aboveOf_30 rfl ?_
      refine xe_aload_n dX11_aboveOf_31 rfl ?_
      refine xe_iconst (v := nI 0) dX11_aboveOf_32 (by decide) ?_
      refine e_callVp (G := GS) (r := 110) (M_many h2) dX11_aboveOf_33 kvX11_121 gk_110 rfl ?_
      refine xe_icmp_ge 146 dX11_aboveOf_36 (by decide) (fun c => absurd c (nI_ge hl (by omega))) (fun _ => ?_)
      refine xe_aload_n dX11_aboveOf_39 rfl ?_
      refine xe_iconst (v := nI 0) dX11_aboveOf_40 (by decide) ?_
      refine xe_iload_n dX11_aboveOf_41 rfl ?_
      refine e_callVp (G := GS) (r := 110) (M_laid h2 hs) dX11_aboveOf_42 kvX11_124 gk_110 rfl ?_
      refine xe_aload_n dX11_aboveOf_45 rfl ?_
      refine xe_iconst (v := nI 0) dX11_aboveOf_46 (by decide) ?_
      refine xe_iload_n dX11_aboveOf_47 rfl ?_
      refine e_callVp (G := GS) (r := 110) (M_laid h2 hx) dX11_aboveOf_48 kvX11_124 gk_110 rfl ?_
      refine e_callSp (M_crossOnes (h.so hs) (h.so hx)) dX11_aboveOf_51 ksX11_156 rfl ?_
      refine xe_istore dX11_aboveOf_54 (by decide) ?_
      refine xe_iload_n dX11_aboveOf_56 rfl ?_
      refine xe_iconst (v := nI 1) dX11_aboveOf_57 (by decide) ?_
      first | refine xn_iadd dX11_aboveOf_58 ?_ | refine xe_iadd dX11_aboveOf_58 ?_
      refine xe_istore dX11_aboveOf_59 (by decide) ?_
      exact inner (q - (i + 1)) (i + 1) (crS s x) w1 (by omega) (by omega) hsp.symm
  have key1 : ∀ k j (t : xS), j + k = P.2.2.2.length → FA 115 σ t → Ev xs L mX11_aboveOf 4 [.ref 110, .int (nI i), .int (nI 0), .int (nI j), .null, .null] [] GS t GS (fun w t => w = some (.int (nI (abv P.2.2.2 i))) ∧ FA 115 σ t) := by
    intro k
    induction k with
    | zero =>
      intro j t hj hf
      have h2 := h.fa hf (by decide)
      refine xe_iload_n dX11_aboveOf_4 rfl ?_
      refine xe_aload_n dX11_aboveOf_5 rfl ?_
      refine xe_iconst (v := nI 0) dX11_aboveOf_6 (by decide) ?_
      refine e_callVp (G := GS) (r := 110) (M_many h2) dX11_aboveOf_7 kvX11_121 gk_110 rfl ?_
      refine xe_icmp_ge 26 dX11_aboveOf_10 (by decide) (fun _ => ?_) (fun c => absurd (nI_le (by omega) (by omega)) c)
      refine xe_iload_n dX11_aboveOf_26 rfl ?_
      refine xe_iconst (v := nI 1) dX11_aboveOf_27 (by decide) ?_
      first | refine xn_iadd dX11_aboveOf_28 ?_ | refine xe_iadd dX11_aboveOf_28 ?_
      refine xe_istore_n dX11_aboveOf_29 (by decide) ?_
      exact key2 (P.2.2.2.length - (i + 1)) (i + 1) (2 ^ i, 0) t _ _ (by omega) (by omega) rfl (by show (2 ^ i).testBit i = true; rw [Nat.testBit_two_pow]; simp) (fun e he => by show (2 ^ i).testBit e = false; rw [Nat.testBit_two_pow]; simp; omega) (Nat.pow_lt_pow_right (by decide) (by omega)) (fun e h1 h2 => by omega) hf
    | succ k ih =>
      intro j t hj hf
      have h2 := h.fa hf (by decide)
      refine xe_iload_n dX11_aboveOf_4 rfl ?_
      refine xe_aload_n dX11_aboveOf_5 rfl ?_
      refine xe_iconst (v := nI 0) dX11_aboveOf_6 (by decide) ?_
      refine e_callVp (G := GS) (r := 110) (M_many h2) dX11_aboveOf_7 kvX11_121 gk_110 rfl ?_
      refine xe_icmp_ge 26 dX11_aboveOf_10 (by decide) (fun c => absurd c (nI_ge (by omega) (by omega))) (fun _ => ?_)
      refine xe_aload_n dX11_aboveOf_13 rfl ?_
      refine e_getA (G := GS) (r := 110) dX11_aboveOf_14 fdX11_22 rfl gk_110 gr_110_8 ?_
      refine xe_iload_n dX11_aboveOf_17 rfl ?_
      refine xe_iconst (v := nI 0) dX11_aboveOf_18 (by decide) ?_
      refine e_iast (G := GS) (a := 115) dX11_aboveOf_19 gk_115 gn_115 (by omega) (by decide) ?_
      refine xn_inc dX11_aboveOf_20 rfl (by decide) ?_
      refine xe_goto 4 dX11_aboveOf_23 (by decide) ?_
      exact ih (j + 1) _ (by omega) (hf.pi _ _)
  refine xe_iconst (v := nI 0) dX11_aboveOf_0 (by decide) ?_
  refine xe_istore_n dX11_aboveOf_1 (by decide) ?_
  refine xe_iconst (v := nI 0) dX11_aboveOf_2 (by decide) ?_
  refine xe_istore_n dX11_aboveOf_3 (by decide) ?_
  exact key1 P.2.2.2.length 0 σ (by omega) (FA.rf 115 σ)
end MK
