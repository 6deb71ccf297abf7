/-! the model's calls, the rest -/
theorem csz_mono {u w : Nat} (h : ∀ k, u.testBit k = true → w.testBit k = true) : ∀ z, csz u z ≤ csz w z
  | [] => Nat.le_refl _
  | s :: r => by
    have ih := csz_mono h r
    have hc : r.countP (fun x => u.testBit x.1 && crS s x) ≤ r.countP (fun x => w.testBit x.1 && crS s x) := List.countP_mono_left (fun x _ hx => by
      simp only [Bool.and_eq_true] at hx ⊢
      exact ⟨h _ hx.1, hx.2⟩)
    show (if u.testBit s.1 then r.countP (fun x => u.testBit x.1 && crS s x) else 0) + csz u r ≤ (if w.testBit s.1 then r.countP (fun x => w.testBit x.1 && crS s x) else 0) + csz w r
    by_cases c : u.testBit s.1 = true
    · rw [if_pos c, if_pos (h _ c)]
      omega
    · rw [if_neg c]
      omega
theorem pc_free : ∀ T, T ≤ 4 → ∀ t, t < T → ∀ u, u < 2 ^ T → u.testBit t = false → pc u ≤ T - 1 := by decide +kernel
theorem fc_le : ∀ T, T ≤ 4 → fc T ≤ 24 := by decide
theorem foldN_pr {f g : Nat → Nat → Nat} : ∀ k i a b, foldN (fun (q : Nat × Nat) i => (f q.1 i, g q.2 i)) i k (a, b) = (foldN f i k a, foldN g i k b)
  | 0, _, _, _ => rfl
  | k + 1, i, a, b => foldN_pr k (i + 1) (f a i) (g b i)
theorem len4 : ∀ z : List xSt, (∀ s ∈ z, s.1 < 4) → lenT z 0 + lenT z 1 + lenT z 2 + lenT z 3 = lenA z
  | [], _ => rfl
  | s :: r, h => by
    have ih := len4 r (fun x hx => h x (List.mem_cons_of_mem _ hx))
    have hs := h s (List.mem_cons_self ..)
    have e : ∀ j, lenT (s :: r) j = (if s.1 = j then lnb s.2.1 s.2.2.1 else 0) + lenT r j := fun j => rfl
    have e2 : lenA (s :: r) = lnb s.2.1 s.2.2.1 + lenA r := rfl
    rw [e, e, e, e, e2, ← ih]
    have : s.1 = 0 ∨ s.1 = 1 ∨ s.1 = 2 ∨ s.1 = 3 := by omega
    rcases this with q | q | q | q <;> rw [q] <;> simp <;> omega
def stQ (sn : List xSn) (m : Nat) : Int32 := if m = 0 then nI (hwm sn) else o9 (fstS sn)
theorem aStars_Q {A : yA} {m : Nat} (hm : m ≤ 1) : aStars A (nI m) = stQ A.2.2.2.2.1 m := by
  unfold aStars stQ
  rw [sel_n hm (by decide)]
  generalize hwm A.2.2.2.2.1 = a
  generalize fstS A.2.2.2.2.1 = b
  match m, hm with
  | 0, _ => rfl
  | 1, _ => rfl
  | m + 2, hm => omega
section M3
variable {xs : Nat → Int32} {L : Nat} {σ : xS} {A : yA}
theorem M_stars (h : IM σ A) {w : Int32} : Cl xs L mX11_stars [.ref 110, .int w] GS σ GS (pM σ (aStars A w, A)) := by
  show Ev xs L mX11_stars 0 [.ref 110, .int w, .null, .null, .null, .null, .null, .null, .null] [] GS σ GS _
  obtain ⟨s1, s2, s3⟩ := h.2.2.2.2.1
  refine xe_iload_n dX11_stars_0 rfl ?_
  refine xe_i2l dX11_stars_1 ?_
  refine xe_lconst (v := lN 0) dX11_stars_2 (by decide) ?_
  refine xe_lconst (v := lN 1) dX11_stars_3 (by decide) ?_
  refine e_callSp (M_inO (a := 0) (b := 1) (by decide) (by decide)) dX11_stars_4 ksX11_49 rfl ?_
  refine xz_if_ne 13 dX11_stars_7 (by decide) (fun c => ?_) (fun c => ?_)
  · obtain ⟨m, -, hm, rfl⟩ := outQ_of (by decide) (by decide) (nout c)
    rw [aStars_Q hm]
    generalize A.2.2.2.2.1 = sn at s1 s2 s3 ⊢
    have hR := stP_ok sn
    unfold stQ
    generalize hwm sn = hw at hR ⊢
    generalize fstS sn = fs at hR ⊢
    have key := goN (α := Nat × Option Nat) 132 (fun q e => stP sn q (e / 11) (1 + e % 11)) (fun e q => q.1 ≤ e → ∀ w1 w2 w3 w4 : Value, Ev xs L mX11_stars 21 [.ref 110, .int (nI m), .int (nI q.1), .int (o9 q.2), .int (nI e), w1, w2, w3, w4] [] GS σ GS (pM σ (if m = 0 then nI hw else o9 fs, A))) (hw, fs) (by
        intro _ w1 w2 w3 w4
        refine xe_iload dX11_stars_21 rfl ?_
        refine xe_sipush (v := nI 132) dX11_stars_23 (by decide) ?_
        refine xe_icmp_ge 169 dX11_stars_26 (by decide) (fun _ => ?_) (fun c => absurd (by decide) c)
        refine xe_iload_n dX11_stars_169 rfl ?_
        match m, hm with
        | 0, _ =>
          refine xe_if_ne 177 dX11_stars_170 (by decide) (fun c => absurd c (fun q => q rfl)) (fun _ => ?_)
          refine xe_iload_n dX11_stars_173 rfl ?_
          refine xe_goto 178 dX11_stars_174 (by decide) ?_
          exact xe_iret dX11_stars_178 rfl (pM_0 h)
        | 1, _ =>
          refine xe_if_ne 177 dX11_stars_170 (by decide) (fun _ => ?_) (fun c => absurd c (by decide))
          refine xe_iload_n dX11_stars_177 rfl ?_
          exact xe_iret dX11_stars_178 rfl (pM_0 h)
        | m + 2, hm => omega) (by
        intro e q he kk hq w1 w2 w3 w4
        have ha : e / 11 < 12 := by omega
        have hk : 1 + e % 11 ≤ 11 := by omega
        refine xe_iload dX11_stars_21 rfl ?_
        refine xe_sipush (v := nI 132) dX11_stars_23 (by decide) ?_
        refine xe_icmp_ge 169 dX11_stars_26 (by decide) (fun c => absurd c (nI_ge he (by omega))) (fun _ => ?_)
        refine xe_iload dX11_stars_29 rfl ?_
        refine xe_bipush (v := nI 11) dX11_stars_31 (by decide) ?_
        refine xn_idiv dX11_stars_33 (by omega) (by decide) (by decide) ?_
        refine xe_istore dX11_stars_34 (by decide) ?_
        refine xe_iconst (v := nI 1) dX11_stars_36 (by decide) ?_
        refine xe_iload dX11_stars_37 rfl ?_
        refine xe_bipush (v := nI 11) dX11_stars_39 (by decide) ?_
        refine xn_irem dX11_stars_41 (by omega) (by decide) (by decide) ?_
        first | refine xn_iadd dX11_stars_42 ?_ | refine xe_iadd dX11_stars_42 ?_
        refine xe_istore dX11_stars_43 (by decide) ?_
        generalize e / 11 = a at kk ha ⊢
        generalize 1 + e % 11 = k at kk hk ⊢
        have kk : (stP sn q a k).1 ≤ e + 1 → ∀ w1 w2 w3 w4 : Value, Ev xs L mX11_stars 21 [.ref 110, .int (nI m), .int (nI (stP sn q a k).1), .int (o9 (stP sn q a k).2), .int (nI (e + 1)), w1, w2, w3, w4] [] GS σ GS _ := kk
        have inner : ∀ d i (f : Bool), i + d = sn.length → (f && (sn.drop i).all (fun q => ((a + k * q.1) % 12 == q.2.1) == (q.2.2 == 1))) = fitQ sn a k → Ev xs L mX11_stars 51 [.ref 110, .int (nI m), .int (nI q.1), .int (o9 q.2), .int (nI e), .int (nI a), .int (nI k), .int (bI f), .int (nI i)] [] GS σ GS (pM σ (if m = 0 then nI hw else o9 fs, A)) := by
          intro d
          induction d with
          | zero =>
            intro i f hi hf
            rw [List.drop_of_length_le (by omega), List.all_nil, Bool.and_true] at hf
            refine xe_iload dX11_stars_51 rfl ?_
            refine xe_aload_n dX11_stars_53 rfl ?_
            refine e_getI (G := GS) (r := 110) dX11_stars_54 fdX11_240 rfl gk_110 s1 ?_
            refine xe_icmp_ge 128 dX11_stars_57 (by decide) (fun _ => ?_) (fun c => absurd (nI_le (by omega) (by omega)) c)
            unfold stP at kk
            rw [← hf] at kk
            refine xe_iload dX11_stars_128 rfl ?_
            refine xz_if_eq 148 dX11_stars_130 (by decide) (fun c5 => ?_) (fun c5 => ?_)
            · rw [c5, if_neg (by decide)] at kk
              refine xe_iload_n dX11_stars_148 rfl ?_
              refine xe_istore_n dX11_stars_149 (by decide) ?_
              refine xe_iload_n dX11_stars_150 rfl ?_
              refine xe_iload dX11_stars_151 rfl ?_
              rw [c5]
              refine xe_if_eq 160 dX11_stars_153 (by decide) (fun _ => ?_) (fun c => absurd rfl c)
              refine xe_iconst (v := nI 0) dX11_stars_160 (by decide) ?_
              first | refine xn_iadd dX11_stars_161 ?_ | refine xe_iadd dX11_stars_161 ?_
              refine xe_istore_n dX11_stars_162 (by decide) ?_
              refine xn_inc dX11_stars_163 rfl (by decide) ?_
              refine xe_goto 21 dX11_stars_166 (by decide) ?_
              exact kk (by omega) _ _ _ _
            · rw [c5, if_pos rfl] at kk
              refine xe_iload_n dX11_stars_133 rfl ?_
              refine xn_if_ne 148 dX11_stars_134 (by decide) (by omega) (fun c6 => ?_) (fun c6 => ?_)
              · rw [if_neg (by omega)] at kk
                refine xe_iload_n dX11_stars_148 rfl ?_
                refine xe_istore_n dX11_stars_149 (by decide) ?_
                refine xe_iload_n dX11_stars_150 rfl ?_
                refine xe_iload dX11_stars_151 rfl ?_
                rw [c5]
                refine xe_if_eq 160 dX11_stars_153 (by decide) (fun c => absurd c (by decide)) (fun _ => ?_)
                refine xe_iconst (v := nI 1) dX11_stars_156 (by decide) ?_
                refine xe_goto 161 dX11_stars_157 (by decide) ?_
                first | refine xn_iadd dX11_stars_161 ?_ | refine xe_iadd dX11_stars_161 ?_
                refine xe_istore_n dX11_stars_162 (by decide) ?_
                refine xn_inc dX11_stars_163 rfl (by decide) ?_
                refine xe_goto 21 dX11_stars_166 (by decide) ?_
                exact kk (by show q.1 + 1 ≤ e + 1; omega) _ _ _ _
              · rw [if_pos c6] at kk
                refine xe_bipush (v := nI 100) dX11_stars_137 (by decide) ?_
                refine xe_iload dX11_stars_139 rfl ?_
                first | refine xn_imul dX11_stars_141 ?_ | refine xe_imul dX11_stars_141 ?_
                refine xe_iload dX11_stars_142 rfl ?_
                first | refine xn_iadd dX11_stars_144 ?_ | refine xe_iadd dX11_stars_144 ?_
                refine xe_goto 149 dX11_stars_145 (by decide) ?_
                refine xe_istore_n dX11_stars_149 (by decide) ?_
                refine xe_iload_n dX11_stars_150 rfl ?_
                refine xe_iload dX11_stars_151 rfl ?_
                rw [c5]
                refine xe_if_eq 160 dX11_stars_153 (by decide) (fun c => absurd c (by decide)) (fun _ => ?_)
                refine xe_iconst (v := nI 1) dX11_stars_156 (by decide) ?_
                refine xe_goto 161 dX11_stars_157 (by decide) ?_
                first | refine xn_iadd dX11_stars_161 ?_ | refine xe_iadd dX11_stars_161 ?_
                refine xe_istore_n dX11_stars_162 (by decide) ?_
                refine xn_inc dX11_stars_163 rfl (by decide) ?_
                refine xe_goto 21 dX11_stars_166 (by decide) ?_
                exact kk (by show q.1 + 1 ≤ e + 1; omega) _ _ _ _
          | succ d ih =>
            intro i f hi hf
            have hl : i < sn.length := by omega
            have hs : sn[i]? = some sn[i] := List.getElem?_eq_getElem hl
            rw [List.drop_eq_getElem_cons hl, List.all_cons] at hf
            generalize sn[i] = r at hs hf
            obtain ⟨g1, g2, g3, g4, g5, g6⟩ := s3 i r hs
            have hkr : k * r.1 ≤ 11 * 12 := Nat.mul_le_mul hk g4
            have no : (f && (((a + k * r.1) % 12 == r.2.1) == (r.2.2 == 1))) = false → Ev xs L mX11_stars 119 [.ref 110, .int (nI m), .int (nI q.1), .int (o9 q.2), .int (nI e), .int (nI a), .int (nI k), .int (bI f), .int (nI i)] [] GS σ GS (pM σ (if m = 0 then nI hw else o9 fs, A)) := by
              intro hn
              rw [← Bool.and_assoc, hn] at hf
              refine xe_iconst (v := nI 0) dX11_stars_119 (by decide) ?_
              refine xe_istore dX11_stars_120 (by decide) ?_
              refine xn_inc dX11_stars_122 rfl (by decide) ?_
              refine xe_goto 51 dX11_stars_125 (by decide) ?_
              exact ih (i + 1) false (by omega) hf
            have yes : (f && (((a + k * r.1) % 12 == r.2.1) == (r.2.2 == 1))) = true → Ev xs L mX11_stars 115 [.ref 110, .int (nI m), .int (nI q.1), .int (o9 q.2), .int (nI e), .int (nI a), .int (nI k), .int (bI f), .int (nI i)] [] GS σ GS (pM σ (if m = 0 then nI hw else o9 fs, A)) := by
              intro hn
              rw [← Bool.and_assoc, hn] at hf
              refine xe_iconst (v := nI 1) dX11_stars_115 (by decide) ?_
              refine xe_goto 120 dX11_stars_116 (by decide) ?_
              refine xe_istore dX11_stars_120 (by decide) ?_
              refine xn_inc dX11_stars_122 rfl (by decide) ?_
              refine xe_goto 51 dX11_stars_125 (by decide) ?_
              exact ih (i + 1) true (by omega) hf
            refine xe_iload dX11_stars_51 rfl ?_
            refine xe_aload_n dX11_stars_53 rfl ?_
            refine e_getI (G := GS) (r := 110) dX11_stars_54 fdX11_240 rfl gk_110 s1 ?_
            refine xe_icmp_ge 128 dX11_stars_57 (by decide) (fun c => absurd c (nI_ge (by omega) (by omega))) (fun _ => ?_)
            refine xe_iload dX11_stars_60 rfl ?_
            refine xz_if_eq 119 dX11_stars_62 (by decide) (fun c5 => ?_) (fun c5 => ?_)
            · exact no (by rw [c5]; rfl)
            refine xe_iload dX11_stars_65 rfl ?_
            refine xe_iload dX11_stars_67 rfl ?_
            refine xe_aload_n dX11_stars_69 rfl ?_
            refine e_getA (G := GS) (r := 110) dX11_stars_70 fdX11_31 rfl gk_110 gr_110_14 ?_
            refine xe_iload dX11_stars_73 rfl ?_
            refine e_iald (G := GS) (a := 118) dX11_stars_75 gk_118 gn_118 (by omega) (by decide) g1 ?_
            first | refine xn_imul dX11_stars_76 ?_ | refine xe_imul dX11_stars_76 ?_
            first | refine xn_iadd dX11_stars_77 ?_ | refine xe_iadd dX11_stars_77 ?_
            refine xe_bipush (v := nI 12) dX11_stars_78 (by decide) ?_
            refine xn_irem dX11_stars_80 (by omega) (by decide) (by decide) ?_
            refine xe_aload_n dX11_stars_81 rfl ?_
            refine e_getA (G := GS) (r := 110) dX11_stars_82 fdX11_34 rfl gk_110 gr_110_15 ?_
            refine xe_iload dX11_stars_85 rfl ?_
            refine e_iald (G := GS) (a := 119) dX11_stars_87 gk_119 gn_119 (by omega) (by decide) g2 ?_
            refine xn_icmp_ne 95 dX11_stars_88 (by decide) (by omega) (by omega) (fun c6 => ?_) (fun c6 => ?_)
            · rw [beq_false_of_ne c6] at no yes
              refine xe_iconst (v := nI 0) dX11_stars_95 (by decide) ?_
              refine xe_aload_n dX11_stars_96 rfl ?_
              refine e_getA (G := GS) (r := 110) dX11_stars_97 fdX11_37 rfl gk_110 gr_110_16 ?_
              refine xe_iload dX11_stars_100 rfl ?_
              refine e_iald (G := GS) (a := 120) dX11_stars_102 gk_120 gn_120 (by omega) (by decide) g3 ?_
              refine xe_iconst (v := nI 1) dX11_stars_103 (by decide) ?_
              refine xn_icmp_ne 111 dX11_stars_104 (by decide) (by omega) (by omega) (fun c7 => ?_) (fun c7 => ?_)
              · rw [beq_false_of_ne c7] at yes
                refine xe_iconst (v := nI 0) dX11_stars_111 (by decide) ?_
                refine xe_icmp_ne 119 dX11_stars_112 (by decide) (fun c => absurd c (fun q => q rfl)) (fun _ => ?_)
                exact yes (by rw [c5]; rfl)
              · rw [c7] at no
                refine xe_iconst (v := nI 1) dX11_stars_107 (by decide) ?_
                refine xe_goto 112 dX11_stars_108 (by decide) ?_
                refine xe_icmp_ne 119 dX11_stars_112 (by decide) (fun _ => ?_) (fun c => absurd c (by decide))
                exact no (by rw [c5]; rfl)
            · rw [c6, beq_self_eq_true] at no yes
              refine xe_iconst (v := nI 1) dX11_stars_91 (by decide) ?_
              refine xe_goto 96 dX11_stars_92 (by decide) ?_
              refine xe_aload_n dX11_stars_96 rfl ?_
              refine e_getA (G := GS) (r := 110) dX11_stars_97 fdX11_37 rfl gk_110 gr_110_16 ?_
              refine xe_iload dX11_stars_100 rfl ?_
              refine e_iald (G := GS) (a := 120) dX11_stars_102 gk_120 gn_120 (by omega) (by decide) g3 ?_
              refine xe_iconst (v := nI 1) dX11_stars_103 (by decide) ?_
              refine xn_icmp_ne 111 dX11_stars_104 (by decide) (by omega) (by omega) (fun c7 => ?_) (fun c7 => ?_)
              · rw [beq_false_of_ne c7] at no
                refine xe_iconst (v := nI 0) dX11_stars_111 (by decide) ?_
                refine xe_icmp_ne 119 dX11_stars_112 (by decide) (fun _ => ?_) (fun c => absurd c (by decide))
                exact no (by rw [c5]; rfl)
              · rw [c7] at yes
                refine xe_iconst (v := nI 1) dX11_stars_107 (by decide) ?_
                refine xe_goto 112 dX11_stars_108 (by decide) ?_
                refine xe_icmp_ne 119 dX11_stars_112 (by decide) (fun c => absurd c (fun q => q rfl)) (fun _ => ?_)
                exact yes (by rw [c5]; rfl)
        refine xe_iconst (v := nI 1) dX11_stars_45 (by decide) ?_
        refine xe_istore dX11_stars_46 (by decide) ?_
        refine xe_iconst (v := nI 0) dX11_stars_48 (by decide) ?_
        refine xe_istore dX11_stars_49 (by decide) ?_
        exact inner sn.length 0 true (by omega) (by rw [List.drop_zero]; rfl)) 132 0 (0, none) (by omega) hR
    refine xe_iconst (v := nI 0) dX11_stars_13 (by decide) ?_
    refine xe_istore_n dX11_stars_14 (by decide) ?_
    refine xe_bipush (v := -9) dX11_stars_15 (by decide) ?_
    refine xe_istore_n dX11_stars_17 (by decide) ?_
    refine xe_iconst (v := nI 0) dX11_stars_18 (by decide) ?_
    refine xe_istore dX11_stars_19 (by decide) ?_
    exact key (Nat.zero_le _) _ _ _ _
  · refine xe_bipush (v := -2) dX11_stars_10 (by decide) ?_
    exact xe_iret dX11_stars_12 rfl (pM_e h (by unfold aStars; rw [sel_out (by decide) (yout c)]))
theorem M_share (h : IM σ A) {x : Int32} {u : Bool} : Cl xs L mX11_share [.ref 110, .int x, .int (bI u)] GS σ GS (pM σ (aShare A x u, A)) := by
  show Ev xs L mX11_share 0 [.ref 110, .int x, .int (bI u), .null, .null, .null] [] GS σ GS _
  obtain ⟨hT, hK, hl, hr⟩ := h.2.1
  have h4 := hl.2.1.1
  have hz : ∀ s ∈ A.2.1.2.2.2, SO s := fun s hs => (hl.2.1.2.2.1 s hs).2
  have h48 := hl.2.1.len
  unfold aShare
  refine xe_aload_n dX11_share_0 rfl ?_
  refine xe_iload_n dX11_share_1 rfl ?_
  refine e_callVp (G := GS) (r := 110) (M_isThread (by omega) hT) dX11_share_2 kvX11_159 gk_110 rfl ?_
  refine xz_if_ne 10 dX11_share_5 (by decide) (fun c => ?_) (fun c => ?_)
  · obtain ⟨j, hj, rfl⟩ := hasT_of (by omega) c
    rw [thQ_n (by omega) hj]
    dsimp only
    rw [← share_eq u A.2.1.2.2.2 hz h4 hj]
    have b1 := tws_2 A.2.1.2.2.2 hz h4 hj
    have b2 := tws_lt h48 (t := j) h4
    have b3 := fc_le A.2.1.1 h4
    have b4 := fc_pos A.2.1.1
    have b5 : fc A.2.1.1 * tws A.2.1.2.2.2 A.2.1.1 j ≤ 24 * 20000 := Nat.mul_le_mul b3 b2
    have b6 : shr A.2.1.2.2.2 A.2.1.1 j < 2 ^ 31 := by omega
    have p16 : 2 ^ A.2.1.1 ≤ 16 := Nat.pow_le_pow_right (n := 2) (by decide) h4
    have p2j : 2 ^ j < 2 ^ 31 := Nat.pow_lt_pow_right (by decide) (by omega)
    clear b1 b2 b5
    have key := goN (2 ^ A.2.1.1) (shS A.2.1.2.2.2 A.2.1.1 j) (fun s a => ∀ w1 : Value, Ev xs L mX11_share 15 [.ref 110, .int (nI j), .int (bI u), .int (nI a), .int (nI s), w1] [] GS σ GS (pM σ (nI (tld u (shr A.2.1.2.2.2 A.2.1.1 j) (fc A.2.1.1)), A))) (shr A.2.1.2.2.2 A.2.1.1 j) (by
        intro w1
        have hg : 0 < Nat.gcd (shr A.2.1.2.2.2 A.2.1.1 j) (fc A.2.1.1) := Nat.gcd_pos_of_pos_right _ b4
        have hg2 : Nat.gcd (shr A.2.1.2.2.2 A.2.1.1 j) (fc A.2.1.1) ≤ fc A.2.1.1 := Nat.gcd_le_right _ b4
        refine xe_iload dX11_share_15 rfl ?_
        refine xe_iconst (v := nI 1) dX11_share_17 (by decide) ?_
        refine xe_aload_n dX11_share_18 rfl ?_
        refine e_getI (G := GS) (r := 110) dX11_share_19 fdX11_115 rfl gk_110 hT ?_
        refine xe_ishl dX11_share_22 ?_
        rw [bit_shl (by omega)]
        refine xe_icmp_ge 92 dX11_share_23 (by decide) (fun _ => ?_) (fun c => absurd (nI_le (Nat.le_refl _) (by omega)) c)
        refine xe_iload_n dX11_share_92 rfl ?_
        refine xe_aload_n dX11_share_93 rfl ?_
        refine e_getI (G := GS) (r := 110) dX11_share_94 fdX11_115 rfl gk_110 hT ?_
        refine e_callSp (M_factorial (by omega)) dX11_share_97 ksX11_246 rfl ?_
        refine e_callSp (M_common b6 (show fc A.2.1.1 < 2 ^ 31 by omega)) dX11_share_100 ksX11_249 rfl ?_
        refine xe_istore dX11_share_103 (by decide) ?_
        refine xe_iload_n dX11_share_105 rfl ?_
        unfold tld
        refine xz_if_eq 116 dX11_share_106 (by decide) (fun cu => ?_) (fun cu => ?_)
        · rw [cu, if_neg (by decide)]
          refine xe_aload_n dX11_share_116 rfl ?_
          refine e_getI (G := GS) (r := 110) dX11_share_117 fdX11_115 rfl gk_110 hT ?_
          refine e_callSp (M_factorial (by omega)) dX11_share_120 ksX11_246 rfl ?_
          refine xe_iload dX11_share_123 rfl ?_
          refine xn_idiv dX11_share_125 (by omega) hg (by omega) ?_
          exact xe_iret dX11_share_126 rfl (pM_0 h)
        · rw [cu, if_pos rfl]
          refine xe_iload_n dX11_share_109 rfl ?_
          refine xe_iload dX11_share_110 rfl ?_
          refine xn_idiv dX11_share_112 b6 hg (by omega) ?_
          refine xe_goto 126 dX11_share_113 (by decide) ?_
          exact xe_iret dX11_share_126 rfl (pM_0 h)) (by
        intro s a hs kk w1
        refine xe_iload dX11_share_15 rfl ?_
        refine xe_iconst (v := nI 1) dX11_share_17 (by decide) ?_
        refine xe_aload_n dX11_share_18 rfl ?_
        refine e_getI (G := GS) (r := 110) dX11_share_19 fdX11_115 rfl gk_110 hT ?_
        refine xe_ishl dX11_share_22 ?_
        rw [bit_shl (by omega)]
        refine xe_icmp_ge 92 dX11_share_23 (by decide) (fun c => absurd c (nI_ge hs (by omega))) (fun _ => ?_)
        refine xe_iload dX11_share_26 rfl ?_
        refine xe_iload_n dX11_share_28 rfl ?_
        refine e_callSp (M_has (show s < 2 ^ 31 by omega) (show j < 32 by omega)) dX11_share_29 ksX11_201 rfl ?_
        unfold shS at kk
        refine xz_if_ne 86 dX11_share_32 (by decide) (fun c1 => ?_) (fun c1 => ?_)
        · rw [if_pos c1] at kk
          refine xn_inc dX11_share_86 rfl (by decide) ?_
          refine xe_goto 15 dX11_share_89 (by decide) ?_
          exact kk _
        · rw [if_neg (by rw [c1]; decide)] at kk
          have hpc := pc_free A.2.1.1 h4 j hj s hs c1
          have hp12 := pc_le s
          refine xe_iload dX11_share_35 rfl ?_
          refine e_callSp (M_ones (show s < 2 ^ 31 by omega)) dX11_share_37 ksX11_243 rfl ?_
          refine e_callSp (M_factorial (by omega)) dX11_share_40 ksX11_246 rfl ?_
          refine xe_aload_n dX11_share_43 rfl ?_
          refine e_getI (G := GS) (r := 110) dX11_share_44 fdX11_115 rfl gk_110 hT ?_
          refine xe_iconst (v := nI 1) dX11_share_47 (by decide) ?_
          refine xn_isub dX11_share_48 (by omega) ?_
          refine xe_iload dX11_share_49 rfl ?_
          refine e_callSp (M_ones (show s < 2 ^ 31 by omega)) dX11_share_51 ksX11_243 rfl ?_
          refine xn_isub dX11_share_54 hpc ?_
          refine e_callSp (M_factorial (by omega)) dX11_share_55 ksX11_246 rfl ?_
          first | refine xn_imul dX11_share_58 ?_ | refine xe_imul dX11_share_58 ?_
          refine xe_istore dX11_share_59 (by decide) ?_
          refine xe_iload_n dX11_share_61 rfl ?_
          refine xe_iload dX11_share_62 rfl ?_
          refine xe_aload_n dX11_share_64 rfl ?_
          refine xe_iconst (v := nI 0) dX11_share_65 (by decide) ?_
          refine xe_iload dX11_share_66 rfl ?_
          refine xe_iconst (v := nI 1) dX11_share_68 (by decide) ?_
          refine xe_iload_n dX11_share_69 rfl ?_
          refine xe_ishl dX11_share_70 ?_
          refine xe_ior dX11_share_71 ?_
          rw [bit_shl (show j < 31 by omega), nI_or]
          refine e_callVp (G := GS) (r := 110) (M_crossesOf hl (Nat.or_lt_two_pow (show s < 2 ^ 31 by omega) p2j)) dX11_share_72 kvX11_204 gk_110 rfl ?_
          refine xe_aload_n dX11_share_75 rfl ?_
          refine xe_iconst (v := nI 0) dX11_share_76 (by decide) ?_
          refine xe_iload dX11_share_77 rfl ?_
          refine e_callVp (G := GS) (r := 110) (M_crossesOf hl (show s < 2 ^ 31 by omega)) dX11_share_79 kvX11_204 gk_110 rfl ?_
          refine xn_isub dX11_share_82 (csz_mono (fun k hk => by rw [Nat.testBit_or, hk]; rfl) _) ?_
          first | refine xn_imul dX11_share_83 ?_ | refine xe_imul dX11_share_83 ?_
          first | refine xn_iadd dX11_share_84 ?_ | refine xe_iadd dX11_share_84 ?_
          refine xe_istore_n dX11_share_85 (by decide) ?_
          refine xn_inc dX11_share_86 rfl (by decide) ?_
          refine xe_goto 15 dX11_share_89 (by decide) ?_
          exact kk _) (2 ^ A.2.1.1) 0 0 (by omega) rfl
    refine xe_iconst (v := nI 0) dX11_share_10 (by decide) ?_
    refine xe_istore_n dX11_share_11 (by decide) ?_
    refine xe_iconst (v := nI 0) dX11_share_12 (by decide) ?_
    refine xe_istore dX11_share_13 (by decide) ?_
    exact key .null
  · rw [thQ_f c]
    refine xe_iconst (v := -1) dX11_share_8 (by decide) ?_
    exact xe_iret dX11_share_9 rfl (pM_0 h)
theorem M_rests (h : IM σ A) {x y w : Int32} : Cl xs L mX11_rests [.ref 110, .int x, .int y, .int w] GS σ GS (pM σ (aRests A x y w, A)) := by
  show Ev xs L mX11_rests 0 [.ref 110, .int x, .int y, .int w, .null, .null, .null] [] GS σ GS _
  obtain ⟨hT, hK, hl, hr⟩ := h.2.1
  have hkd := h.2.1.kd 1
  have h4 := hl.2.1.1
  unfold aRests
  have bad : ∀ lv : List Value, Ev xs L mX11_rests 33 lv [] GS σ GS (pM σ (-2, A)) := by
    intro lv
    refine xe_bipush (v := -2) dX11_rests_33 (by decide) ?_
    exact xe_iret dX11_rests_35 rfl (pM_0 h)
  refine xe_aload_n dX11_rests_0 rfl ?_
  refine xe_iload_n dX11_rests_1 rfl ?_
  refine e_callVp (G := GS) (r := 110) (M_isThread (by omega) hT) dX11_rests_2 kvX11_159 gk_110 rfl ?_
  refine xz_if_eq 16 dX11_rests_5 (by decide) (fun c => ?_) (fun c => ?_)
  · rw [thQ_f c]
    refine xe_iconst (v := -1) dX11_rests_16 (by decide) ?_
    exact xe_iret dX11_rests_17 rfl (pM_0 h)
  obtain ⟨i, hi, rfl⟩ := hasT_of (by omega) c
  rw [thQ_n (by omega) hi]
  refine xe_aload_n dX11_rests_8 rfl ?_
  refine xe_iload_n dX11_rests_9 rfl ?_
  refine e_callVp (G := GS) (r := 110) (M_isThread (by omega) hT) dX11_rests_10 kvX11_159 gk_110 rfl ?_
  refine xz_if_ne 18 dX11_rests_13 (by decide) (fun c2 => ?_) (fun c2 => ?_)
  · obtain ⟨j, hj, rfl⟩ := hasT_of (by omega) c2
    rw [thQ_n (by omega) hj]
    dsimp only
    refine xe_iload_n dX11_rests_18 rfl ?_
    refine xe_iload_n dX11_rests_19 rfl ?_
    refine xn_icmp_eq 33 dX11_rests_20 (by decide) (by omega) (by omega) (fun c3 => ?_) (fun c3 => ?_)
    · rw [if_pos c3]
      exact bad _
    rw [if_neg c3]
    refine xe_iload_n dX11_rests_23 rfl ?_
    refine xe_i2l dX11_rests_24 ?_
    refine xe_lconst (v := lN 0) dX11_rests_25 (by decide) ?_
    refine xe_lconst (v := lN 1) dX11_rests_26 (by decide) ?_
    refine e_callSp (M_inO (a := 0) (b := 1) (by decide) (by decide)) dX11_rests_27 ksX11_49 rfl ?_
    refine xz_if_ne 36 dX11_rests_30 (by decide) (fun c4 => ?_) (fun c4 => ?_)
    · obtain ⟨k, -, hk, rfl⟩ := outQ_of (by decide) (by decide) (nout c4)
      rw [sel_n hk (by decide)]
      have key : ∀ d p c (o : Option Nat) (t : xS), p + d = 4 → c ≤ p → (c = 0 ↔ o = none) → foldN (fun c p => if rsQ A.2.1 i j p then c + 1 else c) p d c = rsN A.2.1 i j → foldN (rsI A.2.1 i j) p d o = rsF A.2.1 i j → FL σ t 1 → Ev xs L mX11_rests 46 [.ref 110, .int (nI i), .int (nI j), .int (nI k), .int (nI c), .int (o9 o), .int (nI p)] [] GS t GS (pM σ ((match some k with
          | none => -2
          | some 0 => nI (rsN A.2.1 i j)
          | some _ => o9 (rsF A.2.1 i j)), A)) := by
        intro d
        induction d with
        | zero =>
          intro p c o t hp hc hco r1 r2 ft
          have r1 : c = rsN A.2.1 i j := r1
          have r2 : o = rsF A.2.1 i j := r2
          refine xe_iload dX11_rests_46 rfl ?_
          refine xe_iconst (v := nI 4) dX11_rests_48 (by decide) ?_
          refine xe_icmp_ge 102 dX11_rests_49 (by decide) (fun _ => ?_) (fun c => absurd (nI_le (by omega) (by omega)) c)
          refine xe_iload_n dX11_rests_102 rfl ?_
          match k, hk with
          | 0, _ =>
            refine xe_if_ne 111 dX11_rests_103 (by decide) (fun c => absurd c (fun q => q rfl)) (fun _ => ?_)
            refine xe_iload dX11_rests_106 rfl ?_
            refine xe_goto 113 dX11_rests_108 (by decide) ?_
            refine xe_iret dX11_rests_113 rfl ?_
            rw [r1]
            exact pM_t h (FT.of ft)
          | 1, _ =>
            refine xe_if_ne 111 dX11_rests_103 (by decide) (fun _ => ?_) (fun c => absurd c (by decide))
            refine xe_iload dX11_rests_111 rfl ?_
            refine xe_iret dX11_rests_113 rfl ?_
            rw [r2]
            exact pM_t h (FT.of ft)
          | k + 2, hk => omega
        | succ d ih =>
          intro p c o t hp hc hco r1 r2 ft
          have r1 : foldN (fun c p => if rsQ A.2.1 i j p then c + 1 else c) (p + 1) d (if rsQ A.2.1 i j p then c + 1 else c) = rsN A.2.1 i j := r1
          have r2 : foldN (rsI A.2.1 i j) (p + 1) d (rsI A.2.1 i j o p) = rsF A.2.1 i j := r2
          unfold rsI at r2
          refine xe_iload dX11_rests_46 rfl ?_
          refine xe_iconst (v := nI 4) dX11_rests_48 (by decide) ?_
          refine xe_icmp_ge 102 dX11_rests_49 (by decide) (fun c => absurd c (nI_ge (by omega) (by omega))) (fun _ => ?_)
          refine xe_aload_n dX11_rests_52 rfl ?_
          refine xe_iload_n dX11_rests_53 rfl ?_
          refine xe_iload_n dX11_rests_54 rfl ?_
          refine xe_iload dX11_rests_55 rfl ?_
          refine xe_iconst (v := nI 2) dX11_rests_57 (by decide) ?_
          refine xn_idiv dX11_rests_58 (by omega) (by decide) (by decide) ?_
          refine xe_iload dX11_rests_59 rfl ?_
          refine xe_iconst (v := nI 2) dX11_rests_61 (by decide) ?_
          refine xn_irem dX11_rests_62 (by omega) (by decide) (by decide) ?_
          refine e_callV (G := GS) (r := 110) (M_isRest (hl.fl ft (by decide)) (hkd.fl ft) hi hj (show p < 4 by omega)) dX11_rests_63 kvX11_259 gk_110 rfl ?_
          rintro v u ⟨rfl, fu⟩
          refine xz_if_eq 96 dX11_rests_66 (by decide) (fun c5 => ?_) (fun c5 => ?_)
          · rw [c5, if_neg (by decide)] at r1
            rw [c5, Bool.and_false, if_neg (by decide)] at r2
            refine xn_inc dX11_rests_96 rfl (by decide) ?_
            refine xe_goto 46 dX11_rests_99 (by decide) ?_
            exact ih (p + 1) c o u (by omega) (by omega) hco r1 r2 (ft.tr fu)
          · rw [c5, if_pos rfl] at r1
            rw [c5, Bool.and_true] at r2
            refine xe_iload dX11_rests_69 rfl ?_
            refine xn_if_ne 89 dX11_rests_71 (by decide) (by omega) (fun c6 => ?_) (fun c6 => ?_)
            · have ho : o ≠ none := fun q => by have := hco.mpr q; omega
              have ho2 : o.isNone = false := by cases o with
                | none => exact absurd rfl ho
                | some v => rfl
              rw [ho2, if_neg (by decide)] at r2
              refine xe_iload dX11_rests_89 rfl ?_
              refine xe_istore dX11_rests_91 (by decide) ?_
              refine xn_inc dX11_rests_93 rfl (by decide) ?_
              refine xn_inc dX11_rests_96 rfl (by decide) ?_
              refine xe_goto 46 dX11_rests_99 (by decide) ?_
              exact ih (p + 1) (c + 1) o u (by omega) (by omega) ⟨fun q => by omega, fun q => absurd q ho⟩ r1 r2 (ft.tr fu)
            · have ho := hco.mp c6
              subst ho
              have eo : (if (none : Option Nat).isNone = true then some (10 * (p / 2) + p % 2) else none) = some (10 * (p / 2) + p % 2) := if_pos rfl
              rw [eo] at r2
              refine xe_bipush (v := nI 10) dX11_rests_74 (by decide) ?_
              refine xe_iload dX11_rests_76 rfl ?_
              refine xe_iconst (v := nI 2) dX11_rests_78 (by decide) ?_
              refine xn_idiv dX11_rests_79 (by omega) (by decide) (by decide) ?_
              first | refine xn_imul dX11_rests_80 ?_ | refine xe_imul dX11_rests_80 ?_
              refine xe_iload dX11_rests_81 rfl ?_
              refine xe_iconst (v := nI 2) dX11_rests_83 (by decide) ?_
              refine xn_irem dX11_rests_84 (by omega) (by decide) (by decide) ?_
              first | refine xn_iadd dX11_rests_85 ?_ | refine xe_iadd dX11_rests_85 ?_
              refine xe_goto 91 dX11_rests_86 (by decide) ?_
              refine xe_istore dX11_rests_91 (by decide) ?_
              refine xn_inc dX11_rests_93 rfl (by decide) ?_
              refine xn_inc dX11_rests_96 rfl (by decide) ?_
              refine xe_goto 46 dX11_rests_99 (by decide) ?_
              exact ih (p + 1) (c + 1) (some (10 * (p / 2) + p % 2)) u (by omega) (by omega) ⟨fun q => by omega, fun q => by cases q⟩ r1 r2 (ft.tr fu)
      refine xe_iconst (v := nI 0) dX11_rests_36 (by decide) ?_
      refine xe_istore dX11_rests_37 (by decide) ?_
      refine xe_bipush (v := -9) dX11_rests_39 (by decide) ?_
      refine xe_istore dX11_rests_41 (by decide) ?_
      refine xe_iconst (v := nI 0) dX11_rests_43 (by decide) ?_
      refine xe_istore dX11_rests_44 (by decide) ?_
      exact key 4 0 0 none σ (by omega) (by omega) ⟨fun _ => rfl, fun _ => rfl⟩ rfl rfl (FL.rf σ 1)
    · rw [sel_out (by decide) (yout c4)]
      exact bad _
  · rw [thQ_f c2]
    refine xe_iconst (v := -1) dX11_rests_16 (by decide) ?_
    exact xe_iret dX11_rests_17 rfl (pM_0 h)
theorem M_snaps (h : IM σ A) {y x : Int32} {u : Bool} : Cl xs L mX11_snaps [.ref 110, .int y, .int x, .int (bI u)] GS σ GS (pM σ (aSnaps A y x u, A)) := by
  show Ev xs L mX11_snaps 0 [.ref 110, .int y, .int x, .int (bI u), .null, .null, .null, .null, .null] [] GS σ GS _
  obtain ⟨hT, hK, hl, hr⟩ := h.2.1
  have h4 := hl.2.1.1
  have hz : ∀ s ∈ A.2.1.2.2.2, SO s := fun s hs => (hl.2.1.2.2.1 s hs).2
  have h48 := hl.2.1.len
  unfold aSnaps
  have bad : ∀ lv : List Value, Ev xs L mX11_snaps 24 lv [] GS σ GS (pM σ (-2, A)) := by
    intro lv
    refine xe_bipush (v := -2) dX11_snaps_24 (by decide) ?_
    exact xe_iret dX11_snaps_26 rfl (pM_0 h)
  refine xe_iload_n dX11_snaps_0 rfl ?_
  refine xe_i2l dX11_snaps_1 ?_
  refine xe_lconst (v := lN 0) dX11_snaps_2 (by decide) ?_
  refine xe_ldc2n (n := 99) dX11_snaps_3 gw1164 (by decide) ?_
  refine e_callSp (M_inO (a := 0) (b := 99) (by decide) (by decide)) dX11_snaps_6 ksX11_49 rfl ?_
  refine xz_if_eq 24 dX11_snaps_9 (by decide) (fun c1 => ?_) (fun c1 => ?_)
  · rw [yout c1]
    exact bad _
  have c1 := nout c1
  refine xe_iload_n dX11_snaps_12 rfl ?_
  refine xe_i2l dX11_snaps_13 ?_
  refine xe_lconst (v := lN 0) dX11_snaps_14 (by decide) ?_
  refine xe_ldc2n (n := 10) dX11_snaps_15 gw1165 (by decide) ?_
  refine e_callSp (M_inO (a := 0) (b := 10) (by decide) (by decide)) dX11_snaps_18 ksX11_49 rfl ?_
  refine xz_if_ne 27 dX11_snaps_21 (by decide) (fun c2 => ?_) (fun c2 => ?_)
  · have c2 := nout c2
    rw [c1, c2, if_neg (by decide)]
    obtain ⟨v, -, hv, rfl⟩ := outQ_of (by decide) (by decide) c1
    obtain ⟨x, -, hx, rfl⟩ := outQ_of (by decide) (by decide) c2
    rw [nI_clamp (by omega), nI_clamp (by omega)]
    have p16 : 2 ^ A.2.1.1 ≤ 16 := Nat.pow_le_pow_right (n := 2) (by decide) h4
    have b1 := wsn_lt (z := A.2.1.2.2.2) (v := v) h4 hx
    have b2 : 10 ^ A.2.1.1 ≤ 10 ^ 4 := Nat.pow_le_pow_right (by decide) h4
    have b3 : 0 < 10 ^ A.2.1.1 := Nat.pow_pos (by decide)
    have key := goN (2 ^ A.2.1.1) (fun (q : Nat × Nat) s => (wsI A.2.1.2.2.2 A.2.1.1 v x q.1 s, q.2 + wof A.2.1.1 x s)) (fun s q => ∀ w1 w2 : Value, Ev xs L mX11_snaps 36 [.ref 110, .int (nI v), .int (nI x), .int (bI u), .int (nI q.1), .int (nI q.2), .int (nI s), w1, w2] [] GS σ GS (pM σ (nI (tld u (wsn A.2.1.2.2.2 A.2.1.1 v x) (10 ^ A.2.1.1)), A))) (wsn A.2.1.2.2.2 A.2.1.1 v x, 10 ^ A.2.1.1) (by
        intro w1 w2
        have hg : 0 < Nat.gcd (wsn A.2.1.2.2.2 A.2.1.1 v x) (10 ^ A.2.1.1) := Nat.gcd_pos_of_pos_right _ b3
        have hg2 : Nat.gcd (wsn A.2.1.2.2.2 A.2.1.1 v x) (10 ^ A.2.1.1) ≤ 10 ^ A.2.1.1 := Nat.gcd_le_right _ b3
        refine xe_iload dX11_snaps_36 rfl ?_
        refine xe_iconst (v := nI 1) dX11_snaps_38 (by decide) ?_
        refine xe_aload_n dX11_snaps_39 rfl ?_
        refine e_getI (G := GS) (r := 110) dX11_snaps_40 fdX11_115 rfl gk_110 hT ?_
        refine xe_ishl dX11_snaps_43 ?_
        rw [bit_shl (by omega)]
        refine xe_icmp_ge 126 dX11_snaps_44 (by decide) (fun _ => ?_) (fun c => absurd (nI_le (Nat.le_refl _) (by omega)) c)
        refine xe_iload dX11_snaps_126 rfl ?_
        refine xe_iload dX11_snaps_128 rfl ?_
        refine e_callSp (M_common (show wsn A.2.1.2.2.2 A.2.1.1 v x < 2 ^ 31 by omega) (show 10 ^ A.2.1.1 < 2 ^ 31 by omega)) dX11_snaps_130 ksX11_249 rfl ?_
        refine xe_istore dX11_snaps_133 (by decide) ?_
        refine xe_iload_n dX11_snaps_135 rfl ?_
        unfold tld
        refine xz_if_eq 147 dX11_snaps_136 (by decide) (fun cu => ?_) (fun cu => ?_)
        · rw [cu, if_neg (by decide)]
          refine xe_iload dX11_snaps_147 rfl ?_
          refine xe_iload dX11_snaps_149 rfl ?_
          refine xn_idiv dX11_snaps_151 (by omega) hg (by omega) ?_
          exact xe_iret dX11_snaps_152 rfl (pM_0 h)
        · rw [cu, if_pos rfl]
          refine xe_iload dX11_snaps_139 rfl ?_
          refine xe_iload dX11_snaps_141 rfl ?_
          refine xn_idiv dX11_snaps_143 (by omega) hg (by omega) ?_
          refine xe_goto 152 dX11_snaps_144 (by decide) ?_
          exact xe_iret dX11_snaps_152 rfl (pM_0 h)) (by
        intro s q hs kk w1 w2
        have inner := goN A.2.1.1 (wofI x s) (fun i c => Ev xs L mX11_snaps 53 [.ref 110, .int (nI v), .int (nI x), .int (bI u), .int (nI q.1), .int (nI q.2), .int (nI s), .int (nI c), .int (nI i)] [] GS σ GS (pM σ (nI (tld u (wsn A.2.1.2.2.2 A.2.1.1 v x) (10 ^ A.2.1.1)), A))) (wof A.2.1.1 x s) (by
            refine xe_iload dX11_snaps_53 rfl ?_
            refine xe_aload_n dX11_snaps_55 rfl ?_
            refine e_getI (G := GS) (r := 110) dX11_snaps_56 fdX11_115 rfl gk_110 hT ?_
            refine xe_icmp_ge 91 dX11_snaps_59 (by decide) (fun _ => ?_) (fun c => absurd (nI_le (Nat.le_refl _) (by omega)) c)
            have hcl := cam_lt h48 s
            have ec := cam_csz hz s
            unfold wsI at kk
            refine xe_iload dX11_snaps_91 rfl ?_
            refine xe_iload dX11_snaps_93 rfl ?_
            first | refine xn_iadd dX11_snaps_95 ?_ | refine xe_iadd dX11_snaps_95 ?_
            refine xe_istore dX11_snaps_96 (by decide) ?_
            refine xe_iload dX11_snaps_98 rfl ?_
            refine xe_aload_n dX11_snaps_100 rfl ?_
            refine xe_iconst (v := nI 0) dX11_snaps_101 (by decide) ?_
            refine xe_iload dX11_snaps_102 rfl ?_
            refine e_callVp (G := GS) (r := 110) (M_crossesOf hl (show s < 2 ^ 31 by omega)) dX11_snaps_104 kvX11_204 gk_110 rfl ?_
            refine xe_iload_n dX11_snaps_107 rfl ?_
            refine xn_icmp_lt 116 dX11_snaps_108 (by decide) (by omega) (by omega) (fun c5 => ?_) (fun c5 => ?_)
            · rw [if_neg (by omega)] at kk
              refine xe_iconst (v := nI 0) dX11_snaps_116 (by decide) ?_
              first | refine xn_iadd dX11_snaps_117 ?_ | refine xe_iadd dX11_snaps_117 ?_
              refine xe_istore dX11_snaps_118 (by decide) ?_
              refine xn_inc dX11_snaps_120 rfl (by decide) ?_
              refine xe_goto 36 dX11_snaps_123 (by decide) ?_
              exact kk _ _
            · rw [if_pos (by omega)] at kk
              refine xe_iload dX11_snaps_111 rfl ?_
              refine xe_goto 117 dX11_snaps_113 (by decide) ?_
              first | refine xn_iadd dX11_snaps_117 ?_ | refine xe_iadd dX11_snaps_117 ?_
              refine xe_istore dX11_snaps_118 (by decide) ?_
              refine xn_inc dX11_snaps_120 rfl (by decide) ?_
              refine xe_goto 36 dX11_snaps_123 (by decide) ?_
              exact kk _ _) (by
            intro i c hi k
            unfold wofI at k
            refine xe_iload dX11_snaps_53 rfl ?_
            refine xe_aload_n dX11_snaps_55 rfl ?_
            refine e_getI (G := GS) (r := 110) dX11_snaps_56 fdX11_115 rfl gk_110 hT ?_
            refine xe_icmp_ge 91 dX11_snaps_59 (by decide) (fun c => absurd c (nI_ge hi (by omega))) (fun _ => ?_)
            refine xe_iload dX11_snaps_62 rfl ?_
            refine xe_iload dX11_snaps_64 rfl ?_
            refine xe_iload dX11_snaps_66 rfl ?_
            refine e_callSp (M_has (show s < 2 ^ 31 by omega) (show i < 32 by omega)) dX11_snaps_68 ksX11_201 rfl ?_
            refine xz_if_eq 81 dX11_snaps_71 (by decide) (fun c5 => ?_) (fun c5 => ?_)
            · rw [c5, if_neg (by decide)] at k
              refine xe_iload_n dX11_snaps_81 rfl ?_
              first | refine xn_imul dX11_snaps_82 ?_ | refine xe_imul dX11_snaps_82 ?_
              refine xe_istore dX11_snaps_83 (by decide) ?_
              refine xn_inc dX11_snaps_85 rfl (by decide) ?_
              refine xe_goto 53 dX11_snaps_88 (by decide) ?_
              exact k
            · rw [c5, if_pos rfl] at k
              refine xe_bipush (v := nI 10) dX11_snaps_74 (by decide) ?_
              refine xe_iload_n dX11_snaps_76 rfl ?_
              refine xn_isub dX11_snaps_77 (by omega) ?_
              refine xe_goto 82 dX11_snaps_78 (by decide) ?_
              first | refine xn_imul dX11_snaps_82 ?_ | refine xe_imul dX11_snaps_82 ?_
              refine xe_istore dX11_snaps_83 (by decide) ?_
              refine xn_inc dX11_snaps_85 rfl (by decide) ?_
              refine xe_goto 53 dX11_snaps_88 (by decide) ?_
              exact k) A.2.1.1 0 1 (by omega) rfl
        refine xe_iload dX11_snaps_36 rfl ?_
        refine xe_iconst (v := nI 1) dX11_snaps_38 (by decide) ?_
        refine xe_aload_n dX11_snaps_39 rfl ?_
        refine e_getI (G := GS) (r := 110) dX11_snaps_40 fdX11_115 rfl gk_110 hT ?_
        refine xe_ishl dX11_snaps_43 ?_
        rw [bit_shl (by omega)]
        refine xe_icmp_ge 126 dX11_snaps_44 (by decide) (fun c => absurd c (nI_ge hs (by omega))) (fun _ => ?_)
        refine xe_iconst (v := nI 1) dX11_snaps_47 (by decide) ?_
        refine xe_istore dX11_snaps_48 (by decide) ?_
        refine xe_iconst (v := nI 0) dX11_snaps_50 (by decide) ?_
        refine xe_istore dX11_snaps_51 (by decide) ?_
        exact inner) (2 ^ A.2.1.1) 0 (0, 0) (by omega) (by rw [foldN_pr (f := wsI A.2.1.2.2.2 A.2.1.1 v x) (g := fun c s => c + wof A.2.1.1 x s)]; exact congrArg (Prod.mk _) (alw_eq A.2.1.1 h4 x hx))
    refine xe_iconst (v := nI 0) dX11_snaps_27 (by decide) ?_
    refine xe_istore dX11_snaps_28 (by decide) ?_
    refine xe_iconst (v := nI 0) dX11_snaps_30 (by decide) ?_
    refine xe_istore dX11_snaps_31 (by decide) ?_
    refine xe_iconst (v := nI 0) dX11_snaps_33 (by decide) ?_
    refine xe_istore dX11_snaps_34 (by decide) ?_
    exact key .null .null
  · rw [c1, yout c2]
    exact bad _
theorem M_seed (h : IM σ A) {x : Int64} : Cl xs L mX11_seed [.ref 110, .long x] GS σ GS (fun v t => v = some (.long A.2.2.2.2.2) ∧ IM t (aSeed A x) ∧ FMo σ t) := by
  show Ev xs L mX11_seed 0 [.ref 110, .long x, .null, .null, .null] [] GS σ GS _
  obtain ⟨a1, a2, a3, a4, a5, a6⟩ := id h
  refine xe_aload_n dX11_seed_0 rfl ?_
  refine xe_getJ (G := GS) (r := 110) dX11_seed_1 fdX11_266 rfl gk_110 ?_
  refine xe_lstore_n dX11_seed_4 (by decide) ?_
  refine xe_aload_n dX11_seed_5 rfl ?_
  refine xe_lload_n dX11_seed_6 rfl ?_
  refine xe_putJ (G := GS) (r := 110) dX11_seed_7 fdX11_266 rfl gk_110 ?_
  refine xe_lload_n dX11_seed_10 rfl ?_
  refine xe_lret dX11_seed_11 rfl ⟨by rw [a6], ⟨a1.to rfl rfl, a2.to rfl rfl (fun _ _ => rfl) a2.2.2.2, a3.to rfl rfl rfl rfl rfl, a4.to rfl rfl rfl rfl, a5.to rfl rfl rfl rfl, ?_⟩, fun _ _ => rfl, fun c c1 => xpl_ne _ _ _ c1⟩
  rw [xpl_at]
  exact pk_uLs
theorem M_count (h : IM σ A) {w : Int32} : Cl xs L mX11_count [.ref 110, .int w] GS σ GS (pM σ (aCount A w, A)) := by
  show Ev xs L mX11_count 0 [.ref 110, .int w] [] GS σ GS _
  obtain ⟨⟨m1, m2, m3, m4⟩, ⟨hT, hK, hl, hr⟩, ⟨n, g0, g1, g2, g3, g4⟩, a4, ⟨s1, s2, s3⟩, a6⟩ := id h
  have hz : ∀ s ∈ A.2.1.2.2.2, SO s := fun s hs => (hl.2.1.2.2.1 s hs).2
  unfold aCount
  refine xe_iload_n dX11_count_0 rfl ?_
  cases hs : sel w 7 with
  | none =>
    refine xe_tableOut 115 dX11_count_1 (sel_none hs) (by decide) ?_
    refine xe_bipush (v := -2) dX11_count_115 (by decide) ?_
    exact xe_iret dX11_count_117 rfl (pM_0 h)
  | some k =>
    obtain ⟨hk, rfl⟩ := sel_some (by decide) hs
    match k, hk with
    | 0, _ =>
      refine xe_tableIn 48 dX11_count_1 (by decide) (by decide) rfl (by decide) ?_
      refine xe_aload_n dX11_count_48 rfl ?_
      refine e_getI (G := GS) (r := 110) dX11_count_49 fdX11_74 rfl gk_110 m1 ?_
      exact xe_iret dX11_count_52 rfl (pM_0 h)
    | 1, _ =>
      refine xe_tableIn 53 dX11_count_1 (by decide) (by decide) rfl (by decide) ?_
      refine xe_aload_n dX11_count_53 rfl ?_
      refine e_getI (G := GS) (r := 110) dX11_count_54 fdX11_115 rfl gk_110 hT ?_
      exact xe_iret dX11_count_57 rfl (pM_0 h)
    | 2, _ =>
      refine xe_tableIn 58 dX11_count_1 (by decide) (by decide) rfl (by decide) ?_
      refine xe_aload_n dX11_count_58 rfl ?_
      refine xe_iconst (v := nI 0) dX11_count_59 (by decide) ?_
      refine e_callVp (G := GS) (r := 110) (M_many hl) dX11_count_60 kvX11_121 gk_110 rfl ?_
      exact xe_iret dX11_count_63 rfl (pM_0 h)
    | 3, _ =>
      refine xe_tableIn 64 dX11_count_1 (by decide) (by decide) rfl (by decide) ?_
      refine xe_aload_n dX11_count_64 rfl ?_
      refine xe_iconst (v := nI 0) dX11_count_65 (by decide) ?_
      refine xe_bipush (v := nI 15) dX11_count_66 (by decide) ?_
      refine e_callVp (G := GS) (r := 110) (M_crossesOf hl (show 15 < 2 ^ 31 by decide)) dX11_count_68 kvX11_204 gk_110 rfl ?_
      exact xe_iret dX11_count_71 rfl (pM_e h (by rw [csz_all _ hz]; rfl))
    | 4, _ =>
      refine xe_tableIn 72 dX11_count_1 (by decide) (by decide) rfl (by decide) ?_
      refine xe_aload_n dX11_count_72 rfl ?_
      refine e_callVp (G := GS) (r := 110) (M_usedNails hl) dX11_count_73 kvX11_278 gk_110 rfl ?_
      exact xe_iret dX11_count_76 rfl (pM_0 h)
    | 5, _ =>
      refine xe_tableIn 77 dX11_count_1 (by decide) (by decide) rfl (by decide) ?_
      refine xe_aload_n dX11_count_77 rfl ?_
      refine xe_iconst (v := nI 0) dX11_count_78 (by decide) ?_
      refine xe_iconst (v := nI 0) dX11_count_79 (by decide) ?_
      refine e_callVp (G := GS) (r := 110) (M_longOf hl (show 0 < 2 ^ 31 by decide)) dX11_count_80 kvX11_147 gk_110 rfl ?_
      refine xe_aload_n dX11_count_83 rfl ?_
      refine xe_iconst (v := nI 0) dX11_count_84 (by decide) ?_
      refine xe_iconst (v := nI 1) dX11_count_85 (by decide) ?_
      refine e_callVp (G := GS) (r := 110) (M_longOf hl (show 1 < 2 ^ 31 by decide)) dX11_count_86 kvX11_147 gk_110 rfl ?_
      first | refine xn_iadd dX11_count_89 ?_ | refine xe_iadd dX11_count_89 ?_
      refine xe_aload_n dX11_count_90 rfl ?_
      refine xe_iconst (v := nI 0) dX11_count_91 (by decide) ?_
      refine xe_iconst (v := nI 2) dX11_count_92 (by decide) ?_
      refine e_callVp (G := GS) (r := 110) (M_longOf hl (show 2 < 2 ^ 31 by decide)) dX11_count_93 kvX11_147 gk_110 rfl ?_
      first | refine xn_iadd dX11_count_96 ?_ | refine xe_iadd dX11_count_96 ?_
      refine xe_aload_n dX11_count_97 rfl ?_
      refine xe_iconst (v := nI 0) dX11_count_98 (by decide) ?_
      refine xe_iconst (v := nI 3) dX11_count_99 (by decide) ?_
      refine e_callVp (G := GS) (r := 110) (M_longOf hl (show 3 < 2 ^ 31 by decide)) dX11_count_100 kvX11_147 gk_110 rfl ?_
      first | refine xn_iadd dX11_count_103 ?_ | refine xe_iadd dX11_count_103 ?_
      exact xe_iret dX11_count_104 rfl (pM_e h (by rw [len4 _ (fun s hs => (hz s hs).1)]; rfl))
    | 6, _ =>
      refine xe_tableIn 105 dX11_count_1 (by decide) (by decide) rfl (by decide) ?_
      refine xe_aload_n dX11_count_105 rfl ?_
      refine e_getI (G := GS) (r := 110) dX11_count_106 fdX11_118 rfl gk_110 g2 ?_
      exact xe_iret dX11_count_109 rfl (pM_0 h)
    | 7, _ =>
      refine xe_tableIn 110 dX11_count_1 (by decide) (by decide) rfl (by decide) ?_
      refine xe_aload_n dX11_count_110 rfl ?_
      refine e_getI (G := GS) (r := 110) dX11_count_111 fdX11_240 rfl gk_110 s1 ?_
      exact xe_iret dX11_count_114 rfl (pM_0 h)
    | k + 8, hk => omega
end M3
