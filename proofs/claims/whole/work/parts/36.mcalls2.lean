/-! the model's calls, on -/
theorem m9_le {m : Nat} (hm : m < 2 ^ 31) : (-9 : Int32) ≤ nI m := by
  rw [Int32.le_iff_toInt_le, nI_toInt hm, show (-9 : Int32).toInt = -9 by decide]
  omega
theorem m9_nle {m : Nat} (hm : m < 2 ^ 31) : ¬ nI m ≤ -9 := by
  rw [Int32.le_iff_toInt_le, nI_toInt hm, show (-9 : Int32).toInt = -9 by decide]
  omega
def nxR (o : Option (Nat × Nat)) (k : Nat) : Int32 := if k = 0 then o9 (o.map Prod.fst) else o9 (o.map Prod.snd)
theorem aNext_R {A : yA} {j k : Nat} (hT : A.2.1.1 < 2 ^ 31) (hj : j < A.2.1.1) (hk : k ≤ 1) : aNext A (nI j) (nI k) = nxR (bst A.2.1 j) k := by
  unfold aNext nxR
  rw [thQ_n hT hj, sel_n hk (by decide)]
  dsimp only
  cases bst A.2.1 j with
  | none =>
    show (-9 : Int32) = _
    by_cases c : k = 0
    · rw [if_pos c]
      rfl
    · rw [if_neg c]
      rfl
  | some bm => rfl
theorem tng_T (P : xP) (d : Nat) : ((tng P d).getD P).1 = P.1 ∧ ((tng P d).getD P).2.1 = P.2.1 := by
  have hW : ∀ j n, ((doW P j n).getD P).1 = P.1 ∧ ((doW P j n).getD P).2.1 = P.2.1 := by
    intro j n
    unfold doW
    split <;> exact ⟨rfl, rfl⟩
  have hU : ∀ j, ((doU P j).getD P).1 = P.1 ∧ ((doU P j).getD P).2.1 = P.2.1 := by
    intro j
    unfold doU
    split
    · split
      · exact ⟨rfl, rfl⟩
      · split <;> exact ⟨rfl, rfl⟩
    · exact ⟨rfl, rfl⟩
  have hC : ∀ j, ((doC P j).getD P).1 = P.1 ∧ ((doC P j).getD P).2.1 = P.2.1 := by
    intro j
    unfold doC
    split <;> exact ⟨rfl, rfl⟩
  unfold tng tngQ
  split
  · exact hW _ _
  · split
    · exact hU _
    · exact ⟨rfl, rfl⟩
  · split
    · exact hC _
    · exact ⟨rfl, rfl⟩
  · split <;> exact ⟨rfl, rfl⟩
  · split <;> exact ⟨rfl, rfl⟩
  · split <;> exact ⟨rfl, rfl⟩
  · split <;> exact ⟨rfl, rfl⟩
  · exact ⟨rfl, rfl⟩
theorem Kd.eq {σ : xS} {v : Nat} {P Q : xP} (h : Kd σ v P) (e1 : Q.1 = P.1) (e2 : Q.2.1 = P.2.1) : Kd σ v Q := by
  obtain ⟨r, h1, h2⟩ := h
  exact ⟨r, h1, by rw [e1, e2]; exact h2⟩
theorem ten_sub : ∀ n, n < 5 → lN (10000 ^ n) - lN 1 = lN (10000 ^ n - 1) := by decide +kernel
theorem in_lg {n : Nat} (hn : n < 5) (y : Int64) : (decide (lN 0 ≤ y) && decide (y ≤ lN (10000 ^ n) - lN 1)) = !lgQ n y := by
  have p0 : 0 < 10000 ^ n := Nat.pow_pos (by decide)
  have p4 : 10000 ^ n ≤ 10000 ^ 4 := Nat.pow_le_pow_right (by decide) (by omega)
  have p5 : 10000 ^ n < 2 ^ 63 := by omega
  rw [ten_sub n hn]
  unfold lgQ
  have e1 : lN 0 ≤ y ↔ ¬ y < 0 := by
    rw [Int64.le_iff_toInt_le, Int64.lt_iff_toInt_lt, pf_lI (by decide), show (0 : Int64).toInt = 0 by decide]
    omega
  have e2 : y ≤ lN (10000 ^ n - 1) ↔ ¬ lN (10000 ^ n) ≤ y := by
    rw [Int64.le_iff_toInt_le, Int64.le_iff_toInt_le, pf_lI (by omega), pf_lI p5]
    omega
  by_cases c1 : y < 0
  · rw [decide_eq_true c1, decide_eq_false (fun q => e1.mp q c1)]
    rfl
  · rw [decide_eq_false c1, decide_eq_true (e1.mpr c1)]
    by_cases c2 : lN (10000 ^ n) ≤ y
    · rw [decide_eq_true c2, decide_eq_false (fun q => e2.mp q c2)]
      rfl
    · rw [decide_eq_false c2, decide_eq_true (e2.mpr c2)]
      rfl
section M2
variable {xs : Nat → Int32} {L : Nat} {σ : xS} {A : yA}
theorem M_next (h : IM σ A) {x w : Int32} : Cl xs L mX11_next [.ref 110, .int x, .int w] GS σ GS (pM σ (aNext A x w, A)) := by
  show Ev xs L mX11_next 0 [.ref 110, .int x, .int w, .null, .null, .null, .null] [] GS σ GS _
  obtain ⟨hT, hK, hl, hr⟩ := h.2.1
  have hkd := h.2.1.kd 0
  have h4 := hl.2.1.1
  have h48 := hl.2.1.len
  refine xe_aload_n dX11_next_0 rfl ?_
  refine xe_iload_n dX11_next_1 rfl ?_
  refine e_callVp (G := GS) (r := 110) (M_isThread (by omega) hT) dX11_next_2 kvX11_159 gk_110 rfl ?_
  refine xz_if_ne 10 dX11_next_5 (by decide) (fun c => ?_) (fun c => ?_)
  · obtain ⟨j, hj, rfl⟩ := hasT_of (by omega) c
    have t5 := (hl.2.1.2.1 j hj).2.1
    refine xe_iload_n dX11_next_10 rfl ?_
    refine xe_i2l dX11_next_11 ?_
    refine xe_lconst (v := lN 0) dX11_next_12 (by decide) ?_
    refine xe_lconst (v := lN 1) dX11_next_13 (by decide) ?_
    refine e_callSp (M_inO (a := 0) (b := 1) (by decide) (by decide)) dX11_next_14 ksX11_49 rfl ?_
    refine xz_if_ne 23 dX11_next_17 (by decide) (fun c2 => ?_) (fun c2 => ?_)
    · obtain ⟨k, -, hk, rfl⟩ := outQ_of (by decide) (by decide) (nout c2)
      rw [aNext_R (by omega) hj hk]
      have key := goN 12 (bstS A.2.1 j) (fun n o => (∀ b m, o = some (b, m) → m ≤ 48) → ∀ w1 : Value, Ev xs L mX11_next 33 [.ref 110, .int (nI j), .int (nI k), .int (o9 (o.map Prod.fst)), .int (o9 (o.map Prod.snd)), .int (nI n), w1] [] GS σ GS (pM σ (nxR (bst A.2.1 j) k, A))) (bst A.2.1 j) (by
          intro _ w1
          unfold nxR
          refine xe_iload dX11_next_33 rfl ?_
          refine xe_bipush (v := nI 12) dX11_next_35 (by decide) ?_
          refine xe_icmp_ge 109 dX11_next_37 (by decide) (fun _ => ?_) (fun c => absurd (by decide) c)
          refine xe_iload_n dX11_next_109 rfl ?_
          refine xn_if_ne 117 dX11_next_110 (by decide) (by omega) (fun c3 => ?_) (fun c3 => ?_)
          · rw [if_neg (by omega)]
            refine xe_iload dX11_next_117 rfl ?_
            exact xe_iret dX11_next_119 rfl (pM_0 h)
          · rw [if_pos c3]
            refine xe_iload_n dX11_next_113 rfl ?_
            refine xe_goto 119 dX11_next_114 (by decide) ?_
            exact xe_iret dX11_next_119 rfl (pM_0 h)) (by
          intro n o hn kk ho w1
          have hcl : crA (A.2.1.2.2.1 j) n A.2.1.2.2.2 ≤ A.2.1.2.2.2.length := crc_le (fun _ => true) (A.2.1.2.2.1 j) n A.2.1.2.2.2
          have stay : ∀ cv : Int32, cv ≤ o9 (o.map Prod.snd) → bstS A.2.1 j o n = o → Ev xs L mX11_next 73 [.ref 110, .int (nI j), .int (nI k), .int (o9 (o.map Prod.fst)), .int (o9 (o.map Prod.snd)), .int (nI n), .int cv] [] GS σ GS (pM σ (nxR (bst A.2.1 j) k, A)) := by
            intro cv hc e
            rw [e] at kk
            refine xe_iload dX11_next_73 rfl ?_
            refine xe_iload dX11_next_75 rfl ?_
            refine xe_icmp_le 85 dX11_next_77 (by decide) (fun _ => ?_) (fun c => absurd hc c)
            refine xe_iload_n dX11_next_85 rfl ?_
            refine xe_istore_n dX11_next_86 (by decide) ?_
            refine xe_iload dX11_next_87 rfl ?_
            refine xe_iload dX11_next_89 rfl ?_
            refine xe_icmp_le 99 dX11_next_91 (by decide) (fun _ => ?_) (fun c => absurd hc c)
            refine xe_iload dX11_next_99 rfl ?_
            refine xe_istore dX11_next_101 (by decide) ?_
            refine xn_inc dX11_next_103 rfl (by decide) ?_
            refine xe_goto 33 dX11_next_106 (by decide) ?_
            exact kk ho _
          have take : ¬ nI (crA (A.2.1.2.2.1 j) n A.2.1.2.2.2) ≤ o9 (o.map Prod.snd) → bstS A.2.1 j o n = some (n, crA (A.2.1.2.2.1 j) n A.2.1.2.2.2) → Ev xs L mX11_next 73 [.ref 110, .int (nI j), .int (nI k), .int (o9 (o.map Prod.fst)), .int (o9 (o.map Prod.snd)), .int (nI n), .int (nI (crA (A.2.1.2.2.1 j) n A.2.1.2.2.2))] [] GS σ GS (pM σ (nxR (bst A.2.1 j) k, A)) := by
            intro hc e
            rw [e] at kk
            refine xe_iload dX11_next_73 rfl ?_
            refine xe_iload dX11_next_75 rfl ?_
            refine xe_icmp_le 85 dX11_next_77 (by decide) (fun c => absurd c hc) (fun _ => ?_)
            refine xe_iload dX11_next_80 rfl ?_
            refine xe_goto 86 dX11_next_82 (by decide) ?_
            refine xe_istore_n dX11_next_86 (by decide) ?_
            refine xe_iload dX11_next_87 rfl ?_
            refine xe_iload dX11_next_89 rfl ?_
            refine xe_icmp_le 99 dX11_next_91 (by decide) (fun c => absurd c hc) (fun _ => ?_)
            refine xe_iload dX11_next_94 rfl ?_
            refine xe_goto 101 dX11_next_96 (by decide) ?_
            refine xe_istore dX11_next_101 (by decide) ?_
            refine xn_inc dX11_next_103 rfl (by decide) ?_
            refine xe_goto 33 dX11_next_106 (by decide) ?_
            exact kk (fun b m q => by cases q; omega) _
          refine xe_iload dX11_next_33 rfl ?_
          refine xe_bipush (v := nI 12) dX11_next_35 (by decide) ?_
          refine xe_icmp_ge 109 dX11_next_37 (by decide) (fun c => absurd c (nI_ge hn (by omega))) (fun _ => ?_)
          refine xe_aload_n dX11_next_40 rfl ?_
          refine xe_iconst (v := nI 0) dX11_next_41 (by decide) ?_
          refine xe_iload_n dX11_next_42 rfl ?_
          refine xe_iload dX11_next_43 rfl ?_
          refine e_callVp (G := GS) (r := 110) (M_mayWind hl hkd hj (by omega)) dX11_next_45 kvX11_105 gk_110 rfl ?_
          refine xz_if_eq 69 dX11_next_48 (by decide) (fun c3 => ?_) (fun c3 => ?_)
          · have e : bstS A.2.1 j o n = o := by unfold bstS; rw [c3]; rfl
            refine xe_bipush (v := -9) dX11_next_69 (by decide) ?_
            refine xe_istore dX11_next_71 (by decide) ?_
            refine stay (-9) ?_ e
            match o, ho with
            | none, _ => exact Int32.le_refl _
            | some (b, m), ho =>
              have := ho b m rfl
              exact m9_le (by omega)
          · refine xe_aload_n dX11_next_51 rfl ?_
            refine xe_iconst (v := nI 0) dX11_next_52 (by decide) ?_
            refine xe_bipush (v := -9) dX11_next_53 (by decide) ?_
            refine xe_aload_n dX11_next_55 rfl ?_
            refine e_getA (G := GS) (r := 110) dX11_next_56 fdX11_13 rfl gk_110 gr_110_2 ?_
            refine xe_iload_n dX11_next_59 rfl ?_
            refine e_iald (G := GS) (a := 112) dX11_next_60 gk_112 gn_112 (by omega) (by decide) (show _ = nI (A.2.1.2.2.1 j) by have := hl.2.2.1 j hj; rw [Nat.mul_zero, Nat.zero_add] at this; exact this) ?_
            refine xe_iload dX11_next_61 rfl ?_
            refine e_callVp (G := GS) (r := 110) (M_crossedBy hl (p := fun _ => true) t5 (show n < 12 by omega) (Or.inl ⟨rfl, fun _ => rfl⟩)) dX11_next_63 kvX11_143 gk_110 rfl ?_
            refine xe_goto 71 dX11_next_66 (by decide) ?_
            refine xe_istore dX11_next_71 (by decide) ?_
            match o, ho, stay, take with
            | none, ho, stay, take =>
              exact take (m9_nle (by omega)) (by unfold bstS; rw [if_pos c3])
            | some (b, m), ho, stay, take =>
              have hm := ho b m rfl
              by_cases c4 : m < crA (A.2.1.2.2.1 j) n A.2.1.2.2.2
              · exact take (show ¬ nI (crA (A.2.1.2.2.1 j) n A.2.1.2.2.2) ≤ nI m from nI_ge c4 (by omega)) (by unfold bstS; rw [if_pos c3]; dsimp only; rw [if_pos c4])
              · exact stay (nI (crA (A.2.1.2.2.1 j) n A.2.1.2.2.2)) (nI_le (Nat.le_of_not_lt c4) (by omega)) (by unfold bstS; rw [if_pos c3]; dsimp only; rw [if_neg c4])) 12 0 none rfl rfl
      refine xe_bipush (v := -9) dX11_next_23 (by decide) ?_
      refine xe_istore_n dX11_next_25 (by decide) ?_
      refine xe_bipush (v := -9) dX11_next_26 (by decide) ?_
      refine xe_istore dX11_next_28 (by decide) ?_
      refine xe_iconst (v := nI 0) dX11_next_30 (by decide) ?_
      refine xe_istore dX11_next_31 (by decide) ?_
      exact key (fun b m q => by cases q) .null
    · refine xe_bipush (v := -2) dX11_next_20 (by decide) ?_
      exact xe_iret dX11_next_22 rfl (pM_e h (by unfold aNext; rw [thQ_n (by omega) hj, sel_out (by decide) (yout c2)]))
  · refine xe_iconst (v := -1) dX11_next_8 (by decide) ?_
    exact xe_iret dX11_next_9 rfl (pM_e h (by unfold aNext; rw [thQ_f c]))
theorem M_star (h : IM σ A) {x y z w : Int32} : Cl xs L mX11_star [.ref 110, .int x, .int y, .int z, .int w] GS σ GS (pM σ (aStar A x y z w, A)) := by
  show Ev xs L mX11_star 0 [.ref 110, .int x, .int y, .int z, .int w, .null, .null, .null, .null, .null] [] GS σ GS _
  obtain ⟨hT, hK, hl, hr⟩ := h.2.1
  have hkd := h.2.1.kd 1
  have h4 := hl.2.1.1
  unfold aStar
  have bad : ∀ lv : List Value, Ev xs L mX11_star 47 lv [] GS σ GS (pM σ (-2, A)) := by
    intro lv
    refine xe_bipush (v := -2) dX11_star_47 (by decide) ?_
    exact xe_iret dX11_star_49 rfl (pM_0 h)
  refine xe_aload_n dX11_star_0 rfl ?_
  refine xe_iload_n dX11_star_1 rfl ?_
  refine e_callVp (G := GS) (r := 110) (M_isThread (by omega) hT) dX11_star_2 kvX11_159 gk_110 rfl ?_
  refine xz_if_ne 10 dX11_star_5 (by decide) (fun c => ?_) (fun c => ?_)
  · obtain ⟨j, hj, rfl⟩ := hasT_of (by omega) c
    rw [thQ_n (by omega) hj]
    dsimp only
    refine xe_iload_n dX11_star_10 rfl ?_
    refine xe_i2l dX11_star_11 ?_
    refine xe_lconst (v := lN 1) dX11_star_12 (by decide) ?_
    refine xe_ldc2n (n := 11) dX11_star_13 gw911 (by decide) ?_
    refine e_callSp (M_inO (a := 1) (b := 11) (by decide) (by decide)) dX11_star_16 ksX11_49 rfl ?_
    refine xz_if_eq 47 dX11_star_19 (by decide) (fun c1 => ?_) (fun c1 => ?_)
    · rw [yout c1]
      exact bad _
    have c1 := nout c1
    refine xe_iload_n dX11_star_22 rfl ?_
    refine xe_i2l dX11_star_23 ?_
    refine xe_lconst (v := lN 0) dX11_star_24 (by decide) ?_
    refine xe_ldc2n (n := 12) dX11_star_25 gw1100 (by decide) ?_
    refine e_callSp (M_inO (a := 0) (b := 12) (by decide) (by decide)) dX11_star_28 ksX11_49 rfl ?_
    refine xz_if_eq 47 dX11_star_31 (by decide) (fun c2 => ?_) (fun c2 => ?_)
    · rw [c1, yout c2]
      exact bad _
    have c2 := nout c2
    refine xe_iload dX11_star_34 rfl ?_
    refine xe_i2l dX11_star_36 ?_
    refine xe_lconst (v := lN 0) dX11_star_37 (by decide) ?_
    refine xe_ldc2n (n := 2) dX11_star_38 gw1101 (by decide) ?_
    refine e_callSp (M_inO (a := 0) (b := 2) (by decide) (by decide)) dX11_star_41 ksX11_49 rfl ?_
    refine xz_if_ne 50 dX11_star_44 (by decide) (fun c3 => ?_) (fun c3 => ?_)
    · have c3 := nout c3
      rw [c1, c2, c3]
      obtain ⟨k, -, hk, rfl⟩ := outQ_of (by decide) (by decide) c1
      obtain ⟨n, -, hn, rfl⟩ := outQ_of (by decide) (by decide) c2
      obtain ⟨m, -, hm, rfl⟩ := outQ_of (by decide) (by decide) c3
      rw [nI_clamp (by omega), nI_clamp (by omega), if_neg (by decide)]
      generalize hR : wst j k n A.2.1 = R
      have hjR : j < R.1.1 := by rw [← hR, wst_T]; exact hj
      have fin : ∀ (t : xS) (g i w1 : Value), Lv t 1 R.1 → FL σ t 1 → Ev xs L mX11_star 130 [.ref 110, .int (nI j), .int (nI k), .int (nI n), .int (nI m), .int (nI R.2.2), .int (nI R.2.1), g, i, w1] [] GS t GS (pM σ ((if nI m = 0 then nI R.2.2 else if nI m = 1 then nI (R.1.2.2.1 j) else nI R.2.1), A)) := by
        intro t g i w1 ht ft
        refine xe_iload dX11_star_130 rfl ?_
        match m, hm with
        | 0, _ =>
          rw [if_pos (show nI 0 = 0 by decide)]
          refine xe_if_ne 140 dX11_star_132 (by decide) (fun c => absurd c (fun q => q rfl)) (fun _ => ?_)
          refine xe_iload dX11_star_135 rfl ?_
          refine xe_goto 160 dX11_star_137 (by decide) ?_
          exact xe_iret dX11_star_160 rfl (pM_t h (FT.of ft))
        | 1, _ =>
          rw [if_neg (show ¬ nI 1 = 0 by decide), if_pos (show nI 1 = 1 by decide)]
          refine xe_if_ne 140 dX11_star_132 (by decide) (fun _ => ?_) (fun c => absurd c (by decide))
          refine xe_iload dX11_star_140 rfl ?_
          refine xe_iconst (v := nI 1) dX11_star_142 (by decide) ?_
          refine xe_icmp_ne 158 dX11_star_143 (by decide) (fun c => absurd c (fun q => q rfl)) (fun _ => ?_)
          refine xe_aload_n dX11_star_146 rfl ?_
          refine e_getA (G := GS) (r := 110) dX11_star_147 fdX11_13 rfl gk_110 gr_110_2 ?_
          refine xe_bipush (v := nI 53) dX11_star_150 (by decide) ?_
          refine xe_iload_n dX11_star_152 rfl ?_
          first | refine xn_iadd dX11_star_153 ?_ | refine xe_iadd dX11_star_153 ?_
          refine e_iald (G := GS) (a := 112) dX11_star_154 gk_112 gn_112 (by omega) (by decide) (ht.2.2.1 j hjR) ?_
          refine xe_goto 160 dX11_star_155 (by decide) ?_
          exact xe_iret dX11_star_160 rfl (pM_t h (FT.of ft))
        | 2, _ =>
          rw [if_neg (show ¬ nI 2 = 0 by decide), if_neg (show ¬ nI 2 = 1 by decide)]
          refine xe_if_ne 140 dX11_star_132 (by decide) (fun _ => ?_) (fun c => absurd c (by decide))
          refine xe_iload dX11_star_140 rfl ?_
          refine xe_iconst (v := nI 1) dX11_star_142 (by decide) ?_
          refine xe_icmp_ne 158 dX11_star_143 (by decide) (fun _ => ?_) (fun c => absurd c (by decide))
          refine xe_iload dX11_star_158 rfl ?_
          exact xe_iret dX11_star_160 rfl (pM_t h (FT.of ft))
        | m + 3, hm => omega
      have key : ∀ d i (Q : xP) (tm cr : Nat) (t : xS) (w1 : Value), i + d = n → Lv t 1 Q → Kd t 1 Q → FL σ t 1 → j < Q.1 → tm + (wst j k d Q).2.2 = R.2.2 → cr + (wst j k d Q).2.1 = R.2.1 → (wst j k d Q).1 = R.1 → Ev xs L mX11_star 66 [.ref 110, .int (nI j), .int (nI k), .int (nI n), .int (nI m), .int (nI tm), .int (nI cr), .int (nI 1), .int (nI i), w1] [] GS t GS (pM σ ((if nI m = 0 then nI R.2.2 else if nI m = 1 then nI (R.1.2.2.1 j) else nI R.2.1), A)) := by
        intro d
        induction d with
        | zero =>
          intro i Q tm cr t w1 hi ht hk2 ft hjQ r1 r2 r3
          have r1 : tm = R.2.2 := r1
          have r2 : cr = R.2.1 := r2
          have r3 : Q = R.1 := r3
          refine xe_iload dX11_star_66 rfl ?_
          refine xe_iload_n dX11_star_68 rfl ?_
          refine xe_icmp_ge 130 dX11_star_69 (by decide) (fun _ => ?_) (fun c => absurd (nI_le (by omega) (by omega)) c)
          rw [r1, r2]
          rw [r3] at ht
          exact fin t _ _ _ ht ft
        | succ d ih =>
          intro i Q tm cr t w1 hi ht hk2 ft hjQ r1 r2 r3
          have t5 := (ht.2.1.2.1 j hjQ).2.1
          have h4Q := ht.2.1.1
          refine xe_iload dX11_star_66 rfl ?_
          refine xe_iload_n dX11_star_68 rfl ?_
          refine xe_icmp_ge 130 dX11_star_69 (by decide) (fun c => absurd c (nI_ge (by omega) (by omega))) (fun _ => ?_)
          refine xe_iload dX11_star_72 rfl ?_
          refine xe_if_eq 130 dX11_star_74 (by decide) (fun c => absurd c (by decide)) (fun _ => ?_)
          refine xe_aload_n dX11_star_77 rfl ?_
          refine e_getA (G := GS) (r := 110) dX11_star_78 fdX11_13 rfl gk_110 gr_110_2 ?_
          refine xe_bipush (v := nI 53) dX11_star_81 (by decide) ?_
          refine xe_iload_n dX11_star_83 rfl ?_
          first | refine xn_iadd dX11_star_84 ?_ | refine xe_iadd dX11_star_84 ?_
          refine e_iald (G := GS) (a := 112) dX11_star_85 gk_112 gn_112 (by omega) (by decide) (ht.2.2.1 j hjQ) ?_
          refine xe_iload_n dX11_star_86 rfl ?_
          first | refine xn_iadd dX11_star_87 ?_ | refine xe_iadd dX11_star_87 ?_
          refine xe_bipush (v := nI 12) dX11_star_88 (by decide) ?_
          refine xn_irem dX11_star_90 (by omega) (by decide) (by decide) ?_
          refine xe_istore dX11_star_91 (by decide) ?_
          refine xe_aload_n dX11_star_93 rfl ?_
          refine xe_iconst (v := nI 1) dX11_star_94 (by decide) ?_
          refine xe_iload_n dX11_star_95 rfl ?_
          refine xe_iload dX11_star_96 rfl ?_
          refine e_callVp (G := GS) (r := 110) (M_mayWind ht hk2 hjQ (by omega)) dX11_star_98 kvX11_105 gk_110 rfl ?_
          refine xe_istore dX11_star_101 (by decide) ?_
          refine xe_iload dX11_star_103 rfl ?_
          refine xz_if_eq 124 dX11_star_105 (by decide) (fun c4 => ?_) (fun c4 => ?_)
          · have e : wst j k (d + 1) Q = (Q, 0, 0) := if_neg (by rw [c4]; decide)
            rw [e] at r1 r2 r3
            have r1 : tm = R.2.2 := r1
            have r2 : cr = R.2.1 := r2
            have r3 : Q = R.1 := r3
            rw [r3] at ht
            rw [c4, r1, r2]
            refine xn_inc dX11_star_124 rfl (by decide) ?_
            refine xe_goto 66 dX11_star_127 (by decide) ?_
            refine xe_iload dX11_star_66 rfl ?_
            refine xe_iload_n dX11_star_68 rfl ?_
            refine xn_icmp_ge 130 dX11_star_69 (by decide) (by omega) (by omega) (fun c5 => ?_) (fun c5 => ?_)
            · exact fin t _ _ _ ht ft
            · refine xe_iload dX11_star_72 rfl ?_
              refine xe_if_eq 130 dX11_star_74 (by decide) (fun _ => ?_) (fun c => absurd rfl c)
              exact fin t _ _ _ ht ft
          · have e : wst j k (d + 1) Q = ((wst j k d (wnd Q j ((Q.2.2.1 j + k) % 12))).1, crA (Q.2.2.1 j) ((Q.2.2.1 j + k) % 12) Q.2.2.2 + (wst j k d (wnd Q j ((Q.2.2.1 j + k) % 12))).2.1, (wst j k d (wnd Q j ((Q.2.2.1 j + k) % 12))).2.2 + 1) := if_pos c4
            rw [e] at r1 r2 r3
            dsimp only at r1 r2 r3
            rw [c4]
            refine xe_iload dX11_star_108 rfl ?_
            refine xe_aload_n dX11_star_110 rfl ?_
            refine xe_iconst (v := nI 1) dX11_star_111 (by decide) ?_
            refine xe_iload_n dX11_star_112 rfl ?_
            refine xe_iload dX11_star_113 rfl ?_
            refine e_callV (G := GS) (r := 110) (M_windOn ht c4) dX11_star_115 kvX11_108 gk_110 rfl ?_
            rintro v u ⟨rfl, hu, fu⟩
            refine xn_iadd dX11_star_118 ?_
            refine xe_istore dX11_star_119 (by decide) ?_
            refine xn_inc dX11_star_121 rfl (by decide) ?_
            refine xn_inc dX11_star_124 rfl (by decide) ?_
            refine xe_goto 66 dX11_star_127 (by decide) ?_
            exact ih (i + 1) _ (tm + 1) _ u _ (by omega) hu (hk2.fl fu) (ft.tr fu) hjQ (by omega) (by omega) r3
      refine xe_aload_n dX11_star_50 rfl ?_
      refine e_callV (G := GS) (r := 110) (M_layTrial hl) dX11_star_51 kvX11_226 gk_110 rfl ?_
      rintro v t ⟨rfl, ht, ft⟩
      refine xe_iconst (v := nI 0) dX11_star_54 (by decide) ?_
      refine xe_istore dX11_star_55 (by decide) ?_
      refine xe_iconst (v := nI 0) dX11_star_57 (by decide) ?_
      refine xe_istore dX11_star_58 (by decide) ?_
      refine xe_iconst (v := nI 1) dX11_star_60 (by decide) ?_
      refine xe_istore dX11_star_61 (by decide) ?_
      refine xe_iconst (v := nI 0) dX11_star_63 (by decide) ?_
      refine xe_istore dX11_star_64 (by decide) ?_
      exact key n 0 A.2.1 0 0 t .null (by omega) ht (hkd.fl ft) ft hj (by rw [hR]; omega) (by rw [hR]; omega) (by rw [hR])
    · rw [c1, c2, yout c3]
      exact bad _
  · rw [thQ_f c]
    refine xe_iconst (v := -1) dX11_star_8 (by decide) ?_
    exact xe_iret dX11_star_9 rfl (pM_0 h)
theorem M_judge (h : IM σ A) {x : Int32} {y : Int64} : Cl xs L mX11_judge [.ref 110, .int x, .long y] GS σ GS (pM σ (aJudge A x y, A)) := by
  show Ev xs L mX11_judge 0 [.ref 110, .int x, .long y, .null, .null, .null] [] GS σ GS _
  obtain ⟨hT, hK, hl, hr⟩ := h.2.1
  have hkd := h.2.1.kd 1
  have h4 := hl.2.1.1
  unfold aJudge
  have bad : ∀ lv : List Value, Ev xs L mX11_judge 26 lv [] GS σ GS (pM σ (-2, A)) := by
    intro lv
    refine xe_bipush (v := -2) dX11_judge_26 (by decide) ?_
    exact xe_iret dX11_judge_28 rfl (pM_0 h)
  refine xe_iload_n dX11_judge_0 rfl ?_
  refine xe_i2l dX11_judge_1 ?_
  refine xe_lconst (v := lN 1) dX11_judge_2 (by decide) ?_
  refine xe_ldc2n (n := 4) dX11_judge_3 gw1110 (by decide) ?_
  refine e_callSp (M_inO (a := 1) (b := 4) (by decide) (by decide)) dX11_judge_6 ksX11_49 rfl ?_
  refine xz_if_eq 26 dX11_judge_9 (by decide) (fun c => ?_) (fun c => ?_)
  · rw [yout c]
    exact bad _
  have c := nout c
  rw [c, if_neg (by decide)]
  obtain ⟨n, h1n, hn, rfl⟩ := outQ_of (by decide) (by decide) c
  rw [nI_clamp (by omega)]
  refine xe_lload_n dX11_judge_12 rfl ?_
  refine xe_lconst (v := lN 0) dX11_judge_13 (by decide) ?_
  refine xe_iload_n dX11_judge_14 rfl ?_
  refine e_callSl (M_tenThousandTo (show n < 1000 by omega)) dX11_judge_15 ksX11_233 rfl ?_
  refine xe_lconst (v := lN 1) dX11_judge_18 (by decide) ?_
  refine xe_lsub dX11_judge_19 ?_
  refine e_callSp (M_in) dX11_judge_20 ksX11_49 rfl ?_
  rw [in_lg (by omega)]
  refine xz_if_ne 29 dX11_judge_23 (by decide) (fun c2 => ?_) (fun c2 => ?_)
  · have c2 : lgQ n y = false := by simpa using c2
    rw [c2, if_neg (by decide)]
    have hy : ¬ y < 0 := by
      unfold lgQ at c2
      simp at c2
      exact Int64.not_lt.mpr c2.1
    obtain ⟨r, hr2, rfl⟩ := pk_lOf hy
    rw [wb_tn (by omega)]
    have key : ∀ d i (Q : xP) (t : xS) (w1 : Value), i + d = n → Lv t 1 Q → Kd t 1 Q → t.1 110 0 = nI Q.1 → FT σ t → Ev xs L mX11_judge 36 [.ref 110, .int (nI n), .long (lN r), .null, .int (nI i), w1] [] GS t GS (pM σ (jdL r d i Q, A)) := by
      intro d
      induction d with
      | zero =>
        intro i Q t w1 hi ht hk2 hT2 ft
        refine xe_iload dX11_judge_36 rfl ?_
        refine xe_iload_n dX11_judge_38 rfl ?_
        refine xe_icmp_ge 95 dX11_judge_39 (by decide) (fun _ => ?_) (fun c => absurd (nI_le (by omega) (by omega)) c)
        refine xe_bipush (v := -9) dX11_judge_95 (by decide) ?_
        exact xe_iret dX11_judge_97 rfl (pM_t h ft)
      | succ d ih =>
        intro i Q t w1 hi ht hk2 hT2 ft
        refine xe_iload dX11_judge_36 rfl ?_
        refine xe_iload_n dX11_judge_38 rfl ?_
        refine xe_icmp_ge 95 dX11_judge_39 (by decide) (fun c => absurd c (nI_ge (by omega) (by omega))) (fun _ => ?_)
        refine xe_lload_n dX11_judge_42 rfl ?_
        refine xe_iload_n dX11_judge_43 rfl ?_
        refine xe_iconst (v := nI 1) dX11_judge_44 (by decide) ?_
        refine xn_isub dX11_judge_45 (by omega) ?_
        refine xe_iload dX11_judge_46 rfl ?_
        refine xn_isub dX11_judge_48 (by omega) ?_
        rw [show n - 1 - i = d by omega]
        refine e_callSl (M_tenThousandTo (show d < 1000 by omega)) dX11_judge_49 ksX11_233 rfl ?_
        have p0 : 0 < 10000 ^ d := Nat.pow_pos (by decide)
        have p4 : 10000 ^ d ≤ 10000 ^ 4 := Nat.pow_le_pow_right (by decide) (by omega)
        have pd : r / 10000 ^ d ≤ r := Nat.div_le_self _ _
        refine xe_ldiv dX11_judge_52 (fun e => absurd ((pk_lEQ (a := 10000 ^ d) (b := 0) (by omega) (by omega)).mp e) (by omega)) ?_
        rw [pk_lDiv hr2 p0 (by omega)]
        refine xe_ldc2n (n := 10000) dX11_judge_53 gw1114 (by decide) ?_
        refine xe_lrem dX11_judge_56 (by decide) ?_
        rw [pk_lRem (by omega) (by decide) (by decide)]
        refine xe_l2i dX11_judge_57 ?_
        rw [lN_i]
        have hd : r / 10000 ^ d % 10000 < 10000 := Nat.mod_lt _ (by decide)
        have ej : jdL r (d + 1) i Q = (match tng Q (r / 10000 ^ d % 10000) with
            | none => nI i
            | some P2 => jdL r d (i + 1) P2) := rfl
        rw [ej]
        generalize r / 10000 ^ d % 10000 = D at hd ⊢
        refine xe_istore dX11_judge_58 (by decide) ?_
        refine xe_aload_n dX11_judge_60 rfl ?_
        refine xe_iload dX11_judge_61 rfl ?_
        refine xe_sipush (v := nI 1000) dX11_judge_63 (by decide) ?_
        refine xn_idiv dX11_judge_66 (by omega) (by decide) (by decide) ?_
        refine xe_iload dX11_judge_67 rfl ?_
        refine xe_bipush (v := nI 100) dX11_judge_69 (by decide) ?_
        refine xn_idiv dX11_judge_71 (by omega) (by decide) (by decide) ?_
        refine xe_bipush (v := nI 10) dX11_judge_72 (by decide) ?_
        refine xn_irem dX11_judge_74 (by omega) (by decide) (by decide) ?_
        refine xe_iload dX11_judge_75 rfl ?_
        refine xe_bipush (v := nI 100) dX11_judge_77 (by decide) ?_
        refine xn_irem dX11_judge_79 (by omega) (by decide) (by decide) ?_
        refine e_callV (G := GS) (r := 110) (M_tryThing ht hT2 hk2 (show D / 1000 < 10 by omega) (show D / 100 % 10 < 10 by omega) (show D % 100 < 100 by omega)) dX11_judge_80 kvX11_237 gk_110 rfl ?_
        rw [show 1000 * (D / 1000) + 100 * (D / 100 % 10) + D % 100 = D by omega]
        rintro v u ⟨rfl, hu, fu⟩
        obtain ⟨q1, q2⟩ := tng_T Q D
        cases ho : tng Q D with
        | none =>
          refine xe_if_ne 89 dX11_judge_83 (by decide) (fun c => absurd c (show ¬ ¬ bI false = 0 by decide)) (fun _ => ?_)
          refine xe_iload dX11_judge_86 rfl ?_
          exact xe_iret dX11_judge_88 rfl (pM_t h (ft.tr fu))
        | some P2 =>
          rw [ho] at hu q1 q2
          refine xe_if_ne 89 dX11_judge_83 (by decide) (fun _ => ?_) (fun c => absurd c (show ¬ bI true = 0 by decide))
          refine xn_inc dX11_judge_89 rfl (by decide) ?_
          refine xe_goto 36 dX11_judge_92 (by decide) ?_
          exact ih (i + 1) P2 u _ (by omega) hu ((hk2.ft fu).eq q1 q2) (by rw [fu.1 110 (by decide) (by decide), hT2]; show nI Q.1 = nI P2.1; rw [show P2.1 = Q.1 from q1]) (ft.tr fu)
    refine xe_aload_n dX11_judge_29 rfl ?_
    refine e_callV (G := GS) (r := 110) (M_layTrial hl) dX11_judge_30 kvX11_226 gk_110 rfl ?_
    rintro v t ⟨rfl, ht, ft⟩
    refine xe_iconst (v := nI 0) dX11_judge_33 (by decide) ?_
    refine xe_istore dX11_judge_34 (by decide) ?_
    exact key n 0 A.2.1 t .null (by omega) ht (hkd.fl ft) (by rw [ft.1 110 (by decide)]; exact hT) (FT.of ft)
  · have c2 : lgQ n y = true := by simpa using c2
    rw [c2]
    exact bad _
theorem M_see (h : IM σ A) {x y w : Int32} : Cl xs L mX11_see [.ref 110, .int x, .int y, .int w] GS σ GS (pM σ (aSee A x y w)) := by
  show Ev xs L mX11_see 0 [.ref 110, .int x, .int y, .int w] [] GS σ GS _
  unfold aSee
  have bad : ∀ lv : List Value, Ev xs L mX11_see 31 lv [] GS σ GS (pM σ (-2, A)) := by
    intro lv
    refine xe_bipush (v := -2) dX11_see_31 (by decide) ?_
    exact xe_iret dX11_see_33 rfl (pM_0 h)
  refine xe_iload_n dX11_see_0 rfl ?_
  refine e_callSp (M_isNail) dX11_see_1 ksX11_133 rfl ?_
  refine xz_if_ne 9 dX11_see_4 (by decide) (fun c => ?_) (fun c => ?_)
  · have c := nout c
    rw [c, if_neg (by decide)]
    refine xe_iload_n dX11_see_9 rfl ?_
    refine xe_i2l dX11_see_10 ?_
    refine xe_lconst (v := lN 0) dX11_see_11 (by decide) ?_
    refine xe_ldc2n (n := 12) dX11_see_12 gw1100 (by decide) ?_
    refine e_callSp (M_inO (a := 0) (b := 12) (by decide) (by decide)) dX11_see_15 ksX11_49 rfl ?_
    refine xz_if_eq 31 dX11_see_18 (by decide) (fun c1 => ?_) (fun c1 => ?_)
    · rw [yout c1]
      exact bad _
    have c1 := nout c1
    refine xe_iload_n dX11_see_21 rfl ?_
    refine xe_i2l dX11_see_22 ?_
    refine xe_lconst (v := lN 0) dX11_see_23 (by decide) ?_
    refine xe_lconst (v := lN 1) dX11_see_24 (by decide) ?_
    refine e_callSp (M_inO (a := 0) (b := 1) (by decide) (by decide)) dX11_see_25 ksX11_49 rfl ?_
    refine xz_if_ne 34 dX11_see_28 (by decide) (fun c2 => ?_) (fun c2 => ?_)
    · have c2 := nout c2
      rw [c1, c2, if_neg (by decide)]
      obtain ⟨b, -, hb, rfl⟩ := outQ_of (by decide) (by decide) c
      obtain ⟨a, -, ha, rfl⟩ := outQ_of (by decide) (by decide) c1
      obtain ⟨k, -, hk, rfl⟩ := outQ_of (by decide) (by decide) c2
      rw [nI_clamp (by omega), nI_clamp (by omega), nI_clamp (by omega)]
      obtain ⟨a1, a2, a3, a4, ⟨s1, s2, s3⟩, a6⟩ := id h
      refine xe_aload_n dX11_see_34 rfl ?_
      refine e_getI (G := GS) (r := 110) dX11_see_35 fdX11_240 rfl gk_110 s1 ?_
      refine xe_bipush (v := nI 6) dX11_see_38 (by decide) ?_
      refine xn_icmp_ne 46 dX11_see_40 (by decide) (by omega) (by omega) (fun c3 => ?_) (fun c3 => ?_)
      · rw [if_pos (by omega)]
        generalize hN : A.2.2.2.2.1.length = N at s1 s2 c3
        refine xe_aload_n dX11_see_46 rfl ?_
        refine e_getA (G := GS) (r := 110) dX11_see_47 fdX11_31 rfl gk_110 gr_110_14 ?_
        refine xe_aload_n dX11_see_50 rfl ?_
        refine e_getI (G := GS) (r := 110) dX11_see_51 fdX11_240 rfl gk_110 s1 ?_
        refine xe_iload_n dX11_see_54 rfl ?_
        refine e_iast (G := GS) (a := 118) dX11_see_55 gk_118 gn_118 (by omega) (by decide) ?_
        refine xe_aload_n dX11_see_56 rfl ?_
        refine e_getA (G := GS) (r := 110) dX11_see_57 fdX11_34 rfl gk_110 gr_110_15 ?_
        refine xe_aload_n dX11_see_60 rfl ?_
        refine e_getI (G := GS) (r := 110) dX11_see_61 fdX11_240 rfl gk_110 (show _ = nI N by rw [xpi_rd, if_neg (by omega)]; exact s1) ?_
        refine xe_iload_n dX11_see_64 rfl ?_
        refine e_iast (G := GS) (a := 119) dX11_see_65 gk_119 gn_119 (by omega) (by decide) ?_
        refine xe_aload_n dX11_see_66 rfl ?_
        refine e_getA (G := GS) (r := 110) dX11_see_67 fdX11_37 rfl gk_110 gr_110_16 ?_
        refine xe_aload_n dX11_see_70 rfl ?_
        refine e_getI (G := GS) (r := 110) dX11_see_71 fdX11_240 rfl gk_110 (show _ = nI N by rw [xpi_rd, if_neg (by omega), xpi_rd, if_neg (by omega)]; exact s1) ?_
        refine xe_iload_n dX11_see_74 rfl ?_
        refine e_iast (G := GS) (a := 120) dX11_see_75 gk_120 gn_120 (by omega) (by decide) ?_
        refine xe_aload_n dX11_see_76 rfl ?_
        refine xe_dup dX11_see_77 rfl ?_
        refine e_getI (G := GS) (r := 110) dX11_see_78 fdX11_240 rfl gk_110 (show _ = nI N by rw [xpi_rd, if_neg (by omega), xpi_rd, if_neg (by omega), xpi_rd, if_neg (by omega)]; exact s1) ?_
        refine xe_iconst (v := nI 1) dX11_see_81 (by decide) ?_
        first | refine xn_iadd dX11_see_82 ?_ | refine xe_iadd dX11_see_82 ?_
        refine xe_putI (G := GS) (r := 110) dX11_see_83 fdX11_240 rfl gk_110 ?_
        refine xe_aload_n dX11_see_86 rfl ?_
        refine e_getI (G := GS) (r := 110) dX11_see_87 fdX11_240 rfl gk_110 (show _ = nI (N + 1) by rw [xpi_rd, if_pos (by omega)]) ?_
        have e : ∀ c, c ≠ 118 → c ≠ 119 → c ≠ 120 → c ≠ 110 → (xpi (xpi (xpi (xpi σ 118 N (nI a)) 119 N (nI b)) 120 N (nI k)) 110 13 (nI (N + 1))).1 c = σ.1 c := fun c c1 c2 c3 c4 => by rw [xpi_ne _ _ _ c4, xpi_ne _ _ _ c3, xpi_ne _ _ _ c2, xpi_ne _ _ _ c1]
        have e0 : ∀ q, q ≠ 13 → (xpi (xpi (xpi (xpi σ 118 N (nI a)) 119 N (nI b)) 120 N (nI k)) 110 13 (nI (N + 1))).1 110 q = σ.1 110 q := fun q hq => by rw [xpi_rd, if_neg (by omega), xpi_rd, if_neg (by omega), xpi_rd, if_neg (by omega), xpi_rd, if_neg (by omega)]
        refine xe_iret dX11_see_90 rfl ⟨rfl, ⟨a1.to (e0 6 (by decide)) (e 114 (by decide) (by decide) (by decide) (by decide)), a2.to (e0 0 (by decide)) (e 111 (by decide) (by decide) (by decide) (by decide)) (fun q _ => by rw [e 112 (by decide) (by decide) (by decide) (by decide)]) (by rw [e0 7 (by decide)]; exact a2.2.2.2), a3.to rfl rfl (e0 10 (by decide)) (e0 9 (by decide)) (e 116 (by decide) (by decide) (by decide) (by decide)), a4.to rfl rfl (e 121 (by decide) (by decide) (by decide) (by decide)) (e 122 (by decide) (by decide) (by decide) (by decide)), ⟨?_, ?_, fun i q hq => ?_⟩, a6⟩, FMo.of (fun c hc => e c (by omega) (by omega) (by omega) (by omega)) rfl⟩
        · rw [xpi_rd, if_pos (by omega)]
          show nI (N + 1) = nI (A.2.2.2.2.1 ++ [_]).length
          rw [List.length_append, hN]
          rfl
        · show (A.2.2.2.2.1 ++ [_]).length ≤ 6
          rw [List.length_append, hN]
          show N + 1 ≤ 6
          omega
        · have hq : (A.2.2.2.2.1 ++ [(a, b, k)])[i]? = some q := hq
          by_cases qi : i < A.2.2.2.2.1.length
          · rw [List.getElem?_append_left qi] at hq
            rw [xpi_rd, if_neg (by omega), xpi_rd, if_neg (by omega), xpi_rd, if_neg (by omega), xpi_rd, if_neg (by omega), xpi_rd, if_neg (by omega), xpi_rd, if_neg (by omega), xpi_rd, if_neg (by omega), xpi_rd, if_neg (by omega), xpi_rd, if_neg (by omega), xpi_rd, if_neg (by omega), xpi_rd, if_neg (by omega), xpi_rd, if_neg (by omega)]
            exact s3 i q hq
          · rw [List.getElem?_append_right (by omega)] at hq
            have hz0 : i - A.2.2.2.2.1.length < 1 := (List.getElem?_eq_some_iff.mp hq).1
            rw [show i - A.2.2.2.2.1.length = 0 by omega] at hq
            cases hq
            have : i = N := by omega
            subst this
            exact ⟨by rw [xpi_rd, if_neg (by omega), xpi_rd, if_neg (by omega), xpi_rd, if_neg (by omega), xpi_rd, if_pos (by omega)], by rw [xpi_rd, if_neg (by omega), xpi_rd, if_neg (by omega), xpi_rd, if_pos (by omega)], by rw [xpi_rd, if_neg (by omega), xpi_rd, if_pos (by omega)], ha, by show b < 12; omega, hk⟩
      · rw [if_neg (by omega)]
        refine xe_bipush (v := -4) dX11_see_43 (by decide) ?_
        exact xe_iret dX11_see_45 rfl (pM_0 h)
    · rw [c1, yout c2]
      exact bad _
  · rw [yout c, if_pos rfl]
    refine xe_iconst (v := -1) dX11_see_7 (by decide) ?_
    exact xe_iret dX11_see_8 rfl (pM_0 h)
theorem M_unsee (h : IM σ A) : Cl xs L mX11_unsee [.ref 110] GS σ GS (pM σ (aUnsee A)) := by
  show Ev xs L mX11_unsee 0 [.ref 110, .null] [] GS σ GS _
  obtain ⟨a1, a2, a3, a4, ⟨s1, s2, s3⟩, a6⟩ := id h
  refine xe_aload_n dX11_unsee_0 rfl ?_
  refine e_getI (G := GS) (r := 110) dX11_unsee_1 fdX11_240 rfl gk_110 s1 ?_
  refine xe_istore_n dX11_unsee_4 (by decide) ?_
  refine xe_aload_n dX11_unsee_5 rfl ?_
  refine xe_iconst (v := nI 0) dX11_unsee_6 (by decide) ?_
  refine xe_putI (G := GS) (r := 110) dX11_unsee_7 fdX11_240 rfl gk_110 ?_
  refine xe_iload_n dX11_unsee_10 rfl ?_
  have e : ∀ c, c ≠ 110 → (xpi σ 110 13 (nI 0)).1 c = σ.1 c := fun c c2 => by rw [xpi_ne _ _ _ c2]
  have e0 : ∀ k, k ≠ 13 → (xpi σ 110 13 (nI 0)).1 110 k = σ.1 110 k := fun k hk => by rw [xpi_rd, if_neg (by omega)]
  exact xe_iret dX11_unsee_11 rfl ⟨rfl, ⟨a1.to (e0 6 (by decide)) (e 114 (by decide)), a2.to (e0 0 (by decide)) (e 111 (by decide)) (fun k hk => by rw [e 112 (by decide)]) (by rw [e0 7 (by decide)]; exact a2.2.2.2), a3.to rfl rfl (e0 10 (by decide)) (e0 9 (by decide)) (e 116 (by decide)), a4.to rfl rfl (e 121 (by decide)) (e 122 (by decide)), ⟨by rw [xpi_rd, if_pos (by omega)]; rfl, Nat.zero_le _, fun i q hq => (by cases hq)⟩, a6⟩, FMo.of (fun c hc => e c (by omega)) rfl⟩
end M2
