/-! the model's calls: kept, gone on from; years -/
theorem tng_1 (P : xP) {a n : Nat} (ha : a < 10) (hn : n < 100) : tng P (1000 * 1 + 100 * a + n) = doW P a n := by
  generalize hd : 1000 * 1 + 100 * a + n = d
  have e1 : d / 1000 = 1 := by omega
  have e2 : d / 100 % 10 = a := by omega
  have e3 : d % 100 = n := by omega
  have et : tng P d = tngQ P d 1 := by show tngQ P d (d / 1000) = _; rw [e1]
  have et : tng P d = doW P (d / 100 % 10) (d % 100) := et
  rw [et, e2, e3]
theorem tng_2 (P : xP) {n : Nat} (hn : n < 10) : tng P (1000 * 2 + 100 * 0 + n) = doU P n := by
  generalize hd : 1000 * 2 + 100 * 0 + n = d
  have e1 : d / 1000 = 2 := by omega
  have e3 : d % 10 = n := by omega
  have et : tng P d = tngQ P d 2 := by show tngQ P d (d / 1000) = _; rw [e1]
  have et : tng P d = if d < 2010 then doU P (d % 10) else none := et
  rw [et, if_pos (by omega), e3]
theorem tng_3 (P : xP) {n : Nat} (hn : n < 10) : tng P (1000 * 3 + 100 * 0 + n) = doC P n := by
  generalize hd : 1000 * 3 + 100 * 0 + n = d
  have e1 : d / 1000 = 3 := by omega
  have e3 : d % 10 = n := by omega
  have et : tng P d = tngQ P d 3 := by show tngQ P d (d / 1000) = _; rw [e1]
  have et : tng P d = if d < 3010 then doC P (d % 10) else none := et
  rw [et, if_pos (by omega), e3]
section M4
variable {xs : Nat → Int32} {L : Nat} {σ : xS} {A : yA}
theorem M_keep (h : IM σ A) {x : Int32} : Cl xs L mX11_keep [.ref 110, .int x] GS σ GS (pM σ (aKeep A x)) := by
  show Ev xs L mX11_keep 0 [.ref 110, .int x, .null] [] GS σ GS _
  obtain ⟨a1, a2, a3, a4, a5, a6⟩ := id h
  have hp := a2.2.2.1.2.1
  unfold aKeep
  refine xe_iload_n dX11_keep_0 rfl ?_
  refine xe_i2l dX11_keep_1 ?_
  refine xe_lconst (v := lN 0) dX11_keep_2 (by decide) ?_
  refine xe_lconst (v := lN 1) dX11_keep_3 (by decide) ?_
  refine e_callSp (M_inO (a := 0) (b := 1) (by decide) (by decide)) dX11_keep_4 ksX11_49 rfl ?_
  refine xz_if_ne 12 dX11_keep_7 (by decide) (fun c => ?_) (fun c => ?_)
  · obtain ⟨k, -, hk, rfl⟩ := outQ_of (by decide) (by decide) (nout c)
    rw [sel_n hk (by decide)]
    dsimp only
    refine xe_aload_n dX11_keep_12 rfl ?_
    refine e_getA (G := GS) (r := 110) dX11_keep_13 fdX11_40 rfl gk_110 gr_110_18 ?_
    refine xe_iload_n dX11_keep_16 rfl ?_
    refine xe_iconst (v := nI 1) dX11_keep_17 (by decide) ?_
    refine xe_bast (G := GS) (a := 121) dX11_keep_18 gk_121 (by rw [gn_121]; exact vp_in_nI (by omega) (by omega)) ?_
    rw [nI_clamp (by omega)]
    have key : ∀ d i (t : xS), i + d = 53 → (∀ q, q < i → t.1 122 (53 * k + q) = σ.1 112 q) → (∀ q, (q < 53 * k ∨ 53 * k + 53 ≤ q) → t.1 122 q = σ.1 122 q) → (∀ c, c ≠ 121 → c ≠ 122 → t.1 c = σ.1 c) → (∀ q, t.1 121 q = if q = k then bI true else σ.1 121 q) → t.2 = σ.2 → Ev xs L mX11_keep 21 [.ref 110, .int (nI k), .int (nI i)] [] GS t GS (pM σ (nI A.2.1.2.2.2.length, (A.1, A.2.1, A.2.2.1, kpS A.2.2.2.1 k A.2.1, A.2.2.2.2))) := by
      intro d
      induction d with
      | zero =>
        intro i t hi e1 e2 e3 e4 e5
        have hl : Lv t 0 A.2.1 := a2.2.2.1.to (fun q _ _ => by rw [e3 112 (by decide) (by decide)])
        refine xe_iload_n dX11_keep_21 rfl ?_
        refine xe_bipush (v := nI 53) dX11_keep_22 (by decide) ?_
        refine xe_icmp_ge 50 dX11_keep_24 (by decide) (fun _ => ?_) (fun c => absurd (nI_le (by omega) (by omega)) c)
        refine xe_aload_n dX11_keep_50 rfl ?_
        refine xe_iconst (v := nI 0) dX11_keep_51 (by decide) ?_
        refine e_callVp (G := GS) (r := 110) (M_many hl) dX11_keep_52 kvX11_121 gk_110 rfl ?_
        have o : ∀ c, c ≠ 121 → c ≠ 122 → t.1 c = σ.1 c := e3
        refine xe_iret dX11_keep_55 rfl ⟨rfl, ⟨a1.to (by rw [o 110 (by decide) (by decide)]) (o 114 (by decide) (by decide)), a2.to (by rw [o 110 (by decide) (by decide)]) (o 111 (by decide) (by decide)) (fun q _ => by rw [o 112 (by decide) (by decide)]) (by rw [o 110 (by decide) (by decide)]; exact a2.2.2.2), a3.to rfl rfl (by rw [o 110 (by decide) (by decide)]) (by rw [o 110 (by decide) (by decide)]) (o 116 (by decide) (by decide)), fun s hs => ?_, a5.to (by rw [o 110 (by decide) (by decide)]) (o 118 (by decide) (by decide)) (o 119 (by decide) (by decide)) (o 120 (by decide) (by decide)), by rw [e5]; exact a6⟩, FMo.of (fun c hc => o c (by omega) (by omega)) e5⟩
        show t.1 121 s = bI (kpS A.2.2.2.1 k A.2.1 s).isSome ∧ ∀ Q, kpS A.2.2.2.1 k A.2.1 s = some Q → POk Q ∧ Q.1 = A.2.1.1 ∧ Q.2.1 = A.2.1.2.1 ∧ Im (t.1 122) (53 * s) Q
        by_cases q : s = k
        · subst q
          rw [kpS_at, e4, if_pos rfl]
          refine ⟨rfl, fun Q hQ => ?_⟩
          cases hQ
          refine ⟨hp, rfl, rfl, a2.2.2.1.2.2.cp hp (fun k hk => ?_)⟩
          rw [e1 k (by omega), Nat.mul_zero, Nat.zero_add]
        · rw [kpS_ne _ _ q, e4, if_neg q]
          obtain ⟨g1, g2⟩ := a4 s hs
          refine ⟨g1, fun Q hQ => ?_⟩
          obtain ⟨p1, p2, p3, p4⟩ := g2 Q hQ
          exact ⟨p1, p2, p3, p4.cp p1 (fun k hk => e2 _ (by omega))⟩
      | succ d ih =>
        intro i t hi e1 e2 e3 e4 e5
        refine xe_iload_n dX11_keep_21 rfl ?_
        refine xe_bipush (v := nI 53) dX11_keep_22 (by decide) ?_
        refine xe_icmp_ge 50 dX11_keep_24 (by decide) (fun c => absurd c (nI_ge (by omega) (by omega))) (fun _ => ?_)
        refine xe_aload_n dX11_keep_27 rfl ?_
        refine e_getA (G := GS) (r := 110) dX11_keep_28 fdX11_44 rfl gk_110 gr_110_19 ?_
        refine xe_bipush (v := nI 53) dX11_keep_31 (by decide) ?_
        refine xe_iload_n dX11_keep_33 rfl ?_
        first | refine xn_imul dX11_keep_34 ?_ | refine xe_imul dX11_keep_34 ?_
        refine xe_iload_n dX11_keep_35 rfl ?_
        first | refine xn_iadd dX11_keep_36 ?_ | refine xe_iadd dX11_keep_36 ?_
        refine xe_aload_n dX11_keep_37 rfl ?_
        refine e_getA (G := GS) (r := 110) dX11_keep_38 fdX11_13 rfl gk_110 gr_110_2 ?_
        refine xe_iload_n dX11_keep_41 rfl ?_
        refine e_iald (G := GS) (a := 112) dX11_keep_42 gk_112 gn_112 (by omega) (by decide) (show _ = σ.1 112 i by rw [e3 112 (by decide) (by decide)]) ?_
        refine e_iast (G := GS) (a := 122) dX11_keep_43 gk_122 gn_122 (by omega) (by decide) ?_
        refine xn_inc dX11_keep_44 rfl (by decide) ?_
        refine xe_goto 21 dX11_keep_47 (by decide) ?_
        refine ih (i + 1) _ (by omega) (fun q hq => ?_) (fun q hq => by rw [xpi_rd, if_neg (by omega)]; exact e2 q hq) (fun c c1 c2 => by rw [xpi_ne _ _ _ c2]; exact e3 c c1 c2) (fun q => by rw [xpi_rd, if_neg (by omega)]; exact e4 q) e5
        by_cases c : q = i
        · subst c
          rw [xpi_rd, if_pos (by omega)]
        · rw [xpi_rd, if_neg (by omega)]
          exact e1 q (by omega)
    refine xe_iconst (v := nI 0) dX11_keep_19 (by decide) ?_
    refine xe_istore_n dX11_keep_20 (by decide) ?_
    refine key 53 0 _ (by omega) (fun q hq => absurd hq (Nat.not_lt_zero _)) (fun q hq => by rw [xpi_rd, if_neg (by omega)]) (fun c c1 c2 => by rw [xpi_ne _ _ _ c1]) (fun q => ?_) rfl
    by_cases e : q = k
    · rw [xpi_rd, if_pos (by omega), if_pos e]
      decide
    · rw [xpi_rd, if_neg (by omega), if_neg e]
  · rw [sel_out (by decide) (yout c)]
    refine xe_iconst (v := -1) dX11_keep_10 (by decide) ?_
    exact xe_iret dX11_keep_11 rfl (pM_0 h)
theorem M_again (h : IM σ A) {x : Int32} : Cl xs L mX11_again [.ref 110, .int x] GS σ GS (pM σ (aAgain A x)) := by
  show Ev xs L mX11_again 0 [.ref 110, .int x, .null] [] GS σ GS _
  obtain ⟨a1, a2, a3, a4, a5, a6⟩ := id h
  unfold aAgain
  refine xe_iload_n dX11_again_0 rfl ?_
  refine xe_i2l dX11_again_1 ?_
  refine xe_lconst (v := lN 0) dX11_again_2 (by decide) ?_
  refine xe_lconst (v := lN 1) dX11_again_3 (by decide) ?_
  refine e_callSp (M_inO (a := 0) (b := 1) (by decide) (by decide)) dX11_again_4 ksX11_49 rfl ?_
  refine xz_if_ne 12 dX11_again_7 (by decide) (fun c => ?_) (fun c => ?_)
  · obtain ⟨k, -, hk, rfl⟩ := outQ_of (by decide) (by decide) (nout c)
    rw [sel_n hk (by decide)]
    dsimp only
    obtain ⟨k1, k2⟩ := a4 k (by omega)
    refine xe_aload_n dX11_again_12 rfl ?_
    refine e_getA (G := GS) (r := 110) dX11_again_13 fdX11_40 rfl gk_110 gr_110_18 ?_
    refine xe_iload_n dX11_again_16 rfl ?_
    refine xe_bald (G := GS) (a := 121) dX11_again_17 gk_121 (by rw [gn_121]; exact vp_in_nI (by omega) (by omega)) ?_
    rw [nI_clamp (by omega), k1]
    cases hkp : A.2.2.2.1 k with
    | none =>
      refine xe_if_ne 24 dX11_again_18 (by decide) (fun c => absurd c (show ¬ ¬ bI false = 0 by decide)) (fun _ => ?_)
      refine xe_bipush (v := -3) dX11_again_21 (by decide) ?_
      exact xe_iret dX11_again_23 rfl (pM_0 h)
    | some Q =>
      obtain ⟨p1, p2, p3, p4⟩ := k2 Q hkp
      refine xe_if_ne 24 dX11_again_18 (by decide) (fun _ => ?_) (fun c => absurd c (show ¬ bI true = 0 by decide))
      have key : ∀ d i (t : xS), i + d = 53 → (∀ q, q < i → t.1 112 q = σ.1 122 (53 * k + q)) → (∀ c, c ≠ 112 → t.1 c = σ.1 c) → t.2 = σ.2 → Ev xs L mX11_again 26 [.ref 110, .int (nI k), .int (nI i)] [] GS t GS (pM σ (nI Q.2.2.2.length, (A.1, Q, [], A.2.2.2))) := by
        intro d
        induction d with
        | zero =>
          intro i t hi e1 e3 e5
          have o : ∀ c, c ≠ 112 → c ≠ 110 → (xpi t 110 9 (nI 0)).1 c = σ.1 c := fun c c1 c2 => by rw [xpi_ne _ _ _ c2]; exact e3 c c1
          have o0 : ∀ q, q ≠ 9 → (xpi t 110 9 (nI 0)).1 110 q = σ.1 110 q := fun q hq => by rw [xpi_rd, if_neg (by omega), e3 110 (by decide)]
          have hl : Lv (xpi t 110 9 (nI 0)) 0 Q := ⟨by decide, p1, p4.cp p1 (fun q hq => by rw [xpi_rd, if_neg (by omega), Nat.mul_zero, Nat.zero_add]; exact e1 q (by omega))⟩
          refine xe_iload_n dX11_again_26 rfl ?_
          refine xe_bipush (v := nI 53) dX11_again_27 (by decide) ?_
          refine xe_icmp_ge 55 dX11_again_29 (by decide) (fun _ => ?_) (fun c => absurd (nI_le (by omega) (by omega)) c)
          refine xe_aload_n dX11_again_55 rfl ?_
          refine xe_iconst (v := nI 0) dX11_again_56 (by decide) ?_
          refine xe_putI (G := GS) (r := 110) dX11_again_57 fdX11_118 rfl gk_110 ?_
          refine xe_aload_n dX11_again_60 rfl ?_
          refine xe_iconst (v := nI 0) dX11_again_61 (by decide) ?_
          refine e_callVp (G := GS) (r := 110) (M_many hl) dX11_again_62 kvX11_121 gk_110 rfl ?_
          obtain ⟨n, g0, g1, g2, g3, g4⟩ := a3
          refine xe_iret dX11_again_65 rfl ⟨rfl, ⟨a1.to (o0 6 (by decide)) (o 114 (by decide) (by decide)), ⟨by rw [o0 0 (by decide), a2.1]; show nI A.2.1.1 = nI Q.1; rw [p2], fun u hu => ?_, hl, by rw [o0 7 (by decide)]; exact a2.2.2.2⟩, ⟨n, g0, by rw [o0 10 (by decide)]; exact g1, by rw [xpi_rd, if_pos (by omega)]; rfl, Nat.zero_le _, fun i R hR => (by cases hR)⟩, a4.to p2.symm p3.symm (o 121 (by decide) (by decide)) (o 122 (by decide) (by decide)), a5.to (o0 13 (by decide)) (o 118 (by decide) (by decide)) (o 119 (by decide) (by decide)) (o 120 (by decide) (by decide)), by show t.2 110 17 = _; rw [e5]; exact a6⟩, FMo.of (fun c hc => o c (by omega) (by omega)) e5⟩
          have hu : u < Q.1 := hu
          show (xpi t 110 9 (nI 0)).1 111 u = nI (Q.2.1 u)
          rw [o 111 (by decide) (by decide), p3]
          exact a2.2.1 u (by rw [← p2]; exact hu)
        | succ d ih =>
          intro i t hi e1 e3 e5
          refine xe_iload_n dX11_again_26 rfl ?_
          refine xe_bipush (v := nI 53) dX11_again_27 (by decide) ?_
          refine xe_icmp_ge 55 dX11_again_29 (by decide) (fun c => absurd c (nI_ge (by omega) (by omega))) (fun _ => ?_)
          refine xe_aload_n dX11_again_32 rfl ?_
          refine e_getA (G := GS) (r := 110) dX11_again_33 fdX11_13 rfl gk_110 gr_110_2 ?_
          refine xe_iload_n dX11_again_36 rfl ?_
          refine xe_aload_n dX11_again_37 rfl ?_
          refine e_getA (G := GS) (r := 110) dX11_again_38 fdX11_44 rfl gk_110 gr_110_19 ?_
          refine xe_bipush (v := nI 53) dX11_again_41 (by decide) ?_
          refine xe_iload_n dX11_again_43 rfl ?_
          first | refine xn_imul dX11_again_44 ?_ | refine xe_imul dX11_again_44 ?_
          refine xe_iload_n dX11_again_45 rfl ?_
          first | refine xn_iadd dX11_again_46 ?_ | refine xe_iadd dX11_again_46 ?_
          refine e_iald (G := GS) (a := 122) dX11_again_47 gk_122 gn_122 (by omega) (by decide) (show _ = σ.1 122 (53 * k + i) by rw [e3 122 (by decide)]) ?_
          refine e_iast (G := GS) (a := 112) dX11_again_48 gk_112 gn_112 (by omega) (by decide) ?_
          refine xn_inc dX11_again_49 rfl (by decide) ?_
          refine xe_goto 26 dX11_again_52 (by decide) ?_
          refine ih (i + 1) _ (by omega) (fun q hq => ?_) (fun c c1 => by rw [xpi_ne _ _ _ c1]; exact e3 c c1) e5
          by_cases c : q = i
          · subst c
            rw [xpi_rd, if_pos (by omega)]
          · rw [xpi_rd, if_neg (by omega)]
            exact e1 q (by omega)
      refine xe_iconst (v := nI 0) dX11_again_24 (by decide) ?_
      refine xe_istore_n dX11_again_25 (by decide) ?_
      exact key 53 0 σ (by omega) (fun q hq => absurd hq (Nat.not_lt_zero _)) (fun _ _ => rfl) rfl
  · rw [sel_out (by decide) (yout c)]
    refine xe_iconst (v := -1) dX11_again_10 (by decide) ?_
    exact xe_iret dX11_again_11 rfl (pM_0 h)
theorem M_draw {t : xS} {x : Int64} {a b c w1 : Value} {Q : Option Value → xS → Prop} (f4 : t.2 110 17 = x) (k : Ev xs L mX11_years 56 [.ref 110, a, b, c, w1] [.int (nI (drw (nxs x)))] GS (xpl t 110 17 (nxs x)) GS Q) : Ev xs L mX11_years 28 [.ref 110, a, b, c, w1] [] GS t GS Q := by
  have e0 : nxs x = x * 6364136223846793005 + 1442695040888963407 := by unfold nxs; rfl
  have e9 : (xpl t 110 17 (nxs x)).2 110 17 = nxs x := by rw [xpl_at]; exact pk_uLs
  refine xe_aload_n dX11_years_28 rfl ?_
  refine xe_aload_n dX11_years_29 rfl ?_
  refine xe_getJ (G := GS) (r := 110) dX11_years_30 fdX11_266 rfl gk_110 ?_
  rw [f4]
  refine xe_ldc2 dX11_years_33 gw1175 ?_
  refine xe_lmul dX11_years_36 ?_
  refine xe_ldc2 dX11_years_37 gw1176 ?_
  refine xe_ladd dX11_years_40 ?_
  rw [← e0]
  generalize nxs x = y at k e9 ⊢
  refine xe_putJ (G := GS) (r := 110) dX11_years_41 fdX11_266 rfl gk_110 ?_
  refine xe_aload_n dX11_years_44 rfl ?_
  refine xe_getJ (G := GS) (r := 110) dX11_years_45 fdX11_266 rfl gk_110 ?_
  rw [e9]
  refine xe_bipush (v := nI 33) dX11_years_48 (by decide) ?_
  refine xe_lushr dX11_years_50 ?_
  refine xe_ldc2n (n := 60) dX11_years_51 gw1177 (by decide) ?_
  refine xe_lrem dX11_years_54 (by decide) ?_
  refine xe_l2i dX11_years_55 ?_
  rw [show lN 60 = (60 : Int64) by decide, drw_eq]
  exact k
theorem M_years (h : IM σ A) {x : Int32} : Cl xs L mX11_years [.ref 110, .int x] GS σ GS (pM σ (aYears A x)) := by
  show Ev xs L mX11_years 0 [.ref 110, .int x, .null, .null, .null] [] GS σ GS _
  obtain ⟨a1, a2, a3, a4, a5, a6⟩ := id h
  have hl := a2.2.2.1
  have hkd := a2.kd 1
  unfold aYears
  refine xe_iload_n dX11_years_0 rfl ?_
  refine xe_i2l dX11_years_1 ?_
  refine xe_lconst (v := lN 1) dX11_years_2 (by decide) ?_
  refine xe_ldc2n (n := 30) dX11_years_3 gw1174 (by decide) ?_
  refine e_callSp (M_inO (a := 1) (b := 30) (by decide) (by decide)) dX11_years_6 ksX11_49 rfl ?_
  refine xz_if_ne 15 dX11_years_9 (by decide) (fun c => ?_) (fun c => ?_)
  · have c := nout c
    rw [c, if_neg (by decide)]
    obtain ⟨m, -, hm, rfl⟩ := outQ_of (by decide) (by decide) c
    rw [nI_clamp (by omega)]
    have key : ∀ k i (x : Int64) (P : xP) (s : Nat) (t : xS) (w1 : Value), i + k = m → Lv t 1 P → Kd t 1 P → t.1 110 0 = nI P.1 → (∀ c, c ≠ 112 → c ≠ 117 → t.1 c = σ.1 c) → (∀ q, q < 53 → t.1 112 q = σ.1 112 q) → (∀ c, c ≠ 110 → t.2 c = σ.2 c) → t.2 110 17 = x → ∀ r : Int64 × Nat, yrs k x P s = r → Ev xs L mX11_years 23 [.ref 110, .int (nI m), .int (nI s), .int (nI i), w1] [] GS t GS (pM σ (nI r.2, (A.1, A.2.1, A.2.2.1, A.2.2.2.1, A.2.2.2.2.1, r.1))) := by
      intro k
      induction k with
      | zero =>
        intro i x P s t w1 hi ht hk hT f1 f2 f3 f4 r hr
        refine xe_iload_n dX11_years_23 rfl ?_
        refine xe_iload_n dX11_years_24 rfl ?_
        refine xe_icmp_ge 161 dX11_years_25 (by decide) (fun _ => ?_) (fun c => absurd (nI_le (by omega) (by omega)) c)
        refine xe_iload_n dX11_years_161 rfl ?_
        have hr : (x, s) = r := hr
        subst hr
        refine xe_iret dX11_years_162 rfl ⟨rfl, ⟨a1.to (by rw [f1 110 (by decide) (by decide)]) (f1 114 (by decide) (by decide)), a2.to (by rw [f1 110 (by decide) (by decide)]) (f1 111 (by decide) (by decide)) f2 (by rw [f1 110 (by decide) (by decide)]; exact a2.2.2.2), a3.to rfl rfl (by rw [f1 110 (by decide) (by decide)]) (by rw [f1 110 (by decide) (by decide)]) (f1 116 (by decide) (by decide)), a4.to rfl rfl (f1 121 (by decide) (by decide)) (f1 122 (by decide) (by decide)), a5.to (by rw [f1 110 (by decide) (by decide)]) (f1 118 (by decide) (by decide)) (f1 119 (by decide) (by decide)) (f1 120 (by decide) (by decide)), f4⟩, fun c hc => f1 c (by omega) (by omega), f3⟩
      | succ k ih =>
        intro i x P s t w1 hi ht hk hT f1 f2 f3 f4 r hr
        refine xe_iload_n dX11_years_23 rfl ?_
        refine xe_iload_n dX11_years_24 rfl ?_
        refine xe_icmp_ge 161 dX11_years_25 (by decide) (fun c => absurd c (nI_ge (by omega) (by omega))) (fun _ => ?_)
        refine M_draw f4 ?_
        rw [yrs_s] at hr
        unfold lvX at hr
        generalize nxs x = y at hr ⊢
        have e9 : (xpl t 110 17 y).2 110 17 = y := by rw [xpl_at]; exact pk_uLs
        have hd := drw_lt y
        generalize drw y = d at hd hr ⊢
        obtain ⟨q1, q2⟩ := lvy_T P d
        have ht2 : Lv (xpl t 110 17 y) 1 P := ht.to (fun _ _ _ => rfl)
        have hk2 : Kd (xpl t 110 17 y) 1 P := by
          obtain ⟨r, h1, h2⟩ := hk
          exact ⟨r, h1, h2⟩
        have hT2 : (xpl t 110 17 y).1 110 0 = nI P.1 := hT
        -- behind a year
        have fin : ∀ (u : xS) (w1 : Value), Lv u 1 (lvy P d) → FT (xpl t 110 17 y) u → Ev xs L mX11_years 145 [.ref 110, .int (nI m), .int (nI s), .int (nI i), w1] [] GS u GS (pM σ (nI r.2, (A.1, A.2.1, A.2.2.1, A.2.2.2.1, A.2.2.2.2.1, r.1))) := by
          intro u w1 hu fu
          have hzz : ∀ s ∈ (lvy P d).2.2.2, SO s := fun s hs => (hu.2.1.2.2.1 s hs).2
          refine xe_iload_n dX11_years_145 rfl ?_
          refine xe_aload_n dX11_years_146 rfl ?_
          refine xe_iconst (v := nI 1) dX11_years_147 (by decide) ?_
          refine xe_bipush (v := nI 15) dX11_years_148 (by decide) ?_
          refine e_callVp (G := GS) (r := 110) (M_crossesOf hu (show 15 < 2 ^ 31 by decide)) dX11_years_150 kvX11_204 gk_110 rfl ?_
          rw [csz_all _ hzz]
          first | refine xn_iadd dX11_years_153 ?_ | refine xe_iadd dX11_years_153 ?_
          refine xe_istore_n dX11_years_154 (by decide) ?_
          refine xn_inc dX11_years_155 rfl (by decide) ?_
          refine xe_goto 23 dX11_years_158 (by decide) ?_
          exact ih (i + 1) y _ _ u _ (by omega) hu ((hk2.ft fu).eq q1 q2) (by rw [fu.1 110 (by decide) (by decide), hT2, q1]) (fun c c1 c2 => (fu.1 c c1 c2).trans (f1 c c1 c2)) (fun q hq => (fu.2.1 q hq).trans (f2 q hq)) (fun c c1 => by rw [fu.2.2]; exact (xpl_ne _ _ _ c1).trans (f3 c c1)) (by rw [fu.2.2]; exact e9) r hr
        refine xe_istore dX11_years_56 (by decide) ?_
        refine xe_iload dX11_years_58 rfl ?_
        refine xe_bipush (v := nI 53) dX11_years_60 (by decide) ?_
        unfold lvy at fin
        refine xn_icmp_le 85 dX11_years_62 (by decide) (by omega) (by omega) (fun c1 => ?_) (fun c1 => ?_)
        · refine xe_iload dX11_years_85 rfl ?_
          refine xe_bipush (v := nI 51) dX11_years_87 (by decide) ?_
          refine xn_icmp_le 107 dX11_years_89 (by decide) (by omega) (by omega) (fun c2 => ?_) (fun c2 => ?_)
          · refine xe_iload dX11_years_107 rfl ?_
            refine xe_bipush (v := nI 47) dX11_years_109 (by decide) ?_
            refine xn_icmp_le 129 dX11_years_111 (by decide) (by omega) (by omega) (fun c3 => ?_) (fun c3 => ?_)
            · rw [if_pos (by omega)] at fin
              refine xe_aload_n dX11_years_129 rfl ?_
              refine xe_iconst (v := nI 1) dX11_years_130 (by decide) ?_
              refine xe_iload dX11_years_131 rfl ?_
              refine xe_bipush (v := nI 12) dX11_years_133 (by decide) ?_
              refine xn_idiv dX11_years_135 (by omega) (by decide) (by decide) ?_
              refine xe_iload dX11_years_136 rfl ?_
              refine xe_bipush (v := nI 12) dX11_years_138 (by decide) ?_
              refine xn_irem dX11_years_140 (by omega) (by decide) (by decide) ?_
              refine e_callV (G := GS) (r := 110) (M_tryThing ht2 hT2 hk2 (show 1 < 10 by decide) (show d / 12 < 10 by omega) (show d % 12 < 100 by omega)) dX11_years_141 kvX11_237 gk_110 rfl ?_
              rintro v u ⟨rfl, hu, fu⟩
              have et := tng_1 P (show d / 12 < 10 by omega) (show d % 12 < 100 by omega)
              rw [et] at hu
              refine xe_pop dX11_years_144 rfl ?_
              exact fin u _ hu fu
            · rw [if_neg (by omega), if_pos (by omega)] at fin
              refine xe_aload_n dX11_years_114 rfl ?_
              refine xe_iconst (v := nI 2) dX11_years_115 (by decide) ?_
              refine xe_iconst (v := nI 0) dX11_years_116 (by decide) ?_
              refine xe_iload dX11_years_117 rfl ?_
              refine xe_bipush (v := nI 48) dX11_years_119 (by decide) ?_
              refine xn_isub dX11_years_121 (by omega) ?_
              refine e_callV (G := GS) (r := 110) (M_tryThing ht2 hT2 hk2 (show 2 < 10 by decide) (show 0 < 10 by decide) (show d - 48 < 100 by omega)) dX11_years_122 kvX11_237 gk_110 rfl ?_
              rintro v u ⟨rfl, hu, fu⟩
              have et := tng_2 P (show d - 48 < 10 by omega)
              rw [et] at hu
              refine xe_pop dX11_years_125 rfl ?_
              refine xe_goto 145 dX11_years_126 (by decide) ?_
              exact fin u _ hu fu
          · rw [if_neg (by omega), if_neg (by omega), if_pos (by omega)] at fin
            refine xe_aload_n dX11_years_92 rfl ?_
            refine xe_iconst (v := nI 3) dX11_years_93 (by decide) ?_
            refine xe_iconst (v := nI 0) dX11_years_94 (by decide) ?_
            refine xe_iload dX11_years_95 rfl ?_
            refine xe_bipush (v := nI 52) dX11_years_97 (by decide) ?_
            refine xn_isub dX11_years_99 (by omega) ?_
            refine e_callV (G := GS) (r := 110) (M_tryThing ht2 hT2 hk2 (show 3 < 10 by decide) (show 0 < 10 by decide) (show d - 52 < 100 by omega)) dX11_years_100 kvX11_237 gk_110 rfl ?_
            rintro v u ⟨rfl, hu, fu⟩
            have et := tng_3 P (show d - 52 < 10 by omega)
            rw [et] at hu
            refine xe_pop dX11_years_103 rfl ?_
            refine xe_goto 145 dX11_years_104 (by decide) ?_
            exact fin u _ hu fu
        · rw [if_neg (by omega), if_neg (by omega), if_neg (by omega)] at fin
          refine xe_aload_n dX11_years_65 rfl ?_
          refine xe_iconst (v := nI 1) dX11_years_66 (by decide) ?_
          refine xe_iload dX11_years_67 rfl ?_
          refine xe_bipush (v := nI 56) dX11_years_69 (by decide) ?_
          refine xn_icmp_le 78 dX11_years_71 (by decide) (by omega) (by omega) (fun c2 => ?_) (fun c2 => ?_)
          · rw [if_pos (by omega)] at fin
            refine xe_iconst (v := nI 0) dX11_years_78 (by decide) ?_
            refine e_callV (G := GS) (r := 110) (M_renameOn ht2 hT2 false) dX11_years_79 kvX11_197 gk_110 rfl ?_
            rintro v u ⟨rfl, hu, fu⟩
            refine xe_goto 145 dX11_years_82 (by decide) ?_
            exact fin u _ hu (FT.of fu)
          · rw [if_neg (by omega)] at fin
            refine xe_iconst (v := nI 1) dX11_years_74 (by decide) ?_
            refine xe_goto 79 dX11_years_75 (by decide) ?_
            refine e_callV (G := GS) (r := 110) (M_renameOn ht2 hT2 true) dX11_years_79 kvX11_197 gk_110 rfl ?_
            rintro v u ⟨rfl, hu, fu⟩
            refine xe_goto 145 dX11_years_82 (by decide) ?_
            exact fin u _ hu (FT.of fu)
    refine xe_aload_n dX11_years_15 rfl ?_
    refine e_callV (G := GS) (r := 110) (M_layTrial hl) dX11_years_16 kvX11_226 gk_110 rfl ?_
    rintro v t ⟨rfl, ht, ft⟩
    refine xe_iconst (v := nI 0) dX11_years_19 (by decide) ?_
    refine xe_istore_n dX11_years_20 (by decide) ?_
    refine xe_iconst (v := nI 0) dX11_years_21 (by decide) ?_
    refine xe_istore_n dX11_years_22 (by decide) ?_
    exact key m 0 A.2.2.2.2.2 A.2.1 0 t .null (by omega) ht (hkd.fl ft) (by rw [ft.1 110 (by decide)]; exact a2.1) (fun c c1 _ => ft.1 c c1) (fun q hq => ft.2.1 q (by omega)) (fun c _ => by rw [ft.2.2]) (by rw [ft.2.2]; exact a6) _ rfl
  · rw [yout c, if_pos rfl]
    refine xe_bipush (v := -2) dX11_years_12 (by decide) ?_
    exact xe_iret dX11_years_14 rfl (pM_0 h)
end M4
