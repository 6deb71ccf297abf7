/-! the model's cells; its calls -/
def Ac (σ : xS) (P : xP) (ac : List xP) : Prop := ∃ n : Nat, n < 14 ∧ σ.1 110 10 = nI n ∧ σ.1 110 9 = nI ac.length ∧ ac.length ≤ 14 ∧ ∀ i Q, ac[i]? = some Q → POk Q ∧ Q.1 = P.1 ∧ Q.2.1 = P.2.1 ∧ Im (σ.1 116) (53 * ((n + 13 - i) % 14)) Q
def Kp (σ : xS) (P : xP) (kp : Nat → Option xP) : Prop := ∀ s, s < 2 → σ.1 121 s = bI (kp s).isSome ∧ ∀ Q, kp s = some Q → POk Q ∧ Q.1 = P.1 ∧ Q.2.1 = P.2.1 ∧ Im (σ.1 122) (53 * s) Q
def Se (σ : xS) (sn : List xSn) : Prop := σ.1 110 13 = nI sn.length ∧ sn.length ≤ 6 ∧ ∀ i q, sn[i]? = some q → σ.1 118 i = nI q.1 ∧ σ.1 119 i = nI q.2.1 ∧ σ.1 120 i = nI q.2.2 ∧ q.1 ≤ 12 ∧ q.2.1 < 12 ∧ q.2.2 ≤ 1
/-- threads, their kinds, the board; nothing is being read -/
def Bm (σ : xS) (P : xP) : Prop := σ.1 110 0 = nI P.1 ∧ (∀ t, t < P.1 → σ.1 111 t = nI (P.2.1 t)) ∧ Lv σ 0 P ∧ σ.1 110 7 = bI false
/-- the model's cells hold it -/
def IM (σ : xS) (A : yA) : Prop := Mt σ A.1 ∧ Bm σ A.2.1 ∧ Ac σ A.2.1 A.2.2.1 ∧ Kp σ A.2.1 A.2.2.2.1 ∧ Se σ A.2.2.2.2.1 ∧ σ.2 110 17 = A.2.2.2.2.2
def FMo (σ t : xS) : Prop := (∀ c, c < 110 → t.1 c = σ.1 c) ∧ ∀ c, c ≠ 110 → t.2 c = σ.2 c
theorem FMo.rf (σ : xS) : FMo σ σ := ⟨fun _ _ => rfl, fun _ _ => rfl⟩
theorem FMo.of {σ t : xS} (h1 : ∀ c, c < 110 → t.1 c = σ.1 c) (h2 : t.2 = σ.2) : FMo σ t := ⟨h1, fun _ _ => by rw [h2]⟩
theorem FMo.tr {σ t u : xS} (h1 : FMo σ t) (h2 : FMo t u) : FMo σ u := ⟨fun c hc => (h2.1 c hc).trans (h1.1 c hc), fun c hc => (h2.2 c hc).trans (h1.2 c hc)⟩
theorem Mt.to {σ t : xS} {tx : List Nat} (h : Mt σ tx) (e1 : t.1 110 6 = σ.1 110 6) (e2 : t.1 114 = σ.1 114) : Mt t tx := ⟨by rw [e1]; exact h.1, h.2.1, by rw [e2]; exact h.2.2.1, h.2.2.2⟩
theorem Ac.to {σ t : xS} {P Q : xP} {ac : List xP} (h : Ac σ P ac) (q1 : P.1 = Q.1) (q2 : P.2.1 = Q.2.1) (e1 : t.1 110 10 = σ.1 110 10) (e2 : t.1 110 9 = σ.1 110 9) (e3 : t.1 116 = σ.1 116) : Ac t Q ac := by
  obtain ⟨n, h1, h2, h3, h4, h5⟩ := h
  refine ⟨n, h1, e1.trans h2, e2.trans h3, h4, fun i R hR => ?_⟩
  obtain ⟨g1, g2, g3, g4⟩ := h5 i R hR
  rw [e3]
  exact ⟨g1, g2.trans q1, g3.trans q2, g4⟩
theorem Kp.to {σ t : xS} {P Q : xP} {kp : Nat → Option xP} (h : Kp σ P kp) (q1 : P.1 = Q.1) (q2 : P.2.1 = Q.2.1) (e1 : t.1 121 = σ.1 121) (e2 : t.1 122 = σ.1 122) : Kp t Q kp := by
  intro s hs
  obtain ⟨h1, h2⟩ := h s hs
  refine ⟨by rw [e1]; exact h1, fun R hR => ?_⟩
  obtain ⟨g1, g2, g3, g4⟩ := h2 R hR
  rw [e2]
  exact ⟨g1, g2.trans q1, g3.trans q2, g4⟩
theorem Se.to {σ t : xS} {sn : List xSn} (h : Se σ sn) (e1 : t.1 110 13 = σ.1 110 13) (e2 : t.1 118 = σ.1 118) (e3 : t.1 119 = σ.1 119) (e4 : t.1 120 = σ.1 120) : Se t sn := by
  obtain ⟨h1, h2, h3⟩ := h
  refine ⟨e1.trans h1, h2, fun i q hq => ?_⟩
  rw [e2, e3, e4]
  exact h3 i q hq
theorem Bm.to {σ t : xS} {P : xP} (h : Bm σ P) (e1 : t.1 110 0 = σ.1 110 0) (e2 : t.1 111 = σ.1 111) (e3 : ∀ k, k < 53 → t.1 112 k = σ.1 112 k) (e4 : t.1 110 7 = bI false) : Bm t P := ⟨e1.trans h.1, by rw [e2]; exact h.2.1, h.2.2.1.to (fun k _ k2 => e3 k (by omega)), e4⟩
theorem Bm.kd {σ : xS} {P : xP} (h : Bm σ P) (v : Nat) : Kd σ v P := ⟨false, h.2.2.2, fun t ht => by rw [if_neg (fun q => absurd q.2 (by decide))]; exact h.2.1 t ht⟩
/-- what a call that only asks may change -/
def FQ (σ t : xS) : Prop := (∀ c, c ≠ 110 → c ≠ 112 → c ≠ 113 → c ≠ 115 → c ≠ 117 → t.1 c = σ.1 c) ∧ (∀ k, k ≠ 4 → k ≠ 7 → t.1 110 k = σ.1 110 k) ∧ (∀ k, k < 53 → t.1 112 k = σ.1 112 k) ∧ t.2 = σ.2
theorem FQ.rf (σ : xS) : FQ σ σ := ⟨fun _ _ _ _ _ _ => rfl, fun _ _ _ => rfl, fun _ _ => rfl, rfl⟩
theorem FQ.fr {σ t : xS} (f : FR σ t) : FQ σ t := ⟨fun c a b d _ _ => f.1 c a b d, f.2.1, f.2.2.1, f.2.2.2⟩
theorem FQ.ft {σ t : xS} (f : FT σ t) : FQ σ t := ⟨fun c _ b _ _ e => f.1 c b e, fun k _ _ => by rw [f.1 110 (by decide) (by decide)], f.2.1, f.2.2⟩
theorem FQ.fa {a : Nat} {σ t : xS} (f : FA a σ t) (h : a = 115 ∨ a = 117) : FQ σ t := ⟨fun c _ _ _ d e => f.1 c (by omega), fun k _ _ => by rw [f.1 110 (by omega)], fun k _ => by rw [f.1 112 (by omega)], f.2⟩
theorem IM.q {σ t : xS} {A : yA} (h : IM σ A) (f : FQ σ t) (e : t.1 110 7 = bI false) : IM t A := by
  obtain ⟨a1, a2, a3, a4, a5, a6⟩ := h
  have o : ∀ c, 118 ≤ c → t.1 c = σ.1 c := fun c hc => f.1 c (by omega) (by omega) (by omega) (by omega) (by omega)
  exact ⟨a1.to (f.2.1 6 (by decide) (by decide)) (f.1 114 (by decide) (by decide) (by decide) (by decide) (by decide)), a2.to (f.2.1 0 (by decide) (by decide)) (f.1 111 (by decide) (by decide) (by decide) (by decide) (by decide)) f.2.2.1 e, a3.to rfl rfl (f.2.1 10 (by decide) (by decide)) (f.2.1 9 (by decide) (by decide)) (f.1 116 (by decide) (by decide) (by decide) (by decide) (by decide)), a4.to rfl rfl (o 121 (by decide)) (o 122 (by decide)), a5.to (f.2.1 13 (by decide) (by decide)) (o 118 (by decide)) (o 119 (by decide)) (o 120 (by decide)), by rw [f.2.2.2]; exact a6⟩
theorem FQ.mo {σ t : xS} (f : FQ σ t) : FMo σ t := FMo.of (fun c hc => f.1 c (by omega) (by omega) (by omega) (by omega) (by omega)) f.2.2.2
abbrev pM (σ : xS) (r : Int32 × yA) : Option Value → xS → Prop := fun v t => v = some (.int r.1) ∧ IM t r.2 ∧ FMo σ t
section MC
variable {xs : Nat → Int32} {L : Nat} {σ : xS} {A : yA}
theorem pM_0 {x : Int32} (h : IM σ A) : pM σ (x, A) (some (.int x)) σ := ⟨rfl, h, FMo.rf σ⟩
theorem pM_e {x y : Int32} (h : IM σ A) (e : x = y) : pM σ (y, A) (some (.int x)) σ := by subst e; exact pM_0 h
theorem pM_t {x : Int32} {t : xS} (h : IM σ A) (f : FT σ t) : pM σ (x, A) (some (.int x)) t := ⟨rfl, h.q (FQ.ft f) (by rw [f.1 110 (by decide) (by decide)]; exact h.2.1.2.2.2), (FQ.ft f).mo⟩
theorem nout {x : Int32} {a b : Nat} (h : (!outQ x a b) = true) : outQ x a b = false := by simpa using h
theorem yout {x : Int32} {a b : Nat} (h : (!outQ x a b) = false) : outQ x a b = true := by simpa using h
theorem M_write (h : IM σ A) {x : Int32} : Cl xs L mX11_write [.ref 110, .int x] GS σ GS (pM σ (aWrite A x)) := by
  show Ev xs L mX11_write 0 [.ref 110, .int x] [] GS σ GS _
  obtain ⟨⟨m1, m2, m3, m4⟩, a2, a3, a4, a5, a6⟩ := id h
  refine xe_iload_n dX11_write_0 rfl ?_
  refine xe_i2l dX11_write_1 ?_
  refine xe_lconst (v := lN 0) dX11_write_2 (by decide) ?_
  refine xe_ldc2n (n := 255) dX11_write_3 gw872 (by decide) ?_
  refine e_callSp (M_inO (by decide) (by decide)) dX11_write_6 ksX11_49 rfl ?_
  unfold aWrite
  refine xz_if_ne 15 dX11_write_9 (by decide) (fun c => ?_) (fun c => ?_)
  · have c := nout c
    rw [if_neg (by rw [c]; decide)]
    obtain ⟨j, -, hj, rfl⟩ := outQ_of (by decide) (by decide) c
    rw [nI_clamp (by omega)]
    refine xe_aload_n dX11_write_15 rfl ?_
    refine e_getI (G := GS) (r := 110) dX11_write_16 fdX11_74 rfl gk_110 m1 ?_
    refine xe_bipush (v := nI 48) dX11_write_19 (by decide) ?_
    refine xn_icmp_ne 27 dX11_write_21 (by decide) (by omega) (by omega) (fun c2 => ?_) (fun c2 => ?_)
    · rw [if_pos (by omega)]
      refine xe_aload_n dX11_write_27 rfl ?_
      refine e_getA (G := GS) (r := 110) dX11_write_28 fdX11_19 rfl gk_110 gr_110_5 ?_
      refine xe_aload_n dX11_write_31 rfl ?_
      refine e_getI (G := GS) (r := 110) dX11_write_32 fdX11_74 rfl gk_110 m1 ?_
      refine xe_iload_n dX11_write_35 rfl ?_
      refine e_iast (G := GS) (a := 114) dX11_write_36 gk_114 gn_114 (by omega) (by decide) ?_
      refine xe_aload_n dX11_write_37 rfl ?_
      refine xe_dup dX11_write_38 rfl ?_
      refine e_getI (G := GS) (r := 110) dX11_write_39 fdX11_74 rfl gk_110 (show _ = nI A.1.length by rw [xpi_rd, if_neg (by omega)]; exact m1) ?_
      refine xe_iconst (v := nI 1) dX11_write_42 (by decide) ?_
      first | refine xn_iadd dX11_write_43 ?_ | refine xe_iadd dX11_write_43 ?_
      refine xe_putI (G := GS) (r := 110) dX11_write_44 fdX11_74 rfl gk_110 ?_
      refine xe_aload_n dX11_write_47 rfl ?_
      refine e_getI (G := GS) (r := 110) dX11_write_48 fdX11_74 rfl gk_110 (show _ = nI (A.1.length + 1) by rw [xpi_rd, if_pos (by omega)]) ?_
      have e : ∀ c, c ≠ 114 → c ≠ 110 → (xpi (xpi σ 114 A.1.length (nI j)) 110 6 (nI (A.1.length + 1))).1 c = σ.1 c := fun c c1 c2 => by rw [xpi_ne _ _ _ c2, xpi_ne _ _ _ c1]
      have e0 : ∀ k, k ≠ 6 → (xpi (xpi σ 114 A.1.length (nI j)) 110 6 (nI (A.1.length + 1))).1 110 k = σ.1 110 k := fun k hk => by rw [xpi_rd, if_neg (by omega), xpi_rd, if_neg (by omega)]
      refine xe_iret dX11_write_51 rfl ⟨rfl, ⟨⟨?_, ?_, fun i c hc => ?_, fun c hc => ?_⟩, a2.to (e0 0 (by decide)) (e 111 (by decide) (by decide)) (fun k hk => by rw [e 112 (by decide) (by decide)]) (by rw [e0 7 (by decide)]; exact a2.2.2.2), a3.to rfl rfl (e0 10 (by decide)) (e0 9 (by decide)) (e 116 (by decide) (by decide)), a4.to rfl rfl (e 121 (by decide) (by decide)) (e 122 (by decide) (by decide)), a5.to (e0 13 (by decide)) (e 118 (by decide) (by decide)) (e 119 (by decide) (by decide)) (e 120 (by decide) (by decide)), a6⟩, FMo.of (fun c hc => e c (by omega) (by omega)) rfl⟩
      · rw [xpi_rd, if_pos (by omega), List.length_append]
        rfl
      · show (A.1 ++ [j]).length ≤ 48
        rw [List.length_append]
        show A.1.length + 1 ≤ 48
        omega
      · have hc : (A.1 ++ [j])[i]? = some c := hc
        by_cases q : i < A.1.length
        · rw [List.getElem?_append_left q] at hc
          rw [xpi_rd, if_neg (by omega), xpi_rd, if_neg (by omega)]
          exact m3 i c hc
        · rw [List.getElem?_append_right (by omega)] at hc
          have hz0 : i - A.1.length < 1 := (List.getElem?_eq_some_iff.mp hc).1
          rw [show i - A.1.length = 0 by omega] at hc
          cases hc
          rw [xpi_rd, if_neg (by omega), xpi_rd, if_pos (by omega)]
      · have hc : c ∈ A.1 ++ [j] := hc
        rcases List.mem_append.mp hc with q | q
        · exact m4 c q
        · rw [List.mem_singleton.mp q]
          omega
    · rw [if_neg (by omega)]
      refine xe_bipush (v := -4) dX11_write_24 (by decide) ?_
      exact xe_iret dX11_write_26 rfl (pM_0 h)
  · rw [if_pos (yout c)]
    refine xe_bipush (v := -2) dX11_write_12 (by decide) ?_
    exact xe_iret dX11_write_14 rfl (pM_0 h)
theorem M_wipe (h : IM σ A) : Cl xs L mX11_wipe [.ref 110] GS σ GS (pM σ (aWipe A)) := by
  show Ev xs L mX11_wipe 0 [.ref 110, .null] [] GS σ GS _
  obtain ⟨⟨m1, m2, m3, m4⟩, a2, a3, a4, a5, a6⟩ := id h
  refine xe_aload_n dX11_wipe_0 rfl ?_
  refine e_getI (G := GS) (r := 110) dX11_wipe_1 fdX11_74 rfl gk_110 m1 ?_
  refine xe_istore_n dX11_wipe_4 (by decide) ?_
  refine xe_aload_n dX11_wipe_5 rfl ?_
  refine xe_iconst (v := nI 0) dX11_wipe_6 (by decide) ?_
  refine xe_putI (G := GS) (r := 110) dX11_wipe_7 fdX11_74 rfl gk_110 ?_
  refine xe_iload_n dX11_wipe_10 rfl ?_
  have e : ∀ c, c ≠ 110 → (xpi σ 110 6 (nI 0)).1 c = σ.1 c := fun c c2 => by rw [xpi_ne _ _ _ c2]
  have e0 : ∀ k, k ≠ 6 → (xpi σ 110 6 (nI 0)).1 110 k = σ.1 110 k := fun k hk => by rw [xpi_rd, if_neg (by omega)]
  exact xe_iret dX11_wipe_11 rfl ⟨rfl, ⟨⟨by rw [xpi_rd, if_pos (by omega)]; rfl, Nat.zero_le _, fun i c hc => (by cases hc), fun c hc => absurd hc List.not_mem_nil⟩, a2.to (e0 0 (by decide)) (e 111 (by decide)) (fun k hk => by rw [e 112 (by decide)]) (by rw [e0 7 (by decide)]; exact a2.2.2.2), a3.to rfl rfl (e0 10 (by decide)) (e0 9 (by decide)) (e 116 (by decide)), a4.to rfl rfl (e 121 (by decide)) (e 122 (by decide)), a5.to (e0 13 (by decide)) (e 118 (by decide)) (e 119 (by decide)) (e 120 (by decide)), a6⟩, FMo.of (fun c hc => e c (by omega)) rfl⟩
theorem M_fault (h : IM σ A) : Cl xs L mX11_fault [.ref 110] GS σ GS (pM σ (aFault A, A)) := by
  show Ev xs L mX11_fault 0 [.ref 110] [] GS σ GS _
  refine xe_aload_n dX11_fault_0 rfl ?_
  refine e_callV (G := GS) (r := 110) (M_readText h.1) dX11_fault_1 kvX11_112 gk_110 rfl ?_
  rintro v t ⟨⟨rfl, -, f⟩, e⟩
  exact xe_iret dX11_fault_4 rfl ⟨rfl, h.q (FQ.fr f) e, (FQ.fr f).mo⟩
theorem M_board (h : IM σ A) : Cl xs L mX11_board [.ref 110] GS σ GS (pM σ (aBoard A)) := by
  show Ev xs L mX11_board 0 [.ref 110, .null] [] GS σ GS _
  refine xe_aload_n dX11_board_0 rfl ?_
  refine e_callV (G := GS) (r := 110) (M_readText h.1) dX11_board_1 kvX11_112 gk_110 rfl ?_
  rintro v t ⟨⟨rfl, hR, f⟩, e7⟩
  unfold aBoard
  refine xe_bipush (v := -9) dX11_board_4 (by decide) ?_
  by_cases cc : (rdB A.1).1 = -9
  · rw [if_pos cc]
    obtain ⟨r1, r2, r3⟩ := hR cc
    generalize (rdB A.1).2 = P at r1 r2 r3 ⊢
    have h4 := r1.2.1.1
    have ft := FQ.fr f
    obtain ⟨a1, a2, a3, a4, a5, a6⟩ := h.q ft e7
    have mo := ft.mo
    clear hR f ft h
    refine xe_icmp_eq 12 dX11_board_6 (by decide) (fun _ => ?_) (fun c => absurd cc c)
    -- the second loop
    have key2 : ∀ k i (u : xS), i + k = 53 → u.1 110 0 = nI P.1 → (∀ q, q < i → u.1 112 q = t.1 112 (53 + q)) → (∀ q, 53 ≤ q → u.1 112 q = t.1 112 q) → (∀ q, q < P.1 → u.1 111 q = nI (P.2.1 q)) → (∀ c, c ≠ 110 → c ≠ 111 → c ≠ 112 → u.1 c = t.1 c) → (∀ q, q ≠ 0 → u.1 110 q = t.1 110 q) → u.2 = t.2 → Ev xs L mX11_board 50 [.ref 110, .int (nI i)] [] GS u GS (pM σ (nI P.1, (A.1, P, [], fun _ => none, A.2.2.2.2))) := by
      intro k
      induction k with
      | zero =>
        intro i u hi e0 e1 e2 e3 e4 e5 e6
        refine xe_iload_n dX11_board_50 rfl ?_
        refine xe_bipush (v := nI 53) dX11_board_51 (by decide) ?_
        refine xe_icmp_ge 77 dX11_board_53 (by decide) (fun _ => ?_) (fun c => absurd (nI_le (by omega) (by omega)) c)
        refine xe_aload_n dX11_board_77 rfl ?_
        refine xe_iconst (v := nI 0) dX11_board_78 (by decide) ?_
        refine xe_putI (G := GS) (r := 110) dX11_board_79 fdX11_118 rfl gk_110 ?_
        refine xe_aload_n dX11_board_82 rfl ?_
        refine e_getA (G := GS) (r := 110) dX11_board_83 fdX11_40 rfl gk_110 gr_110_18 ?_
        refine xe_iconst (v := nI 0) dX11_board_86 (by decide) ?_
        refine xe_iconst (v := nI 0) dX11_board_87 (by decide) ?_
        refine xe_bast (G := GS) (a := 121) dX11_board_88 gk_121 (by rw [gn_121]; exact vp_in_nI (by omega) (by omega)) ?_
        refine xe_aload_n dX11_board_89 rfl ?_
        refine e_getA (G := GS) (r := 110) dX11_board_90 fdX11_40 rfl gk_110 gr_110_18 ?_
        refine xe_iconst (v := nI 1) dX11_board_93 (by decide) ?_
        refine xe_iconst (v := nI 0) dX11_board_94 (by decide) ?_
        refine xe_bast (G := GS) (a := 121) dX11_board_95 gk_121 (by rw [gn_121]; exact vp_in_nI (by omega) (by omega)) ?_
        rw [nI_clamp (show 0 < 2 ^ 31 by omega), nI_clamp (show 1 < 2 ^ 31 by omega)]
        refine xe_aload_n dX11_board_96 rfl ?_
        refine e_getI (G := GS) (r := 110) dX11_board_97 fdX11_115 rfl gk_110 (show _ = nI P.1 by rw [xpi_rd, if_neg (by omega), xpi_rd, if_neg (by omega), xpi_rd, if_neg (by omega)]; exact e0) ?_
        have eU : ∀ c, c ≠ 110 → c ≠ 111 → c ≠ 112 → c ≠ 121 → (xpi (xpi (xpi u 110 9 (nI 0)) 121 0 (nI 0 &&& 1)) 121 1 (nI 0 &&& 1)).1 c = t.1 c := fun c c1 c2 c3 c4 => by rw [xpi_ne _ _ _ c4, xpi_ne _ _ _ c4, xpi_ne _ _ _ c1]; exact e4 c c1 c2 c3
        have eU0 : ∀ q, q ≠ 0 → q ≠ 9 → (xpi (xpi (xpi u 110 9 (nI 0)) 121 0 (nI 0 &&& 1)) 121 1 (nI 0 &&& 1)).1 110 q = t.1 110 q := fun q q1 q2 => by rw [xpi_rd, if_neg (by omega), xpi_rd, if_neg (by omega), xpi_rd, if_neg (by omega)]; exact e5 q q1
        obtain ⟨n, g0, g1, g2, g3, g4⟩ := a3
        refine xe_iret dX11_board_100 rfl ⟨rfl, ⟨a1.to (eU0 6 (by decide) (by decide)) (eU 114 (by decide) (by decide) (by decide) (by decide)), ⟨by rw [xpi_rd, if_neg (by omega), xpi_rd, if_neg (by omega), xpi_rd, if_neg (by omega)]; exact e0, fun q hq => by rw [xpi_rd, if_neg (by omega), xpi_rd, if_neg (by omega), xpi_rd, if_neg (by omega)]; exact e3 q hq, ⟨by decide, r1.2.1, r1.2.2.cp r1.2.1 (fun k hk => ?_)⟩, by rw [eU0 7 (by decide) (by decide)]; exact e7⟩, ⟨n, g0, by rw [eU0 10 (by decide) (by decide)]; exact g1, by rw [xpi_rd, if_neg (by omega), xpi_rd, if_neg (by omega), xpi_rd, if_pos (by omega)]; rfl, Nat.zero_le _, fun i Q hQ => (by cases hQ)⟩, fun q hq => ⟨?_, fun Q hQ => (by cases hQ)⟩, a5.to (eU0 13 (by decide) (by decide)) (eU 118 (by decide) (by decide) (by decide) (by decide)) (eU 119 (by decide) (by decide) (by decide) (by decide)) (eU 120 (by decide) (by decide) (by decide) (by decide)), by show u.2 110 17 = _; rw [e6]; exact a6⟩, mo.tr (FMo.of (fun c hc => eU c (by omega) (by omega) (by omega) (by omega)) e6)⟩
        · rw [xpi_rd, if_neg (by omega), xpi_rd, if_neg (by omega), xpi_rd, if_neg (by omega), Nat.mul_zero, Nat.zero_add]
          exact e1 k (by omega)
        · have : q = 0 ∨ q = 1 := by omega
          rcases this with q0 | q0
          · subst q0
            rw [xpi_rd, if_neg (by omega), xpi_rd, if_pos (by omega)]
            show nI 0 &&& 1 = bI false
            decide
          · subst q0
            rw [xpi_rd, if_pos (by omega)]
            show nI 0 &&& 1 = bI false
            decide
      | succ k ih =>
        intro i u hi e0 e1 e2 e3 e4 e5 e6
        refine xe_iload_n dX11_board_50 rfl ?_
        refine xe_bipush (v := nI 53) dX11_board_51 (by decide) ?_
        refine xe_icmp_ge 77 dX11_board_53 (by decide) (fun c => absurd c (nI_ge (by omega) (by omega))) (fun _ => ?_)
        refine xe_aload_n dX11_board_56 rfl ?_
        refine e_getA (G := GS) (r := 110) dX11_board_57 fdX11_13 rfl gk_110 gr_110_2 ?_
        refine xe_iload_n dX11_board_60 rfl ?_
        refine xe_aload_n dX11_board_61 rfl ?_
        refine e_getA (G := GS) (r := 110) dX11_board_62 fdX11_13 rfl gk_110 gr_110_2 ?_
        refine xe_bipush (v := nI 53) dX11_board_65 (by decide) ?_
        refine xe_iload_n dX11_board_67 rfl ?_
        first | refine xn_iadd dX11_board_68 ?_ | refine xe_iadd dX11_board_68 ?_
        refine e_iald (G := GS) (a := 112) dX11_board_69 gk_112 gn_112 (by omega) (by decide) (e2 (53 + i) (by omega)) ?_
        refine e_iast (G := GS) (a := 112) dX11_board_70 gk_112 gn_112 (by omega) (by decide) ?_
        refine xn_inc dX11_board_71 rfl (by decide) ?_
        refine xe_goto 50 dX11_board_74 (by decide) ?_
        refine ih (i + 1) _ (by omega) (by rw [xpi_rd, if_neg (by omega)]; exact e0) (fun q hq => ?_) (fun q hq => by rw [xpi_rd, if_neg (by omega)]; exact e2 q hq) (fun q hq => by rw [xpi_rd, if_neg (by omega)]; exact e3 q hq) (fun c c1 c2 c3 => by rw [xpi_ne _ _ _ c3]; exact e4 c c1 c2 c3) (fun q hq => by rw [xpi_rd, if_neg (by omega)]; exact e5 q hq) e6
        by_cases c : q = i
        · subst c
          rw [xpi_rd, if_pos (by omega)]
        · rw [xpi_rd, if_neg (by omega)]
          exact e1 q (by omega)
    have key1 : ∀ k i (u : xS), i + k = P.1 → u.1 110 0 = nI P.1 → (∀ q, q < i → u.1 111 q = nI (P.2.1 q)) → (∀ c, c ≠ 110 → c ≠ 111 → u.1 c = t.1 c) → (∀ q, q ≠ 0 → u.1 110 q = t.1 110 q) → u.2 = t.2 → Ev xs L mX11_board 22 [.ref 110, .int (nI i)] [] GS u GS (pM σ (nI P.1, (A.1, P, [], fun _ => none, A.2.2.2.2))) := by
      intro k
      induction k with
      | zero =>
        intro i u hi e0 e3 e4 e5 e6
        refine xe_iload_n dX11_board_22 rfl ?_
        refine xe_aload_n dX11_board_23 rfl ?_
        refine e_getI (G := GS) (r := 110) dX11_board_24 fdX11_115 rfl gk_110 e0 ?_
        refine xe_icmp_ge 48 dX11_board_27 (by decide) (fun _ => ?_) (fun c => absurd (nI_le (by omega) (by omega)) c)
        refine xe_iconst (v := nI 0) dX11_board_48 (by decide) ?_
        refine xe_istore_n dX11_board_49 (by decide) ?_
        exact key2 53 0 u (by omega) e0 (fun q hq => absurd hq (Nat.not_lt_zero _)) (fun q _ => by rw [e4 112 (by decide) (by decide)]) (fun q hq => e3 q (by omega)) (fun c c1 c2 c3 => e4 c c1 c2) e5 e6
      | succ k ih =>
        intro i u hi e0 e3 e4 e5 e6
        refine xe_iload_n dX11_board_22 rfl ?_
        refine xe_aload_n dX11_board_23 rfl ?_
        refine e_getI (G := GS) (r := 110) dX11_board_24 fdX11_115 rfl gk_110 e0 ?_
        refine xe_icmp_ge 48 dX11_board_27 (by decide) (fun c => absurd c (nI_ge (by omega) (by omega))) (fun _ => ?_)
        refine xe_aload_n dX11_board_30 rfl ?_
        refine e_getA (G := GS) (r := 110) dX11_board_31 fdX11_7 rfl gk_110 gr_110_1 ?_
        refine xe_iload_n dX11_board_34 rfl ?_
        refine xe_aload_n dX11_board_35 rfl ?_
        refine e_getA (G := GS) (r := 110) dX11_board_36 fdX11_16 rfl gk_110 gr_110_3 ?_
        refine xe_iload_n dX11_board_39 rfl ?_
        refine e_iald (G := GS) (a := 113) dX11_board_40 gk_113 gn_113 (by omega) (by decide) (show _ = nI (P.2.1 i) by rw [e4 113 (by decide) (by decide)]; exact r3 i (by omega)) ?_
        refine e_iast (G := GS) (a := 111) dX11_board_41 gk_111 gn_111 (by omega) (by decide) ?_
        refine xn_inc dX11_board_42 rfl (by decide) ?_
        refine xe_goto 22 dX11_board_45 (by decide) ?_
        refine ih (i + 1) _ (by omega) (by rw [xpi_rd, if_neg (by omega)]; exact e0) (fun q hq => ?_) (fun c c1 c2 => by rw [xpi_ne _ _ _ c2]; exact e4 c c1 c2) (fun q hq => by rw [xpi_rd, if_neg (by omega)]; exact e5 q hq) e6
        by_cases c : q = i
        · subst c
          rw [xpi_rd, if_pos (by omega)]
        · rw [xpi_rd, if_neg (by omega)]
          exact e3 q (by omega)
    refine xe_aload_n dX11_board_12 rfl ?_
    refine xe_aload_n dX11_board_13 rfl ?_
    refine e_getI (G := GS) (r := 110) dX11_board_14 fdX11_86 rfl gk_110 r2 ?_
    refine xe_putI (G := GS) (r := 110) dX11_board_17 fdX11_115 rfl gk_110 ?_
    refine xe_iconst (v := nI 0) dX11_board_20 (by decide) ?_
    refine xe_istore_n dX11_board_21 (by decide) ?_
    exact key1 P.1 0 _ (by omega) (by rw [xpi_rd, if_pos (by omega)]) (fun q hq => absurd hq (Nat.not_lt_zero _)) (fun c c1 c2 => by rw [xpi_ne _ _ _ c1]) (fun q hq => by rw [xpi_rd, if_neg (by omega)]) rfl
  · rw [if_neg cc]
    refine xe_icmp_eq 12 dX11_board_6 (by decide) (fun c => absurd c cc) (fun _ => ?_)
    refine xe_bipush (v := -3) dX11_board_9 (by decide) ?_
    exact xe_iret dX11_board_11 rfl ⟨rfl, h.q (FQ.fr f) e7, (FQ.fr f).mo⟩
theorem M_thread (h : IM σ A) {x w : Int32} : Cl xs L mX11_thread [.ref 110, .int x, .int w] GS σ GS (pM σ (aThread A x w, A)) := by
  show Ev xs L mX11_thread 0 [.ref 110, .int x, .int w] [] GS σ GS _
  obtain ⟨hT, hK, hl, hr⟩ := h.2.1
  have hkd := h.2.1.kd 0
  have h4 := hl.2.1.1
  refine xe_aload_n dX11_thread_0 rfl ?_
  refine xe_iload_n dX11_thread_1 rfl ?_
  refine e_callVp (G := GS) (r := 110) (M_isThread (by omega) hT) dX11_thread_2 kvX11_159 gk_110 rfl ?_
  refine xz_if_ne 10 dX11_thread_5 (by decide) (fun c => ?_) (fun c => ?_)
  · obtain ⟨j, hj, rfl⟩ := hasT_of (by omega) c
    have e0 : aThread A (nI j) w = thR A.2.1 j w := by unfold aThread; rw [thQ_n (by omega) hj]
    rw [e0]
    unfold thR
    refine xe_iload_n dX11_thread_10 rfl ?_
    cases hs : sel w 5 with
    | none =>
      refine xe_tableOut 97 dX11_thread_11 (sel_none hs) (by decide) ?_
      refine xe_bipush (v := -2) dX11_thread_97 (by decide) ?_
      exact xe_iret dX11_thread_99 rfl (pM_0 h)
    | some k =>
      obtain ⟨hk, rfl⟩ := sel_some (by decide) hs
      match k, hk with
      | 0, _ =>
        refine xe_tableIn 48 dX11_thread_11 (by decide) (by decide) rfl (by decide) ?_
        refine xe_aload_n dX11_thread_48 rfl ?_
        refine e_getA (G := GS) (r := 110) dX11_thread_49 fdX11_13 rfl gk_110 gr_110_2 ?_
        refine xe_iload_n dX11_thread_52 rfl ?_
        refine e_iald (G := GS) (a := 112) dX11_thread_53 gk_112 gn_112 (by omega) (by decide) (show _ = nI (A.2.1.2.2.1 j) by have := hl.2.2.1 j hj; rw [Nat.mul_zero, Nat.zero_add] at this; exact this) ?_
        exact xe_iret dX11_thread_54 rfl (pM_0 h)
      | 1, _ =>
        refine xe_tableIn 55 dX11_thread_11 (by decide) (by decide) rfl (by decide) ?_
        refine xe_aload_n dX11_thread_55 rfl ?_
        refine e_getA (G := GS) (r := 110) dX11_thread_56 fdX11_7 rfl gk_110 gr_110_1 ?_
        refine xe_iload_n dX11_thread_59 rfl ?_
        refine e_iald (G := GS) (a := 111) dX11_thread_60 gk_111 gn_111 (by omega) (by decide) (hK j hj) ?_
        exact xe_iret dX11_thread_61 rfl (pM_0 h)
      | 2, _ =>
        refine xe_tableIn 62 dX11_thread_11 (by decide) (by decide) rfl (by decide) ?_
        refine xe_aload_n dX11_thread_62 rfl ?_
        refine xe_iconst (v := nI 0) dX11_thread_63 (by decide) ?_
        refine xe_iload_n dX11_thread_64 rfl ?_
        refine e_callVp (G := GS) (r := 110) (M_stretchesOf hl (by omega)) dX11_thread_65 kvX11_137 gk_110 rfl ?_
        exact xe_iret dX11_thread_68 rfl (pM_0 h)
      | 3, _ =>
        refine xe_tableIn 69 dX11_thread_11 (by decide) (by decide) rfl (by decide) ?_
        refine xe_aload_n dX11_thread_69 rfl ?_
        refine xe_iconst (v := nI 0) dX11_thread_70 (by decide) ?_
        refine xe_iload_n dX11_thread_71 rfl ?_
        refine e_callVp (G := GS) (r := 110) (M_longOf hl (by omega)) dX11_thread_72 kvX11_147 gk_110 rfl ?_
        exact xe_iret dX11_thread_75 rfl (pM_0 h)
      | 4, _ =>
        refine xe_tableIn 76 dX11_thread_11 (by decide) (by decide) rfl (by decide) ?_
        refine xe_aload_n dX11_thread_76 rfl ?_
        refine xe_iload_n dX11_thread_77 rfl ?_
        refine e_callVp (G := GS) (r := 110) (M_mayGo hl hkd hj) dX11_thread_78 kvX11_176 gk_110 rfl ?_
        exact xe_iret dX11_thread_81 rfl (pM_0 h)
      | 5, _ =>
        refine xe_tableIn 82 dX11_thread_11 (by decide) (by decide) rfl (by decide) ?_
        refine xe_aload_n dX11_thread_82 rfl ?_
        refine xe_iconst (v := nI 0) dX11_thread_83 (by decide) ?_
        refine xe_iload_n dX11_thread_84 rfl ?_
        refine e_callVp (G := GS) (r := 110) (M_canUnwind hl hT (by omega)) dX11_thread_85 kvX11_179 gk_110 rfl ?_
        refine xz_if_eq 95 dX11_thread_88 (by decide) (fun d => ?_) (fun d => ?_)
        · refine xe_iconst (v := nI 0) dX11_thread_95 (by decide) ?_
          exact xe_iret dX11_thread_96 rfl (pM_e h (by rw [d]; rfl))
        · refine xe_iconst (v := nI 1) dX11_thread_91 (by decide) ?_
          refine xe_goto 96 dX11_thread_92 (by decide) ?_
          exact xe_iret dX11_thread_96 rfl (pM_e h (by rw [d]; rfl))
      | k + 6, hk => omega
  · refine xe_iconst (v := -1) dX11_thread_8 (by decide) ?_
    exact xe_iret dX11_thread_9 rfl (pM_e h (by unfold aThread; rw [thQ_f c]))
theorem M_stretch (h : IM σ A) {x w : Int32} : Cl xs L mX11_stretch [.ref 110, .int x, .int w] GS σ GS (pM σ (aStretch A x w, A)) := by
  show Ev xs L mX11_stretch 0 [.ref 110, .int x, .int w, .null] [] GS σ GS _
  obtain ⟨hT, hK, hl, hr⟩ := h.2.1
  have h48 := hl.2.1.len
  refine xe_iload_n dX11_stretch_0 rfl ?_
  refine xe_i2l dX11_stretch_1 ?_
  refine xe_lconst (v := lN 0) dX11_stretch_2 (by decide) ?_
  refine xe_aload_n dX11_stretch_3 rfl ?_
  refine xe_iconst (v := nI 0) dX11_stretch_4 (by decide) ?_
  refine e_callVp (G := GS) (r := 110) (M_many hl) dX11_stretch_5 kvX11_121 gk_110 rfl ?_
  refine xe_iconst (v := nI 1) dX11_stretch_8 (by decide) ?_
  refine xe_isub dX11_stretch_9 ?_
  refine xe_i2l dX11_stretch_10 ?_
  refine e_callSp (M_in) dX11_stretch_11 ksX11_49 rfl ?_
  rw [in_hasT (by omega)]
  refine xz_if_ne 19 dX11_stretch_14 (by decide) (fun c => ?_) (fun c => ?_)
  · obtain ⟨i, hi, rfl⟩ := hasT_of (by omega) c
    have hs : A.2.1.2.2.2[i]? = some A.2.1.2.2.2[i] := List.getElem?_eq_getElem hi
    generalize A.2.1.2.2.2[i] = s at hs
    have e0 : aStretch A (nI i) w = stR A.2.1.2.2.2 i s w := by unfold aStretch; rw [thQ_n (by omega) hi]; dsimp only; rw [hs]
    rw [e0]
    unfold stR
    obtain ⟨o1, o2, o3, o4⟩ := hl.so hs
    refine xe_aload_n dX11_stretch_19 rfl ?_
    refine xe_iconst (v := nI 0) dX11_stretch_20 (by decide) ?_
    refine xe_iload_n dX11_stretch_21 rfl ?_
    refine e_callVp (G := GS) (r := 110) (M_laid hl hs) dX11_stretch_22 kvX11_124 gk_110 rfl ?_
    refine xe_istore_n dX11_stretch_25 (by decide) ?_
    refine xe_iload_n dX11_stretch_26 rfl ?_
    cases hw : sel w 5 with
    | none =>
      refine xe_tableOut 108 dX11_stretch_27 (sel_none hw) (by decide) ?_
      refine xe_bipush (v := -2) dX11_stretch_108 (by decide) ?_
      exact xe_iret dX11_stretch_110 rfl (pM_0 h)
    | some k =>
      obtain ⟨hk, rfl⟩ := sel_some (by decide) hw
      match k, hk with
      | 0, _ =>
        refine xe_tableIn 64 dX11_stretch_27 (by decide) (by decide) rfl (by decide) ?_
        refine xe_iload_n dX11_stretch_64 rfl ?_
        refine e_callSp (M_threadOf (hl.so hs)) dX11_stretch_65 ksX11_127 rfl ?_
        exact xe_iret dX11_stretch_68 rfl (pM_0 h)
      | 1, _ =>
        refine xe_tableIn 69 dX11_stretch_27 (by decide) (by decide) rfl (by decide) ?_
        refine xe_iload_n dX11_stretch_69 rfl ?_
        refine e_callSp (M_fromOf (hl.so hs)) dX11_stretch_70 ksX11_61 rfl ?_
        exact xe_iret dX11_stretch_73 rfl (pM_0 h)
      | 2, _ =>
        refine xe_tableIn 74 dX11_stretch_27 (by decide) (by decide) rfl (by decide) ?_
        refine xe_iload_n dX11_stretch_74 rfl ?_
        refine e_callSp (M_toOf (hl.so hs)) dX11_stretch_75 ksX11_65 rfl ?_
        exact xe_iret dX11_stretch_78 rfl (pM_0 h)
      | 3, _ =>
        refine xe_tableIn 79 dX11_stretch_27 (by decide) (by decide) rfl (by decide) ?_
        refine xe_aload_n dX11_stretch_79 rfl ?_
        refine xe_iconst (v := nI 0) dX11_stretch_80 (by decide) ?_
        refine xe_bipush (v := -9) dX11_stretch_81 (by decide) ?_
        refine xe_iload_n dX11_stretch_83 rfl ?_
        refine e_callSp (M_fromOf (hl.so hs)) dX11_stretch_84 ksX11_61 rfl ?_
        refine xe_iload_n dX11_stretch_87 rfl ?_
        refine e_callSp (M_toOf (hl.so hs)) dX11_stretch_88 ksX11_65 rfl ?_
        refine e_callVp (G := GS) (r := 110) (M_crossedBy hl (p := fun _ => true) o2 o3 (Or.inl ⟨rfl, fun _ => rfl⟩)) dX11_stretch_91 kvX11_143 gk_110 rfl ?_
        exact xe_iret dX11_stretch_94 rfl (pM_0 h)
      | 4, _ =>
        refine xe_tableIn 95 dX11_stretch_27 (by decide) (by decide) rfl (by decide) ?_
        refine xe_aload_n dX11_stretch_95 rfl ?_
        refine xe_iconst (v := nI 0) dX11_stretch_96 (by decide) ?_
        refine xe_iload_n dX11_stretch_97 rfl ?_
        refine e_callVp (G := GS) (r := 110) (M_overOf hl hs) dX11_stretch_98 kvX11_165 gk_110 rfl ?_
        exact xe_iret dX11_stretch_101 rfl (pM_0 h)
      | 5, _ =>
        refine xe_tableIn 102 dX11_stretch_27 (by decide) (by decide) rfl (by decide) ?_
        refine xe_aload_n dX11_stretch_102 rfl ?_
        refine xe_iload_n dX11_stretch_103 rfl ?_
        refine e_callV (G := GS) (r := 110) (M_aboveOf hl hs) dX11_stretch_104 kvX11_182 gk_110 rfl ?_
        rintro v t ⟨rfl, f⟩
        exact xe_iret dX11_stretch_107 rfl ⟨rfl, h.q (FQ.fa f (Or.inl rfl)) (by rw [f.1 110 (by decide)]; exact hr), (FQ.fa f (Or.inl rfl)).mo⟩
      | k + 6, hk => omega
  · refine xe_iconst (v := -1) dX11_stretch_17 (by decide) ?_
    exact xe_iret dX11_stretch_18 rfl (pM_e h (by unfold aStretch; rw [thQ_f c]))
def FK (σ t : xS) : Prop := (∀ c, c ≠ 110 → c ≠ 116 → t.1 c = σ.1 c) ∧ (∀ k, k ≠ 9 → k ≠ 10 → t.1 110 k = σ.1 110 k) ∧ t.2 = σ.2
theorem M_keepAct {P : xP} {ac : List xP} (h : Bm σ P) (ha : Ac σ P ac) : Cl xs L mX11_keepAct [.ref 110] GS σ GS (fun w t => w = none ∧ Ac t P ((P :: ac).take 14) ∧ FK σ t) := by
  show Ev xs L mX11_keepAct 0 [.ref 110, .null] [] GS σ GS _
  obtain ⟨n, n14, g1, g2, g3, g4⟩ := ha
  have hp := h.2.2.1.2.1
  have key : ∀ k i (t : xS), i + k = 53 → (∀ q, q < i → t.1 116 (53 * n + q) = σ.1 112 q) → (∀ q, (q < 53 * n ∨ 53 * n + 53 ≤ q) → t.1 116 q = σ.1 116 q) → (∀ c, c ≠ 116 → t.1 c = σ.1 c) → t.2 = σ.2 → Ev xs L mX11_keepAct 2 [.ref 110, .int (nI i)] [] GS t GS (fun w t => w = none ∧ Ac t P ((P :: ac).take 14) ∧ FK σ t) := by
    intro k
    induction k with
    | zero =>
      intro i t hi e1 e2 e3 e4
      have fin : ∀ (m : Nat) (lv : List Value), m = ((P :: ac).take 14).length → Ev xs L mX11_keepAct 68 lv [.int (nI m), .ref 110] GS (xpi t 110 10 (nI ((n + 1) % 14))) GS (fun w t => w = none ∧ Ac t P ((P :: ac).take 14) ∧ FK σ t) := by
        intro m lv em
        refine xe_putI (G := GS) (r := 110) dX11_keepAct_68 fdX11_118 rfl gk_110 ?_
        refine xe_vret dX11_keepAct_71 rfl ⟨rfl, ⟨(n + 1) % 14, Nat.mod_lt _ (by decide), by rw [xpi_rd, if_neg (by omega), xpi_rd, if_pos (by omega)], by rw [xpi_rd, if_pos (by omega), em], by rw [List.length_take]; exact Nat.min_le_left .., fun i Q hQ => ?_⟩, fun c c1 c2 => by rw [xpi_ne _ _ _ c1, xpi_ne _ _ _ c1]; exact e3 c c2, fun k k1 k2 => by rw [xpi_rd, if_neg (by omega), xpi_rd, if_neg (by omega), e3 110 (by decide)], e4⟩
        have e6 : (xpi (xpi t 110 10 (nI ((n + 1) % 14))) 110 9 (nI m)).1 116 = t.1 116 := by rw [xpi_ne _ _ _ (by decide), xpi_ne _ _ _ (by decide)]
        rw [e6]
        rw [List.getElem?_take] at hQ
        by_cases hi14 : i < 14
        · rw [if_pos hi14] at hQ
          cases i with
          | zero =>
            have hQ : some P = some Q := hQ
            cases hQ
            refine ⟨hp, rfl, rfl, h.2.2.1.2.2.cp hp (fun k hk => ?_)⟩
            rw [show ((n + 1) % 14 + 13 - 0) % 14 = n by omega, e1 k (by omega), Nat.mul_zero, Nat.zero_add]
          | succ i =>
            have hQ : ac[i]? = some Q := hQ
            obtain ⟨q1, q2, q3, q4⟩ := g4 i Q hQ
            refine ⟨q1, q2, q3, q4.cp q1 (fun k hk => ?_)⟩
            rw [show ((n + 1) % 14 + 13 - (i + 1)) % 14 = (n + 13 - i) % 14 by omega]
            exact e2 _ (by omega)
        · rw [if_neg hi14] at hQ
          cases hQ
      refine xe_iload_n dX11_keepAct_2 rfl ?_
      refine xe_bipush (v := nI 53) dX11_keepAct_3 (by decide) ?_
      refine xe_icmp_ge 34 dX11_keepAct_5 (by decide) (fun _ => ?_) (fun c => absurd (nI_le (by omega) (by omega)) c)
      refine xe_aload_n dX11_keepAct_34 rfl ?_
      refine xe_aload_n dX11_keepAct_35 rfl ?_
      refine e_getI (G := GS) (r := 110) dX11_keepAct_36 fdX11_185 rfl gk_110 (show _ = nI n by rw [e3 110 (by decide)]; exact g1) ?_
      refine xe_iconst (v := nI 1) dX11_keepAct_39 (by decide) ?_
      first | refine xn_iadd dX11_keepAct_40 ?_ | refine xe_iadd dX11_keepAct_40 ?_
      refine xe_bipush (v := nI 14) dX11_keepAct_41 (by decide) ?_
      refine xn_irem dX11_keepAct_43 (by omega) (by decide) (by decide) ?_
      refine xe_putI (G := GS) (r := 110) dX11_keepAct_44 fdX11_185 rfl gk_110 ?_
      refine xe_aload_n dX11_keepAct_47 rfl ?_
      refine xe_aload_n dX11_keepAct_48 rfl ?_
      refine e_getI (G := GS) (r := 110) dX11_keepAct_49 fdX11_118 rfl gk_110 (show _ = nI ac.length by rw [xpi_rd, if_neg (by omega), e3 110 (by decide)]; exact g2) ?_
      refine xe_bipush (v := nI 14) dX11_keepAct_52 (by decide) ?_
      refine xn_icmp_ge 66 dX11_keepAct_54 (by decide) (by omega) (by omega) (fun c => ?_) (fun c => ?_)
      · refine xe_bipush (v := nI 14) dX11_keepAct_66 (by decide) ?_
        refine fin 14 _ ?_
        rw [List.length_take]
        show 14 = min 14 (ac.length + 1)
        omega
      · refine xe_aload_n dX11_keepAct_57 rfl ?_
        refine e_getI (G := GS) (r := 110) dX11_keepAct_58 fdX11_118 rfl gk_110 (show _ = nI ac.length by rw [xpi_rd, if_neg (by omega), e3 110 (by decide)]; exact g2) ?_
        refine xe_iconst (v := nI 1) dX11_keepAct_61 (by decide) ?_
        first | refine xn_iadd dX11_keepAct_62 ?_ | refine xe_iadd dX11_keepAct_62 ?_
        refine xe_goto 68 dX11_keepAct_63 (by decide) ?_
        refine fin (ac.length + 1) _ ?_
        rw [List.length_take]
        show ac.length + 1 = min 14 (ac.length + 1)
        omega
    | succ k ih =>
      intro i t hi e1 e2 e3 e4
      refine xe_iload_n dX11_keepAct_2 rfl ?_
      refine xe_bipush (v := nI 53) dX11_keepAct_3 (by decide) ?_
      refine xe_icmp_ge 34 dX11_keepAct_5 (by decide) (fun c => absurd c (nI_ge (by omega) (by omega))) (fun _ => ?_)
      refine xe_aload_n dX11_keepAct_8 rfl ?_
      refine e_getA (G := GS) (r := 110) dX11_keepAct_9 fdX11_25 rfl gk_110 gr_110_11 ?_
      refine xe_bipush (v := nI 53) dX11_keepAct_12 (by decide) ?_
      refine xe_aload_n dX11_keepAct_14 rfl ?_
      refine e_getI (G := GS) (r := 110) dX11_keepAct_15 fdX11_185 rfl gk_110 (show _ = nI n by rw [e3 110 (by decide)]; exact g1) ?_
      first | refine xn_imul dX11_keepAct_18 ?_ | refine xe_imul dX11_keepAct_18 ?_
      refine xe_iload_n dX11_keepAct_19 rfl ?_
      first | refine xn_iadd dX11_keepAct_20 ?_ | refine xe_iadd dX11_keepAct_20 ?_
      refine xe_aload_n dX11_keepAct_21 rfl ?_
      refine e_getA (G := GS) (r := 110) dX11_keepAct_22 fdX11_13 rfl gk_110 gr_110_2 ?_
      refine xe_iload_n dX11_keepAct_25 rfl ?_
      refine e_iald (G := GS) (a := 112) dX11_keepAct_26 gk_112 gn_112 (by omega) (by decide) (show _ = σ.1 112 i by rw [e3 112 (by decide)]) ?_
      refine e_iast (G := GS) (a := 116) dX11_keepAct_27 gk_116 gn_116 (by omega) (by decide) ?_
      refine xn_inc dX11_keepAct_28 rfl (by decide) ?_
      refine xe_goto 2 dX11_keepAct_31 (by decide) ?_
      refine ih (i + 1) _ (by omega) (fun q hq => ?_) (fun q hq => by rw [xpi_rd, if_neg (by omega)]; exact e2 q hq) (fun c c1 => by rw [xpi_ne _ _ _ c1]; exact e3 c c1) e4
      by_cases c : q = i
      · subst c
        rw [xpi_rd, if_pos (by omega)]
      · rw [xpi_rd, if_neg (by omega)]
        exact e1 q (by omega)
  refine xe_iconst (v := nI 0) dX11_keepAct_0 (by decide) ?_
  refine xe_istore_n dX11_keepAct_1 (by decide) ?_
  exact key 53 0 σ (by omega) (fun q hq => absurd hq (Nat.not_lt_zero _)) (fun _ _ => rfl) (fun _ _ => rfl) rfl
theorem Bm.fk {t : xS} {P : xP} (h : Bm σ P) (f : FK σ t) : Bm t P := h.to (f.2.1 0 (by decide) (by decide)) (f.1 111 (by decide) (by decide)) (fun k _ => by rw [f.1 112 (by decide) (by decide)]) (by rw [f.2.1 7 (by decide) (by decide)]; exact h.2.2.2)
theorem IM_act {t u : xS} {Q : xP} (h : IM σ A) (ht : Ac t A.2.1 ((A.2.1 :: A.2.2.1).take 14)) (ft : FK σ t) (hu : Lv u 0 Q) (fu : FL t u 0) (q1 : A.2.1.1 = Q.1) (q2 : A.2.1.2.1 = Q.2.1) : IM u (acQ A Q) ∧ FMo σ u := by
  have e : ∀ c, c ≠ 110 → c ≠ 116 → c ≠ 112 → u.1 c = σ.1 c := fun c c1 c2 c3 => (fu.1 c c3).trans (ft.1 c c1 c2)
  have e0 : ∀ k, k ≠ 9 → k ≠ 10 → u.1 110 k = σ.1 110 k := fun k k1 k2 => by rw [fu.1 110 (by decide)]; exact ft.2.1 k k1 k2
  have e2 : u.2 = σ.2 := fu.2.2.trans ft.2.2
  obtain ⟨a1, ⟨b1, b2, b3, b4⟩, a3, a4, a5, a6⟩ := h
  refine ⟨⟨a1.to (e0 6 (by decide) (by decide)) (e 114 (by decide) (by decide) (by decide)), ⟨?_, fun t ht => ?_, hu, by rw [e0 7 (by decide) (by decide)]; exact b4⟩, ht.to q1 q2 (by rw [fu.1 110 (by decide)]) (by rw [fu.1 110 (by decide)]) (fu.1 116 (by decide)), a4.to q1 q2 (e 121 (by decide) (by decide) (by decide)) (e 122 (by decide) (by decide) (by decide)), a5.to (e0 13 (by decide) (by decide)) (e 118 (by decide) (by decide) (by decide)) (e 119 (by decide) (by decide) (by decide)) (e 120 (by decide) (by decide) (by decide)), by rw [e2]; exact a6⟩, FMo.of (fun c hc => e c (by omega) (by omega) (by omega)) e2⟩
  · rw [e0 0 (by decide) (by decide), b1]
    show nI A.2.1.1 = nI Q.1
    rw [q1]
  · show u.1 111 t = nI (Q.2.1 t)
    have ht : t < Q.1 := ht
    rw [e 111 (by decide) (by decide) (by decide), ← q2]
    exact b2 t (by rw [q1]; exact ht)
theorem M_wind (h : IM σ A) {x y : Int32} : Cl xs L mX11_wind [.ref 110, .int x, .int y] GS σ GS (pM σ (aWind A x y)) := by
  show Ev xs L mX11_wind 0 [.ref 110, .int x, .int y] [] GS σ GS _
  obtain ⟨hT, hK, hl, hr⟩ := h.2.1
  have hkd := h.2.1.kd 0
  have h4 := hl.2.1.1
  unfold aWind
  refine xe_aload_n dX11_wind_0 rfl ?_
  refine xe_iload_n dX11_wind_1 rfl ?_
  refine e_callVp (G := GS) (r := 110) (M_isThread (by omega) hT) dX11_wind_2 kvX11_159 gk_110 rfl ?_
  refine xz_if_eq 15 dX11_wind_5 (by decide) (fun c => ?_) (fun c => ?_)
  · rw [thQ_f c]
    refine xe_iconst (v := -1) dX11_wind_15 (by decide) ?_
    exact xe_iret dX11_wind_16 rfl (pM_0 h)
  obtain ⟨j, hj, rfl⟩ := hasT_of (by omega) c
  rw [thQ_n (by omega) hj]
  dsimp only
  refine xe_iload_n dX11_wind_8 rfl ?_
  refine e_callSp (M_isNail) dX11_wind_9 ksX11_133 rfl ?_
  refine xz_if_ne 17 dX11_wind_12 (by decide) (fun c2 => ?_) (fun c2 => ?_)
  · have c2 := nout c2
    rw [if_neg (by rw [c2]; decide)]
    obtain ⟨n, -, hn, rfl⟩ := outQ_of (by decide) (by decide) c2
    rw [nI_clamp (by omega)]
    refine xe_aload_n dX11_wind_17 rfl ?_
    refine xe_iconst (v := nI 0) dX11_wind_18 (by decide) ?_
    refine xe_iload_n dX11_wind_19 rfl ?_
    refine xe_iload_n dX11_wind_20 rfl ?_
    refine e_callVp (G := GS) (r := 110) (M_mayWind hl hkd hj (by omega)) dX11_wind_21 kvX11_105 gk_110 rfl ?_
    refine xz_if_ne 30 dX11_wind_24 (by decide) (fun c3 => ?_) (fun c3 => ?_)
    · rw [if_pos c3]
      refine xe_aload_n dX11_wind_30 rfl ?_
      refine e_callV (G := GS) (r := 110) (M_keepAct h.2.1 h.2.2.1) dX11_wind_31 kvX11_188 gk_110 rfl ?_
      rintro v t ⟨rfl, ht, ft⟩
      refine xe_aload_n dX11_wind_34 rfl ?_
      refine xe_iconst (v := nI 0) dX11_wind_35 (by decide) ?_
      refine xe_iload_n dX11_wind_36 rfl ?_
      refine xe_iload_n dX11_wind_37 rfl ?_
      refine e_callV (G := GS) (r := 110) (M_windOn (h.2.1.fk ft).2.2.1 c3) dX11_wind_38 kvX11_108 gk_110 rfl ?_
      rintro v u ⟨rfl, hu, fu⟩
      exact xe_iret dX11_wind_41 rfl ⟨rfl, IM_act h ht ft hu fu rfl rfl⟩
    · rw [if_neg (by rw [c3]; decide)]
      refine xe_bipush (v := -3) dX11_wind_27 (by decide) ?_
      exact xe_iret dX11_wind_29 rfl (pM_0 h)
  · rw [if_pos (yout c2)]
    refine xe_iconst (v := -1) dX11_wind_15 (by decide) ?_
    exact xe_iret dX11_wind_16 rfl (pM_0 h)
theorem M_unwind (h : IM σ A) {x : Int32} : Cl xs L mX11_unwind [.ref 110, .int x] GS σ GS (pM σ (aUnwind A x)) := by
  show Ev xs L mX11_unwind 0 [.ref 110, .int x] [] GS σ GS _
  obtain ⟨hT, hK, hl, hr⟩ := h.2.1
  have h4 := hl.2.1.1
  unfold aUnwind
  refine xe_aload_n dX11_unwind_0 rfl ?_
  refine xe_iload_n dX11_unwind_1 rfl ?_
  refine e_callVp (G := GS) (r := 110) (M_isThread (by omega) hT) dX11_unwind_2 kvX11_159 gk_110 rfl ?_
  refine xz_if_ne 10 dX11_unwind_5 (by decide) (fun c => ?_) (fun c => ?_)
  · obtain ⟨j, hj, rfl⟩ := hasT_of (by omega) c
    rw [thQ_n (by omega) hj]
    dsimp only
    refine xe_aload_n dX11_unwind_10 rfl ?_
    refine xe_iconst (v := nI 0) dX11_unwind_11 (by decide) ?_
    refine xe_iload_n dX11_unwind_12 rfl ?_
    refine e_callVp (G := GS) (r := 110) (M_canUnwind hl hT (by omega)) dX11_unwind_13 kvX11_179 gk_110 rfl ?_
    refine xz_if_ne 22 dX11_unwind_16 (by decide) (fun c3 => ?_) (fun c3 => ?_)
    · obtain ⟨i, s, hla, hs⟩ := mayU_some c3
      have e : doU A.2.1 j = some (uwd A.2.1 j i s) := by unfold doU; rw [if_pos c3, hla]; dsimp only; rw [hs]
      rw [e]
      refine xe_aload_n dX11_unwind_22 rfl ?_
      refine e_callV (G := GS) (r := 110) (M_keepAct h.2.1 h.2.2.1) dX11_unwind_23 kvX11_188 gk_110 rfl ?_
      rintro v t ⟨rfl, ht, ft⟩
      refine xe_aload_n dX11_unwind_26 rfl ?_
      refine xe_iconst (v := nI 0) dX11_unwind_27 (by decide) ?_
      refine xe_iload_n dX11_unwind_28 rfl ?_
      refine e_callV (G := GS) (r := 110) (M_unwindOn (h.2.1.fk ft).2.2.1 hla hs) dX11_unwind_29 kvX11_191 gk_110 rfl ?_
      rintro v u ⟨rfl, hu, fu⟩
      refine xe_aload_n dX11_unwind_32 rfl ?_
      refine e_getA (G := GS) (r := 110) dX11_unwind_33 fdX11_13 rfl gk_110 gr_110_2 ?_
      refine xe_iload_n dX11_unwind_36 rfl ?_
      refine e_iald (G := GS) (a := 112) dX11_unwind_37 gk_112 gn_112 (by omega) (by decide) (show _ = nI ((uwd A.2.1 j i s).2.2.1 j) by have := hu.2.2.1 j hj; rw [Nat.mul_zero, Nat.zero_add] at this; exact this) ?_
      exact xe_iret dX11_unwind_38 rfl ⟨rfl, IM_act h ht ft hu fu rfl rfl⟩
    · have e : doU A.2.1 j = none := by unfold doU; rw [if_neg (by rw [c3]; decide)]
      rw [e]
      refine xe_bipush (v := -3) dX11_unwind_19 (by decide) ?_
      exact xe_iret dX11_unwind_21 rfl (pM_0 h)
  · rw [thQ_f c]
    refine xe_iconst (v := -1) dX11_unwind_8 (by decide) ?_
    exact xe_iret dX11_unwind_9 rfl (pM_0 h)
theorem M_cut (h : IM σ A) {x : Int32} : Cl xs L mX11_cut [.ref 110, .int x] GS σ GS (pM σ (aCut A x)) := by
  show Ev xs L mX11_cut 0 [.ref 110, .int x] [] GS σ GS _
  obtain ⟨hT, hK, hl, hr⟩ := h.2.1
  have h4 := hl.2.1.1
  have h48 := hl.2.1.len
  unfold aCut
  refine xe_aload_n dX11_cut_0 rfl ?_
  refine xe_iload_n dX11_cut_1 rfl ?_
  refine e_callVp (G := GS) (r := 110) (M_isThread (by omega) hT) dX11_cut_2 kvX11_159 gk_110 rfl ?_
  refine xz_if_ne 10 dX11_cut_5 (by decide) (fun c => ?_) (fun c => ?_)
  · obtain ⟨j, hj, rfl⟩ := hasT_of (by omega) c
    rw [thQ_n (by omega) hj]
    dsimp only
    have hcl : cnt A.2.1.2.2.2 j ≤ 48 := Nat.le_trans List.countP_le_length h48
    refine xe_aload_n dX11_cut_10 rfl ?_
    refine xe_iconst (v := nI 0) dX11_cut_11 (by decide) ?_
    refine xe_iload_n dX11_cut_12 rfl ?_
    refine e_callVp (G := GS) (r := 110) (M_stretchesOf hl (by omega)) dX11_cut_13 kvX11_137 gk_110 rfl ?_
    refine xn_if_ne 22 dX11_cut_16 (by decide) (by omega) (fun c3 => ?_) (fun c3 => ?_)
    · have e : doC A.2.1 j = some (cutP A.2.1 j) := if_pos c3
      rw [e]
      refine xe_aload_n dX11_cut_22 rfl ?_
      refine e_callV (G := GS) (r := 110) (M_keepAct h.2.1 h.2.2.1) dX11_cut_23 kvX11_188 gk_110 rfl ?_
      rintro v t ⟨rfl, ht, ft⟩
      refine xe_aload_n dX11_cut_26 rfl ?_
      refine xe_iconst (v := nI 0) dX11_cut_27 (by decide) ?_
      refine xe_iload_n dX11_cut_28 rfl ?_
      refine e_callV (G := GS) (r := 110) (M_cutOn (h.2.1.fk ft).2.2.1 (by omega)) dX11_cut_29 kvX11_194 gk_110 rfl ?_
      rintro v u ⟨rfl, hu, fu⟩
      exact xe_iret dX11_cut_32 rfl ⟨rfl, IM_act h ht ft hu fu rfl rfl⟩
    · have e : doC A.2.1 j = none := if_neg (by omega)
      rw [e]
      refine xe_bipush (v := -3) dX11_cut_19 (by decide) ?_
      exact xe_iret dX11_cut_21 rfl (pM_0 h)
  · rw [thQ_f c]
    refine xe_iconst (v := -1) dX11_cut_8 (by decide) ?_
    exact xe_iret dX11_cut_9 rfl (pM_0 h)
theorem M_turn (h : IM σ A) : Cl xs L mX11_turn [.ref 110] GS σ GS (pM σ (aTurn A)) := by
  show Ev xs L mX11_turn 0 [.ref 110] [] GS σ GS _
  refine xe_aload_n dX11_turn_0 rfl ?_
  refine e_callV (G := GS) (r := 110) (M_keepAct h.2.1 h.2.2.1) dX11_turn_1 kvX11_188 gk_110 rfl ?_
  rintro v t ⟨rfl, ht, ft⟩
  refine xe_aload_n dX11_turn_4 rfl ?_
  refine xe_iconst (v := nI 0) dX11_turn_5 (by decide) ?_
  refine xe_iconst (v := nI 0) dX11_turn_6 (by decide) ?_
  refine e_callV (G := GS) (r := 110) (M_renameOn (h.2.1.fk ft).2.2.1 (h.2.1.fk ft).1 false) dX11_turn_7 kvX11_197 gk_110 rfl ?_
  rintro v u ⟨rfl, hu, fu⟩
  refine xe_aload_n dX11_turn_10 rfl ?_
  refine xe_iconst (v := nI 0) dX11_turn_11 (by decide) ?_
  refine e_callVp (G := GS) (r := 110) (M_many hu) dX11_turn_12 kvX11_121 gk_110 rfl ?_
  refine xe_iret dX11_turn_15 rfl ⟨?_, IM_act h ht ft hu fu rfl rfl⟩
  show some (Value.int (nI (A.2.1.2.2.2.map (mpS rotN)).length)) = _
  rw [List.length_map]
  rfl
theorem M_behind (h : IM σ A) : Cl xs L mX11_behind [.ref 110] GS σ GS (pM σ (aBehind A)) := by
  show Ev xs L mX11_behind 0 [.ref 110] [] GS σ GS _
  refine xe_aload_n dX11_behind_0 rfl ?_
  refine e_callV (G := GS) (r := 110) (M_keepAct h.2.1 h.2.2.1) dX11_behind_1 kvX11_188 gk_110 rfl ?_
  rintro v t ⟨rfl, ht, ft⟩
  refine xe_aload_n dX11_behind_4 rfl ?_
  refine xe_iconst (v := nI 0) dX11_behind_5 (by decide) ?_
  refine xe_iconst (v := nI 1) dX11_behind_6 (by decide) ?_
  refine e_callV (G := GS) (r := 110) (M_renameOn (h.2.1.fk ft).2.2.1 (h.2.1.fk ft).1 true) dX11_behind_7 kvX11_197 gk_110 rfl ?_
  rintro v u ⟨rfl, hu, fu⟩
  refine xe_aload_n dX11_behind_10 rfl ?_
  refine xe_iconst (v := nI 0) dX11_behind_11 (by decide) ?_
  refine e_callVp (G := GS) (r := 110) (M_many hu) dX11_behind_12 kvX11_121 gk_110 rfl ?_
  refine xe_iret dX11_behind_15 rfl ⟨?_, IM_act h ht ft hu fu rfl rfl⟩
  show some (Value.int (nI (A.2.1.2.2.2.map (mpS negN)).reverse.length)) = _
  rw [List.length_reverse, List.length_map]
  rfl
theorem M_undo (h : IM σ A) : Cl xs L mX11_undo [.ref 110] GS σ GS (pM σ (aUndo A)) := by
  show Ev xs L mX11_undo 0 [.ref 110, .null] [] GS σ GS _
  obtain ⟨a1, ⟨b1, b2, b3, b4⟩, ⟨n, n14, g1, g2, g3, g4⟩, a4, a5, a6⟩ := id h
  unfold aUndo
  cases hac : A.2.2.1 with
  | nil =>
    rw [hac] at g2
    refine xe_aload_n dX11_undo_0 rfl ?_
    refine e_getI (G := GS) (r := 110) dX11_undo_1 fdX11_118 rfl gk_110 g2 ?_
    refine xe_if_ne 10 dX11_undo_4 (by decide) (fun c => absurd c (fun q => q rfl)) (fun _ => ?_)
    refine xe_bipush (v := -3) dX11_undo_7 (by decide) ?_
    exact xe_iret dX11_undo_9 rfl (pM_0 h)
  | cons Q r =>
    rw [hac] at g2 g3 g4
    have g2 : σ.1 110 9 = nI (r.length + 1) := g2
    have g3 : r.length + 1 ≤ 14 := g3
    obtain ⟨q1, q2, q3, q4⟩ := g4 0 Q rfl
    refine xe_aload_n dX11_undo_0 rfl ?_
    refine e_getI (G := GS) (r := 110) dX11_undo_1 fdX11_118 rfl gk_110 g2 ?_
    refine xe_if_ne 10 dX11_undo_4 (by decide) (fun _ => ?_) (fun c => absurd c (nI_ne0 (by omega) (by omega)))
    refine xe_aload_n dX11_undo_10 rfl ?_
    refine xe_dup dX11_undo_11 rfl ?_
    refine e_getI (G := GS) (r := 110) dX11_undo_12 fdX11_118 rfl gk_110 g2 ?_
    refine xe_iconst (v := nI 1) dX11_undo_15 (by decide) ?_
    refine xn_isub dX11_undo_16 (by omega) ?_
    rw [Nat.add_sub_cancel]
    refine xe_putI (G := GS) (r := 110) dX11_undo_17 fdX11_118 rfl gk_110 ?_
    refine xe_aload_n dX11_undo_20 rfl ?_
    refine xe_aload_n dX11_undo_21 rfl ?_
    refine e_getI (G := GS) (r := 110) dX11_undo_22 fdX11_185 rfl gk_110 (show _ = nI n by rw [xpi_rd, if_neg (by omega)]; exact g1) ?_
    refine xe_bipush (v := nI 13) dX11_undo_25 (by decide) ?_
    first | refine xn_iadd dX11_undo_27 ?_ | refine xe_iadd dX11_undo_27 ?_
    refine xe_bipush (v := nI 14) dX11_undo_28 (by decide) ?_
    refine xn_irem dX11_undo_30 (by omega) (by decide) (by decide) ?_
    refine xe_putI (G := GS) (r := 110) dX11_undo_31 fdX11_185 rfl gk_110 ?_
    refine xe_iconst (v := nI 0) dX11_undo_34 (by decide) ?_
    refine xe_istore_n dX11_undo_35 (by decide) ?_
    have key : ∀ k i (t : xS), i + k = 53 → (∀ p, p < i → t.1 112 p = σ.1 116 (53 * ((n + 13) % 14) + p)) → (∀ c, c ≠ 112 → c ≠ 110 → t.1 c = σ.1 c) → t.1 110 10 = nI ((n + 13) % 14) → t.1 110 9 = nI r.length → (∀ k, k ≠ 9 → k ≠ 10 → t.1 110 k = σ.1 110 k) → t.2 = σ.2 → Ev xs L mX11_undo 36 [.ref 110, .int (nI i)] [] GS t GS (pM σ (nI r.length, (A.1, Q, r, A.2.2.2))) := by
      intro k
      induction k with
      | zero =>
        intro i t hi e1 e2 e3 e4 e5 e6
        refine xe_iload_n dX11_undo_36 rfl ?_
        refine xe_bipush (v := nI 53) dX11_undo_37 (by decide) ?_
        refine xe_icmp_ge 68 dX11_undo_39 (by decide) (fun _ => ?_) (fun c => absurd (nI_le (by omega) (by omega)) c)
        refine xe_aload_n dX11_undo_68 rfl ?_
        refine e_getI (G := GS) (r := 110) dX11_undo_69 fdX11_118 rfl gk_110 e4 ?_
        have o : ∀ c, c ≠ 112 → c ≠ 110 → t.1 c = σ.1 c := e2
        refine xe_iret dX11_undo_72 rfl ⟨rfl, ⟨a1.to (e5 6 (by decide) (by decide)) (o 114 (by decide) (by decide)), ⟨by rw [e5 0 (by decide) (by decide), b1, ← q2], fun u hu => ?_, ⟨by decide, q1, q4.cp q1 (fun k hk => ?_)⟩, by rw [e5 7 (by decide) (by decide)]; exact b4⟩, ⟨(n + 13) % 14, Nat.mod_lt _ (by decide), e3, e4, by show r.length ≤ 14; omega, fun i R hR => ?_⟩, a4.to q2.symm q3.symm (o 121 (by decide) (by decide)) (o 122 (by decide) (by decide)), a5.to (e5 13 (by decide) (by decide)) (o 118 (by decide) (by decide)) (o 119 (by decide) (by decide)) (o 120 (by decide) (by decide)), by rw [e6]; exact a6⟩, FMo.of (fun c hc => o c (by omega) (by omega)) e6⟩
        · have hu : u < Q.1 := hu
          show t.1 111 u = nI (Q.2.1 u)
          rw [o 111 (by decide) (by decide), q3]
          exact b2 u (by rw [← q2]; exact hu)
        · rw [Nat.mul_zero, Nat.zero_add, Nat.sub_zero]
          exact e1 k (by omega)
        · have hR : r[i]? = some R := hR
          have hil : i < r.length := (List.getElem?_eq_some_iff.mp hR).1
          obtain ⟨p1, p2, p3, p4⟩ := g4 (i + 1) R hR
          refine ⟨p1, p2.trans q2.symm, p3.trans q3.symm, ?_⟩
          rw [o 116 (by decide) (by decide), show ((n + 13) % 14 + 13 - i) % 14 = (n + 13 - (i + 1)) % 14 by omega]
          exact p4
      | succ k ih =>
        intro i t hi e1 e2 e3 e4 e5 e6
        refine xe_iload_n dX11_undo_36 rfl ?_
        refine xe_bipush (v := nI 53) dX11_undo_37 (by decide) ?_
        refine xe_icmp_ge 68 dX11_undo_39 (by decide) (fun c => absurd c (nI_ge (by omega) (by omega))) (fun _ => ?_)
        refine xe_aload_n dX11_undo_42 rfl ?_
        refine e_getA (G := GS) (r := 110) dX11_undo_43 fdX11_13 rfl gk_110 gr_110_2 ?_
        refine xe_iload_n dX11_undo_46 rfl ?_
        refine xe_aload_n dX11_undo_47 rfl ?_
        refine e_getA (G := GS) (r := 110) dX11_undo_48 fdX11_25 rfl gk_110 gr_110_11 ?_
        refine xe_bipush (v := nI 53) dX11_undo_51 (by decide) ?_
        refine xe_aload_n dX11_undo_53 rfl ?_
        refine e_getI (G := GS) (r := 110) dX11_undo_54 fdX11_185 rfl gk_110 e3 ?_
        first | refine xn_imul dX11_undo_57 ?_ | refine xe_imul dX11_undo_57 ?_
        refine xe_iload_n dX11_undo_58 rfl ?_
        first | refine xn_iadd dX11_undo_59 ?_ | refine xe_iadd dX11_undo_59 ?_
        refine e_iald (G := GS) (a := 116) dX11_undo_60 gk_116 gn_116 (by omega) (by decide) (show _ = σ.1 116 (53 * ((n + 13) % 14) + i) by rw [e2 116 (by decide) (by decide)]) ?_
        refine e_iast (G := GS) (a := 112) dX11_undo_61 gk_112 gn_112 (by omega) (by decide) ?_
        refine xn_inc dX11_undo_62 rfl (by decide) ?_
        refine xe_goto 36 dX11_undo_65 (by decide) ?_
        refine ih (i + 1) _ (by omega) (fun q hq => ?_) (fun c c1 c2 => by rw [xpi_ne _ _ _ c1]; exact e2 c c1 c2) (by rw [xpi_rd, if_neg (by omega)]; exact e3) (by rw [xpi_rd, if_neg (by omega)]; exact e4) (fun k k1 k2 => by rw [xpi_rd, if_neg (by omega)]; exact e5 k k1 k2) e6
        by_cases c : q = i
        · subst c
          rw [xpi_rd, if_pos (by omega)]
        · rw [xpi_rd, if_neg (by omega)]
          exact e1 q (by omega)
    exact key 53 0 _ (by omega) (fun q hq => absurd hq (Nat.not_lt_zero _)) (fun c c1 c2 => by rw [xpi_ne _ _ _ c2, xpi_ne _ _ _ c2]) (by rw [xpi_rd, if_pos (by omega)]) (by rw [xpi_rd, if_neg (by omega), xpi_rd, if_pos (by omega)]) (fun k k1 k2 => by rw [xpi_rd, if_neg (by omega), xpi_rd, if_neg (by omega)]) rfl
theorem M_crossings (h : IM σ A) {x y : Int32} : Cl xs L mX11_crossings [.ref 110, .int x, .int y] GS σ GS (pM σ (aCrossings A x y, A)) := by
  show Ev xs L mX11_crossings 0 [.ref 110, .int x, .int y] [] GS σ GS _
  obtain ⟨hT, hK, hl, hr⟩ := h.2.1
  have h4 := hl.2.1.1
  unfold aCrossings
  refine xe_aload_n dX11_crossings_0 rfl ?_
  refine xe_iload_n dX11_crossings_1 rfl ?_
  refine e_callVp (G := GS) (r := 110) (M_isThread (by omega) hT) dX11_crossings_2 kvX11_159 gk_110 rfl ?_
  refine xz_if_eq 26 dX11_crossings_5 (by decide) (fun c => ?_) (fun c => ?_)
  · rw [thQ_f c]
    refine xe_iconst (v := -1) dX11_crossings_26 (by decide) ?_
    exact xe_iret dX11_crossings_27 rfl (pM_0 h)
  obtain ⟨i, hi, rfl⟩ := hasT_of (by omega) c
  rw [thQ_n (by omega) hi]
  refine xe_aload_n dX11_crossings_8 rfl ?_
  refine xe_iload_n dX11_crossings_9 rfl ?_
  refine e_callVp (G := GS) (r := 110) (M_isThread (by omega) hT) dX11_crossings_10 kvX11_159 gk_110 rfl ?_
  refine xz_if_eq 26 dX11_crossings_13 (by decide) (fun c2 => ?_) (fun c2 => ?_)
  · rw [thQ_f c2]
    refine xe_iconst (v := -1) dX11_crossings_26 (by decide) ?_
    exact xe_iret dX11_crossings_27 rfl (pM_0 h)
  obtain ⟨j, hj, rfl⟩ := hasT_of (by omega) c2
  rw [thQ_n (by omega) hj]
  refine xe_aload_n dX11_crossings_16 rfl ?_
  refine xe_iconst (v := nI 0) dX11_crossings_17 (by decide) ?_
  refine xe_iload_n dX11_crossings_18 rfl ?_
  refine xe_iload_n dX11_crossings_19 rfl ?_
  refine e_callVp (G := GS) (r := 110) (M_crossesOfTwo hl (show i < 4 by omega) (show j < 4 by omega)) dX11_crossings_20 kvX11_207 gk_110 rfl ?_
  refine xe_goto 27 dX11_crossings_23 (by decide) ?_
  exact xe_iret dX11_crossings_27 rfl (pM_0 h)
theorem M_parts (h : IM σ A) : Cl xs L mX11_parts [.ref 110] GS σ GS (pM σ (aParts A, A)) := by
  show Ev xs L mX11_parts 0 [.ref 110] [] GS σ GS _
  refine xe_aload_n dX11_parts_0 rfl ?_
  refine xe_iconst (v := nI 0) dX11_parts_1 (by decide) ?_
  refine e_callV (G := GS) (r := 110) (M_partsOn h.2.1.2.2.1) dX11_parts_2 kvX11_213 gk_110 rfl ?_
  rintro v t ⟨rfl, f⟩
  exact xe_iret dX11_parts_5 rfl ⟨rfl, h.q (FQ.fa f (Or.inr rfl)) (by rw [f.1 110 (by decide)]; exact h.2.1.2.2.2), (FQ.fa f (Or.inr rfl)).mo⟩
theorem M_strokes (h : IM σ A) : Cl xs L mX11_strokes [.ref 110] GS σ GS (pM σ (aStrokes A, A)) := by
  show Ev xs L mX11_strokes 0 [.ref 110, .null, .null, .null, .null, .null, .null] [] GS σ GS _
  have hl := h.2.1.2.2.1
  refine xe_aload_n dX11_strokes_0 rfl ?_
  refine xe_iconst (v := nI 0) dX11_strokes_1 (by decide) ?_
  refine e_callV (G := GS) (r := 110) (M_findLines hl) dX11_strokes_2 kvX11_210 gk_110 rfl ?_
  rintro v t ⟨rfl, hL, f⟩
  have fin : ∀ x : Int32, pM σ (x, A) (some (.int x)) t := fun x => ⟨rfl, h.q (FQ.fa f (Or.inr rfl)) (by rw [f.1 110 (by decide)]; exact h.2.1.2.2.2), (FQ.fa f (Or.inr rfl)).mo⟩
  unfold aStrokes
  have hJ := jm_lt (z := A.2.1.2.2.2) (fun s hs => (hl.2.1.2.2.1 s hs).2)
  have hsy := jm_sym A.2.1.2.2.2
  have hir := jm_irr (z := A.2.1.2.2.2) hl.2.1.2.2.2.2
  generalize jm A.2.1.2.2.2 = J at hL hJ hsy hir ⊢
  have key := goN 12 (stS J) (fun p q => q.2 < 2 ^ 12 → ∀ w1 w2 w3 : Value, Ev xs L mX11_strokes 11 [.ref 110, .int (nI q.1), .int (nI q.2), .int (nI p), w1, w2, w3] [] GS t GS (pM σ (nI (stk J), A))) (foldN (stS J) 0 12 (0, 0)) (by
      intro _ w1 w2 w3
      refine xe_iload_n dX11_strokes_11 rfl ?_
      refine xe_bipush (v := nI 12) dX11_strokes_12 (by decide) ?_
      refine xe_icmp_ge 114 dX11_strokes_14 (by decide) (fun _ => ?_) (fun c => absurd (by decide) c)
      refine xe_iload_n dX11_strokes_114 rfl ?_
      exact xe_iret dX11_strokes_115 rfl (fin _)) (by
      intro p q hp kk hq w1 w2 w3
      have no : ¬ (J p ≠ 0 ∧ q.2.testBit p = false) → ∀ w1 w2 w3 : Value, Ev xs L mX11_strokes 108 [.ref 110, .int (nI q.1), .int (nI q.2), .int (nI p), w1, w2, w3] [] GS t GS (pM σ (nI (stk J), A)) := by
        intro hn w1 w2 w3
        have e : stS J q p = q := if_neg hn
        rw [e] at kk
        refine xn_inc dX11_strokes_108 rfl (by decide) ?_
        refine xe_goto 11 dX11_strokes_111 (by decide) ?_
        exact kk hq _ _ _
      have hm := mln_pc hsy hir hp
      have hpc := pc_le (J p)
      have hpp := pc_pos (hJ p)
      refine xe_iload_n dX11_strokes_11 rfl ?_
      refine xe_bipush (v := nI 12) dX11_strokes_12 (by decide) ?_
      refine xe_icmp_ge 114 dX11_strokes_14 (by decide) (fun c => absurd c (nI_ge hp (by omega))) (fun _ => ?_)
      refine xe_iload_n dX11_strokes_17 rfl ?_
      refine xe_iload_n dX11_strokes_18 rfl ?_
      refine e_callSp (M_has (show q.2 < 2 ^ 31 by omega) (show p < 32 by omega)) dX11_strokes_19 ksX11_201 rfl ?_
      refine xz_if_ne 108 dX11_strokes_22 (by decide) (fun c => ?_) (fun c => ?_)
      · exact no (fun q => by rw [c] at q; exact absurd q.2 (by decide)) _ _ _
      refine xe_aload_n dX11_strokes_25 rfl ?_
      refine xe_iload_n dX11_strokes_26 rfl ?_
      refine e_callVp (G := GS) (r := 110) (M_linesAt hL hp) dX11_strokes_27 kvX11_216 gk_110 rfl ?_
      rw [hm]
      refine xn_if_le 108 dX11_strokes_30 (by decide) (by omega) (fun c2 => ?_) (fun c2 => ?_)
      · exact no (fun q => by have := hpp.mpr q.1; omega) _ _ _
      have hy : J p ≠ 0 ∧ q.2.testBit p = false := ⟨hpp.mp c2, c⟩
      have e : stS J q p = (q.1 + max 1 (odd J (grp J p) / 2), q.2 ||| grp J p) := if_pos hy
      rw [e] at kk
      have hg := grp_lt hJ hp
      refine xe_aload_n dX11_strokes_33 rfl ?_
      refine xe_iload_n dX11_strokes_34 rfl ?_
      refine e_callVp (G := GS) (r := 110) (M_partOf hL hp) dX11_strokes_35 kvX11_219 gk_110 rfl ?_
      rw [po_grp hJ hsy hir hp]
      generalize grp J p = g at kk hg
      have kk := kk (Nat.or_lt_two_pow hq hg)
      have key2 := goN 12 (odI J g) (fun i c => Ev xs L mX11_strokes 46 [.ref 110, .int (nI q.1), .int (nI q.2), .int (nI p), .int (nI g), .int (nI c), .int (nI i)] [] GS t GS (pM σ (nI (stk J), A))) (odd J g) (by
          have ho := odd_le J g
          refine xe_iload dX11_strokes_46 rfl ?_
          refine xe_bipush (v := nI 12) dX11_strokes_48 (by decide) ?_
          refine xe_icmp_ge 86 dX11_strokes_50 (by decide) (fun _ => ?_) (fun c => absurd (by decide) c)
          have last : ∀ m : Nat, m = max 1 (odd J g / 2) → ∀ w1 w2 w3 : Value, Ev xs L mX11_strokes 101 [.ref 110, .int (nI q.1), .int (nI q.2), .int (nI p), .int (nI g), w2, w3] [.int (nI m), .int (nI q.1)] GS t GS (pM σ (nI (stk J), A)) := by
            intro m em w1 w2 w3
            first | refine xn_iadd dX11_strokes_101 ?_ | refine xe_iadd dX11_strokes_101 ?_
            refine xe_istore_n dX11_strokes_102 (by decide) ?_
            refine xe_iload_n dX11_strokes_103 rfl ?_
            refine xe_iload dX11_strokes_104 rfl ?_
            refine xe_ior dX11_strokes_106 ?_
            rw [nI_or]
            refine xe_istore_n dX11_strokes_107 (by decide) ?_
            refine xn_inc dX11_strokes_108 rfl (by decide) ?_
            refine xe_goto 11 dX11_strokes_111 (by decide) ?_
            rw [em]
            exact kk _ _ _
          refine xe_iload_n dX11_strokes_86 rfl ?_
          refine xe_iload dX11_strokes_87 rfl ?_
          refine xe_iconst (v := nI 2) dX11_strokes_89 (by decide) ?_
          refine xn_icmp_ge 97 dX11_strokes_90 (by decide) (by omega) (by omega) (fun c3 => ?_) (fun c3 => ?_)
          · refine xe_iload dX11_strokes_97 rfl ?_
            refine xe_iconst (v := nI 2) dX11_strokes_99 (by decide) ?_
            refine xn_idiv dX11_strokes_100 (by omega) (by decide) (by decide) ?_
            exact last _ (by omega) .null _ _
          · refine xe_iconst (v := nI 1) dX11_strokes_93 (by decide) ?_
            refine xe_goto 101 dX11_strokes_94 (by decide) ?_
            exact last _ (by omega) .null _ _) (by
          intro i c hi k
          unfold odI at k
          refine xe_iload dX11_strokes_46 rfl ?_
          refine xe_bipush (v := nI 12) dX11_strokes_48 (by decide) ?_
          refine xe_icmp_ge 86 dX11_strokes_50 (by decide) (fun c => absurd c (nI_ge hi (by omega))) (fun _ => ?_)
          refine xe_iload dX11_strokes_53 rfl ?_
          refine xe_iload dX11_strokes_55 rfl ?_
          refine xe_iload dX11_strokes_57 rfl ?_
          refine e_callSp (M_has (show g < 2 ^ 31 by omega) (show i < 32 by omega)) dX11_strokes_59 ksX11_201 rfl ?_
          refine xz_if_eq 76 dX11_strokes_62 (by decide) (fun c4 => ?_) (fun c4 => ?_)
          · rw [c4, if_neg (by decide)] at k
            refine xe_iconst (v := nI 0) dX11_strokes_76 (by decide) ?_
            first | refine xn_iadd dX11_strokes_77 ?_ | refine xe_iadd dX11_strokes_77 ?_
            refine xe_istore dX11_strokes_78 (by decide) ?_
            refine xn_inc dX11_strokes_80 rfl (by decide) ?_
            refine xe_goto 46 dX11_strokes_83 (by decide) ?_
            exact k
          · rw [c4, if_pos rfl] at k
            have hpc2 := pc_le (J i)
            refine xe_aload_n dX11_strokes_65 rfl ?_
            refine xe_iload dX11_strokes_66 rfl ?_
            refine e_callVp (G := GS) (r := 110) (M_linesAt hL hi) dX11_strokes_68 kvX11_216 gk_110 rfl ?_
            rw [mln_pc hsy hir hi]
            refine xe_iconst (v := nI 2) dX11_strokes_71 (by decide) ?_
            refine xn_irem dX11_strokes_72 (by omega) (by decide) (by decide) ?_
            refine xe_goto 77 dX11_strokes_73 (by decide) ?_
            first | refine xn_iadd dX11_strokes_77 ?_ | refine xe_iadd dX11_strokes_77 ?_
            refine xe_istore dX11_strokes_78 (by decide) ?_
            refine xn_inc dX11_strokes_80 rfl (by decide) ?_
            refine xe_goto 46 dX11_strokes_83 (by decide) ?_
            exact k) 12 0 0 rfl rfl
      refine xe_istore dX11_strokes_38 (by decide) ?_
      refine xe_iconst (v := nI 0) dX11_strokes_40 (by decide) ?_
      refine xe_istore dX11_strokes_41 (by decide) ?_
      refine xe_iconst (v := nI 0) dX11_strokes_43 (by decide) ?_
      refine xe_istore dX11_strokes_44 (by decide) ?_
      exact key2) 12 0 (0, 0) rfl rfl
  refine xe_iconst (v := nI 0) dX11_strokes_5 (by decide) ?_
  refine xe_istore_n dX11_strokes_6 (by decide) ?_
  refine xe_iconst (v := nI 0) dX11_strokes_7 (by decide) ?_
  refine xe_istore_n dX11_strokes_8 (by decide) ?_
  refine xe_iconst (v := nI 0) dX11_strokes_9 (by decide) ?_
  refine xe_istore_n dX11_strokes_10 (by decide) ?_
  exact key (by decide) .null .null .null
end MC
