/-! a board is turned, seen from behind, copied -/
def tieP (P : xP) (k n : Nat) : xP := (P.1 + 1, fun t => if t = P.1 then k else P.2.1 t, fun t => if t = P.1 then n else P.2.2.1 t, P.2.2.2)
def nilP : xP := (0, fun _ => 0, fun _ => 0, [])
theorem nil_ok : POk nilP := ⟨Nat.zero_le _, fun t ht => absurd ht (Nat.not_lt_zero _), fun s hs => absurd hs List.not_mem_nil, fun t => List.Perm.refl _, fun s hs => absurd hs List.not_mem_nil⟩
theorem tie_ok {P : xP} {k n : Nat} (h : POk P) (hT : P.1 < 4) (hk : k < 4) (hn : n < 12) : POk (tieP P k n) := by
  obtain ⟨h1, h2, h3, h4, h5⟩ := h
  have hc : cnt P.2.2.2 P.1 = 0 := List.countP_eq_zero.mpr (fun s hs => by
    have := (h3 s hs).1
    simp only [beq_iff_eq]
    omega)
  refine ⟨by show P.1 + 1 ≤ 4; omega, fun t ht => ?_, fun s hs => ⟨Nat.lt_succ_of_lt (h3 s hs).1, (h3 s hs).2⟩, h4, h5⟩
  show (if t = P.1 then k else P.2.1 t) < 4 ∧ (if t = P.1 then n else P.2.2.1 t) < 12 ∧ cnt P.2.2.2 t ≤ 12
  have ht : t < P.1 + 1 := ht
  by_cases e : t = P.1
  · rw [if_pos e, if_pos e, e, hc]
    exact ⟨hk, hn, by omega⟩
  · rw [if_neg e, if_neg e]
    exact h2 t (by omega)
section TN
variable {xs : Nat → Int32} {L : Nat} {σ : xS} {B : Nat} {P : xP}
theorem E_clear (hB : IsBd B) : Cl xs L mX0_clear [.ref B] GS σ GS (fun v t => v = none ∧ Bd t B nilP ∧ Fr σ t B) := by
  show Ev xs L mX0_clear 0 [.ref B] [] GS σ GS _
  refine xe_aload_n dX0_clear_0 rfl ?_
  refine xe_iconst (v := nI 0) dX0_clear_1 (by decide) ?_
  refine xe_putI dX0_clear_2 fdX0_24 rfl (bd_k hB) ?_
  refine xe_aload_n dX0_clear_5 rfl ?_
  refine xe_iconst (v := nI 0) dX0_clear_6 (by decide) ?_
  refine xe_putI dX0_clear_7 fdX0_28 rfl (bd_k hB) ?_
  refine xe_aload_n dX0_clear_10 rfl ?_
  refine xe_iconst (v := nI 0) dX0_clear_11 (by decide) ?_
  refine xe_putI dX0_clear_12 fdX0_31 rfl (bd_k hB) ?_
  refine xe_vret dX0_clear_15 rfl ⟨rfl, ⟨nil_ok, ⟨by rw [xpi_rd, if_neg (by omega), xpi_rd, if_neg (by omega), xpi_rd, if_pos (by omega)]; rfl, Nat.zero_le _, fun t ht => absurd ht (Nat.not_lt_zero _)⟩, ⟨by rw [xpi_rd, if_neg (by omega), xpi_rd, if_pos (by omega)]; rfl, Nat.zero_le _, fun i s hs => (by cases hs), fun s hs => absurd hs List.not_mem_nil⟩, by rw [xpi_rd, if_pos (by omega)]; rfl⟩, (((Fr.rf σ B).pi _ _ (by omega) (by omega)).pi _ _ (by omega) (by omega)).pi _ _ (by omega) (by omega)⟩
theorem E_tie (hB : IsBd B) (h : Bd σ B P) (hT : P.1 < 4) {k n : Nat} (hk : k < 4) (hn : n < 12) : Cl xs L mX0_tie [.ref B, .int (nI k), .int (nI n)] GS σ GS (fun v t => v = some (.int (bI true)) ∧ Bd t B (tieP P k n) ∧ Fr σ t B) := by
  show Ev xs L mX0_tie 0 [.ref B, .int (nI k), .int (nI n)] [] GS σ GS _
  obtain ⟨hp, hth, hz, h6⟩ := id h
  have hok := tie_ok hp hT hk hn
  have hc : cnt P.2.2.2 P.1 = 0 := List.countP_eq_zero.mpr (fun s hs => by
    have := h.hc0 s hs
    simp only [beq_iff_eq]
    omega)
  refine xe_aload_n dX0_tie_0 rfl ?_
  refine e_getI dX0_tie_1 fdX0_24 rfl (bd_k hB) hth.1 ?_
  refine xe_iconst (v := nI 4) dX0_tie_4 (by decide) ?_
  refine xe_icmp_lt 10 dX0_tie_5 (by decide) (fun _ => ?_) (fun c => absurd (nI_lt (by omega) (by omega)) c)
  refine xe_aload_n dX0_tie_10 rfl ?_
  refine e_getA dX0_tie_11 fdX0_9 rfl (bd_k hB) (bd_r0 hB) ?_
  refine xe_aload_n dX0_tie_14 rfl ?_
  refine e_getI dX0_tie_15 fdX0_24 rfl (bd_k hB) hth.1 ?_
  refine xe_iload_n dX0_tie_18 rfl ?_
  refine e_iast dX0_tie_19 (bd_k1 hB) (bd_n1 hB) (by omega) (by decide) ?_
  refine xe_aload_n dX0_tie_20 rfl ?_
  refine e_getA dX0_tie_21 fdX0_15 rfl (bd_k hB) (bd_r1 hB) ?_
  refine xe_aload_n dX0_tie_24 rfl ?_
  refine e_getI dX0_tie_25 fdX0_24 rfl (bd_k hB) (show _ = nI P.1 by rw [xpi_rd, if_neg (by omega)]; exact hth.1) ?_
  refine xe_iload_n dX0_tie_28 rfl ?_
  refine e_iast dX0_tie_29 (bd_k2 hB) (bd_n2 hB) (by omega) (by decide) ?_
  refine xe_aload_n dX0_tie_30 rfl ?_
  refine e_getA dX0_tie_31 fdX0_18 rfl (bd_k hB) (bd_r2 hB) ?_
  refine xe_aload_n dX0_tie_34 rfl ?_
  refine e_getI dX0_tie_35 fdX0_24 rfl (bd_k hB) (show _ = nI P.1 by rw [xpi_rd, if_neg (by omega), xpi_rd, if_neg (by omega)]; exact hth.1) ?_
  refine xe_iconst (v := nI 0) dX0_tie_38 (by decide) ?_
  refine e_iast dX0_tie_39 (bd_k3 hB) (bd_n3 hB) (by omega) (by decide) ?_
  refine xe_aload_n dX0_tie_40 rfl ?_
  refine xe_dup dX0_tie_41 rfl ?_
  refine e_getI dX0_tie_42 fdX0_24 rfl (bd_k hB) (show _ = nI P.1 by rw [xpi_rd, if_neg (by omega), xpi_rd, if_neg (by omega), xpi_rd, if_neg (by omega)]; exact hth.1) ?_
  refine xe_iconst (v := nI 1) dX0_tie_45 (by decide) ?_
  refine xe_iadd dX0_tie_46 ?_
  rw [nI_add]
  refine xe_putI dX0_tie_47 fdX0_24 rfl (bd_k hB) ?_
  refine xe_iconst (v := nI 1) dX0_tie_50 (by decide) ?_
  refine xe_zret dX0_tie_51 rfl (by decide) ⟨rfl, ⟨hok, ⟨by rw [xpi_rd, if_pos (by omega)]; rfl, hok.1, fun t ht => ?_⟩, ⟨?_, hz.2.1, fun i s hs => ?_, hz.2.2.2⟩, ?_⟩, ((((Fr.rf σ B).pi _ _ (by omega) (by omega)).pi _ _ (by omega) (by omega)).pi _ _ (by omega) (by omega)).pi _ _ (by omega) (by omega)⟩
  · have ht : t < P.1 + 1 := ht
    refine ⟨?_, ?_, ?_, hok.2.1 t ht⟩
    · show _ = nI (if t = P.1 then k else P.2.1 t)
      rw [xpi_rd, if_neg (by omega), xpi_rd, if_neg (by omega), xpi_rd, if_neg (by omega)]
      by_cases e : t = P.1
      · rw [xpi_rd, if_pos (by omega), if_pos e]
      · rw [xpi_rd, if_neg (by omega), if_neg e]
        exact (hth.2.2 t (by omega)).1
    · show _ = nI (if t = P.1 then n else P.2.2.1 t)
      rw [xpi_rd, if_neg (by omega), xpi_rd, if_neg (by omega)]
      by_cases e : t = P.1
      · rw [xpi_rd, if_pos (by omega), if_pos e]
      · rw [xpi_rd, if_neg (by omega), xpi_rd, if_neg (by omega), if_neg e]
        exact (hth.2.2 t (by omega)).2.1
    · show _ = nI (cnt P.2.2.2 t)
      rw [xpi_rd, if_neg (by omega)]
      by_cases e : t = P.1
      · rw [xpi_rd, if_pos (by omega), e, hc]
      · rw [xpi_rd, if_neg (by omega), xpi_rd, if_neg (by omega), xpi_rd, if_neg (by omega)]
        exact (hth.2.2 t (by omega)).2.2.1
  · rw [xpi_rd, if_neg (by omega), xpi_rd, if_neg (by omega), xpi_rd, if_neg (by omega), xpi_rd, if_neg (by omega)]
    exact hz.1
  · rw [xpi_rd, if_neg (by omega), xpi_rd, if_neg (by omega), xpi_rd, if_neg (by omega), xpi_rd, if_neg (by omega)]
    exact hz.2.2.1 i s hs
  · rw [xpi_rd, if_neg (by omega), xpi_rd, if_neg (by omega), xpi_rd, if_neg (by omega), xpi_rd, if_neg (by omega)]
    exact h6
theorem E_windStar (hB : IsBd B) {j k : Nat} (hk : k < 12) : ∀ (n : Nat) (σ0 σ : xS) (P : xP) (i c N : Nat) (w : Value), N < 2 ^ 31 → i + n = N → Bd σ B P → j < P.1 → Fr σ0 σ B → Ev xs L mX0_windStar 6 [.ref B, .int (nI j), .int (nI k), .int (nI N), .int (nI c), .int (nI i), w] [] GS σ GS (fun v t => v = some (.int (nI (c + (wst j k n P).2.1))) ∧ Bd t B (wst j k n P).1 ∧ Fr σ0 t B) := by
  intro n
  induction n with
  | zero =>
    intro σ0 σ P i c N w hN hi h hj hf
    refine xe_iload dX0_windStar_6 rfl ?_
    refine xe_iload_n dX0_windStar_8 rfl ?_
    refine xe_icmp_ge 54 dX0_windStar_9 (by decide) (fun _ => ?_) (fun c => absurd (nI_le (by omega) (by omega)) c)
    refine xe_iload dX0_windStar_54 rfl ?_
    exact xe_iret dX0_windStar_56 rfl ⟨rfl, h, hf⟩
  | succ n ih =>
    intro σ0 σ P i c N w hN hi h hj hf
    obtain ⟨hp, hth, hz, h6⟩ := id h
    have h4 := hth.2.1
    have ha := (hth.2.2 j hj).2.2.2.2.1
    refine xe_iload dX0_windStar_6 rfl ?_
    refine xe_iload_n dX0_windStar_8 rfl ?_
    refine xe_icmp_ge 54 dX0_windStar_9 (by decide) (fun c => absurd c (nI_ge (by omega) (by omega))) (fun _ => ?_)
    refine xe_aload_n dX0_windStar_12 rfl ?_
    refine xe_iload_n dX0_windStar_13 rfl ?_
    refine e_callVp (E_nailOf hB hth hj) dX0_windStar_14 kvX0_78 (bd_k hB) rfl ?_
    refine xe_iload_n dX0_windStar_17 rfl ?_
    refine e_callSp (E_stepsOn) dX0_windStar_18 ksX0_113 rfl ?_
    rw [stp_all _ ha _ hk]
    refine xe_istore dX0_windStar_21 (by decide) ?_
    refine xe_aload_n dX0_windStar_23 rfl ?_
    refine xe_iload_n dX0_windStar_24 rfl ?_
    refine xe_iload dX0_windStar_25 rfl ?_
    refine e_callVp (E_mayWind hB hth hz (by omega) (by omega)) dX0_windStar_27 kvX0_74 (bd_k hB) rfl ?_
    refine xz_if_ne 36 dX0_windStar_30 (by decide) (fun c30 => ?_) (fun c30 => ?_)
    · have e : wst j k (n + 1) P = ((wst j k n (wnd P j ((P.2.2.1 j + k) % 12))).1, crA (P.2.2.1 j) ((P.2.2.1 j + k) % 12) P.2.2.2 + (wst j k n (wnd P j ((P.2.2.1 j + k) % 12))).2.1, (wst j k n (wnd P j ((P.2.2.1 j + k) % 12))).2.2 + 1) := by
        show (if mayW P j ((P.2.2.1 j + k) % 12) = true then _ else _) = _
        rw [if_pos c30]
      rw [e]
      refine xe_iload dX0_windStar_36 rfl ?_
      refine xe_aload_n dX0_windStar_38 rfl ?_
      refine xe_iload_n dX0_windStar_39 rfl ?_
      refine xe_iload dX0_windStar_40 rfl ?_
      refine e_callV (E_windOn hB h c30) dX0_windStar_42 kvX0_116 (bd_k hB) rfl ?_
      rintro v t ⟨rfl, hb, hfr⟩
      refine xe_iadd dX0_windStar_45 ?_
      rw [nI_add]
      refine xe_istore dX0_windStar_46 (by decide) ?_
      refine xe_inc dX0_windStar_48 rfl (by decide) ?_
      refine xe_goto 6 dX0_windStar_51 (by decide) ?_
      rw [nI_1]
      have key := ih σ0 t (wnd P j ((P.2.2.1 j + k) % 12)) (i + 1) (c + crA (P.2.2.1 j) ((P.2.2.1 j + k) % 12) P.2.2.2) N (.int (nI ((P.2.2.1 j + k) % 12))) hN (by omega) hb hj (hf.tr hfr)
      rw [Nat.add_assoc] at key
      exact key
    · have e : wst j k (n + 1) P = (P, 0, 0) := by
        show (if mayW P j ((P.2.2.1 j + k) % 12) = true then _ else _) = _
        rw [if_neg (by rw [c30]; decide)]
      rw [e]
      refine xe_iload dX0_windStar_33 rfl ?_
      exact xe_iret dX0_windStar_35 rfl ⟨rfl, h, hf⟩
theorem E_windStar0 (hB : IsBd B) (h : Bd σ B P) {j k n : Nat} (hj : j < P.1) (hk : k < 12) (hn : n < 2 ^ 31) : Cl xs L mX0_windStar [.ref B, .int (nI j), .int (nI k), .int (nI n)] GS σ GS (fun v t => v = some (.int (nI (wst j k n P).2.1)) ∧ Bd t B (wst j k n P).1 ∧ Fr σ t B) := by
  show Ev xs L mX0_windStar 0 [.ref B, .int (nI j), .int (nI k), .int (nI n), .null, .null, .null] [] GS σ GS _
  refine xe_iconst (v := nI 0) dX0_windStar_0 (by decide) ?_
  refine xe_istore dX0_windStar_1 (by decide) ?_
  refine xe_iconst (v := nI 0) dX0_windStar_3 (by decide) ?_
  refine xe_istore dX0_windStar_4 (by decide) ?_
  have := E_windStar (xs := xs) (L := L) hB hk n σ σ P 0 0 n .null hn (by omega) h hj (Fr.rf σ B)
  rw [Nat.zero_add] at this
  exact this
theorem E_becomeLike {O : Nat} (hB : IsBd B) (hO : IsBd O) (hne : B ≠ O) (h : Bd σ O P) : Cl xs L mX0_becomeLike [.ref B, .ref O] GS σ GS (fun v t => v = none ∧ Bd t B P ∧ Fr σ t B) := by
  show Ev xs L mX0_becomeLike 0 [.ref B, .ref O, .null] [] GS σ GS _
  obtain ⟨hp, hth, hz, h6⟩ := id h
  have h4 := hth.2.1
  have h48 := hz.2.1
  have ap := bd_apart B hB O hO hne
  refine xe_aload_n dX0_becomeLike_0 rfl ?_
  refine xe_aload_n dX0_becomeLike_1 rfl ?_
  refine e_getI dX0_becomeLike_2 fdX0_24 rfl (by first | exact bd_k hO | exact bd_k hB) hth.1 ?_
  refine xe_putI dX0_becomeLike_5 fdX0_24 rfl (by first | exact bd_k hO | exact bd_k hB) ?_
  refine xe_aload_n dX0_becomeLike_8 rfl ?_
  refine xe_aload_n dX0_becomeLike_9 rfl ?_
  refine e_getI dX0_becomeLike_10 fdX0_28 rfl (by first | exact bd_k hO | exact bd_k hB) (show _ = nI P.2.2.2.length by rw [xpi_rd, if_neg (by omega)]; exact hz.1) ?_
  refine xe_putI dX0_becomeLike_13 fdX0_28 rfl (by first | exact bd_k hO | exact bd_k hB) ?_
  refine xe_aload_n dX0_becomeLike_16 rfl ?_
  refine xe_aload_n dX0_becomeLike_17 rfl ?_
  refine e_getI dX0_becomeLike_18 fdX0_31 rfl (by first | exact bd_k hO | exact bd_k hB) (show _ = nI (crz P.2.2.2) by rw [xpi_rd, if_neg (by omega), xpi_rd, if_neg (by omega)]; exact h6) ?_
  refine xe_putI dX0_becomeLike_21 fdX0_31 rfl (by first | exact bd_k hO | exact bd_k hB) ?_
  refine xe_aload_n dX0_becomeLike_24 rfl ?_
  refine e_getA dX0_becomeLike_25 fdX0_9 rfl (bd_k hO) (bd_r0 hO) ?_
  refine xe_iconst (v := nI 0) dX0_becomeLike_28 (by decide) ?_
  refine xe_aload_n dX0_becomeLike_29 rfl ?_
  refine e_getA dX0_becomeLike_30 fdX0_9 rfl (bd_k hB) (bd_r0 hB) ?_
  refine xe_iconst (v := nI 0) dX0_becomeLike_33 (by decide) ?_
  refine xe_iconst (v := nI 4) dX0_becomeLike_34 (by decide) ?_
  refine e_copy dX0_becomeLike_35 gw366 (bd_k1 hO) (bd_k1 hB) (bd_n1 hO) (bd_n1 hB) (by decide) (by decide) ?_
  refine xe_aload_n dX0_becomeLike_38 rfl ?_
  refine e_getA dX0_becomeLike_39 fdX0_15 rfl (bd_k hO) (bd_r1 hO) ?_
  refine xe_iconst (v := nI 0) dX0_becomeLike_42 (by decide) ?_
  refine xe_aload_n dX0_becomeLike_43 rfl ?_
  refine e_getA dX0_becomeLike_44 fdX0_15 rfl (bd_k hB) (bd_r1 hB) ?_
  refine xe_iconst (v := nI 0) dX0_becomeLike_47 (by decide) ?_
  refine xe_iconst (v := nI 4) dX0_becomeLike_48 (by decide) ?_
  refine e_copy dX0_becomeLike_49 gw366 (bd_k2 hO) (bd_k2 hB) (bd_n2 hO) (bd_n2 hB) (by decide) (by decide) ?_
  refine xe_aload_n dX0_becomeLike_52 rfl ?_
  refine e_getA dX0_becomeLike_53 fdX0_18 rfl (bd_k hO) (bd_r2 hO) ?_
  refine xe_iconst (v := nI 0) dX0_becomeLike_56 (by decide) ?_
  refine xe_aload_n dX0_becomeLike_57 rfl ?_
  refine e_getA dX0_becomeLike_58 fdX0_18 rfl (bd_k hB) (bd_r2 hB) ?_
  refine xe_iconst (v := nI 0) dX0_becomeLike_61 (by decide) ?_
  refine xe_iconst (v := nI 4) dX0_becomeLike_62 (by decide) ?_
  refine e_copy dX0_becomeLike_63 gw366 (bd_k3 hO) (bd_k3 hB) (bd_n3 hO) (bd_n3 hB) (by decide) (by decide) ?_
  refine xe_iconst (v := nI 0) dX0_becomeLike_66 (by decide) ?_
  refine xe_istore_n dX0_becomeLike_67 (by decide) ?_
  generalize hτ : xcp (xcp (xcp (xpi (xpi (xpi σ B 4 (nI P.1)) B 5 (nI P.2.2.2.length)) B 6 (nI (crz P.2.2.2))) (O + 1) (B + 1)) (O + 2) (B + 2)) (O + 3) (B + 3) = τ
  have o4 : τ.1 (O + 4) = σ.1 (O + 4) := by rw [← hτ, xcp_ne _ _ (by omega), xcp_ne _ _ (by omega), xcp_ne _ _ (by omega), xpi_ne _ _ _ (by omega), xpi_ne _ _ _ (by omega), xpi_ne _ _ _ (by omega)]
  have f5 : τ.1 B 5 = nI P.2.2.2.length := by rw [← hτ, xcp_ne _ _ (by omega), xcp_ne _ _ (by omega), xcp_ne _ _ (by omega), xpi_rd, if_neg (by omega), xpi_rd, if_pos (by omega)]
  have key : ∀ k i (t : xS), i + k = P.2.2.2.length → (∀ p, p < i → t.1 (B + 4) p = σ.1 (O + 4) p) → (∀ c, c ≠ B + 4 → t.1 c = τ.1 c) → t.2 = τ.2 → Ev xs L mX0_becomeLike 68 [.ref B, .ref O, .int (nI i)] [] GS t GS (fun v t => v = none ∧ Bd t B P ∧ Fr σ t B) := by
    intro k
    induction k with
    | zero =>
      intro i t hi ha hc h2
      have e : i = P.2.2.2.length := by omega
      subst e
      have g5 : t.1 B 5 = nI P.2.2.2.length := by rw [hc B (by omega)]; exact f5
      refine xe_iload_n dX0_becomeLike_68 rfl ?_
      refine xe_aload_n dX0_becomeLike_69 rfl ?_
      refine e_getI dX0_becomeLike_70 fdX0_28 rfl (bd_k hB) g5 ?_
      refine xe_icmp_ge 94 dX0_becomeLike_73 (by decide) (fun _ => ?_) (fun c => absurd (nI_le (Nat.le_refl _) (by omega)) c)
      refine xe_vret dX0_becomeLike_94 rfl ⟨rfl, ⟨hp, ⟨?_, h4, fun u hu => ?_⟩, ⟨g5, h48, fun p s hs => ?_, hz.2.2.2⟩, ?_⟩, ?_, ?_⟩
      · rw [hc B (by omega), ← hτ, xcp_ne _ _ (by omega), xcp_ne _ _ (by omega), xcp_ne _ _ (by omega), xpi_rd, if_neg (by omega), xpi_rd, if_neg (by omega), xpi_rd, if_pos (by omega)]
      · obtain ⟨u1, u2, u3, u4, u5, u6⟩ := hth.2.2 u hu
        refine ⟨?_, ?_, ?_, u4, u5, u6⟩
        · rw [hc (B + 1) (by omega), ← hτ, xcp_ne _ _ (by omega), xcp_ne _ _ (by omega), xcp_at _ _ _ (by omega), xpi_rd, if_neg (by omega), xpi_rd, if_neg (by omega), xpi_rd, if_neg (by omega)]
          exact u1
        · rw [hc (B + 2) (by omega), ← hτ, xcp_ne _ _ (by omega), xcp_at _ _ _ (by omega), xcp_ne _ _ (by omega), xpi_rd, if_neg (by omega), xpi_rd, if_neg (by omega), xpi_rd, if_neg (by omega)]
          exact u2
        · rw [hc (B + 3) (by omega), ← hτ, xcp_at _ _ _ (by omega), xcp_ne _ _ (by omega), xcp_ne _ _ (by omega), xpi_rd, if_neg (by omega), xpi_rd, if_neg (by omega), xpi_rd, if_neg (by omega)]
          exact u3
      · rw [ha p (Ls.lt hs)]
        exact hz.2.2.1 p s hs
      · rw [hc B (by omega), ← hτ, xcp_ne _ _ (by omega), xcp_ne _ _ (by omega), xcp_ne _ _ (by omega), xpi_rd, if_pos (by omega)]
      · intro c hcc
        rw [hc c (by omega), ← hτ, xcp_ne _ _ (by omega), xcp_ne _ _ (by omega), xcp_ne _ _ (by omega), xpi_ne _ _ _ (by omega), xpi_ne _ _ _ (by omega), xpi_ne _ _ _ (by omega)]
      · rw [h2, ← hτ]
        rfl
    | succ k ih =>
      intro i t hi ha hc h2
      have g5 : t.1 B 5 = nI P.2.2.2.length := by rw [hc B (by omega)]; exact f5
      refine xe_iload_n dX0_becomeLike_68 rfl ?_
      refine xe_aload_n dX0_becomeLike_69 rfl ?_
      refine e_getI dX0_becomeLike_70 fdX0_28 rfl (bd_k hB) g5 ?_
      refine xe_icmp_ge 94 dX0_becomeLike_73 (by decide) (fun c => absurd c (nI_ge (by omega) (by omega))) (fun _ => ?_)
      refine xe_aload_n dX0_becomeLike_76 rfl ?_
      refine e_getA dX0_becomeLike_77 fdX0_21 rfl (bd_k hB) (bd_r3 hB) ?_
      refine xe_iload_n dX0_becomeLike_80 rfl ?_
      refine xe_aload_n dX0_becomeLike_81 rfl ?_
      refine e_getA dX0_becomeLike_82 fdX0_21 rfl (bd_k hO) (bd_r3 hO) ?_
      refine xe_iload_n dX0_becomeLike_85 rfl ?_
      refine e_iald dX0_becomeLike_86 (bd_k4 hO) (bd_n4 hO) (by omega) (by decide) (show _ = σ.1 (O + 4) i by rw [hc (O + 4) (by omega), o4]) ?_
      refine e_iast dX0_becomeLike_87 (bd_k4 hB) (bd_n4 hB) (by omega) (by decide) ?_
      refine xe_inc dX0_becomeLike_88 rfl (by decide) ?_
      refine xe_goto 68 dX0_becomeLike_91 (by decide) ?_
      rw [nI_1]
      refine ih (i + 1) _ (by omega) (fun p hp2 => ?_) (fun c hcc => (xpi_ne _ _ _ hcc).trans (hc c hcc)) h2
      by_cases e : p = i
      · rw [xpi_rd, if_pos (by omega), e]
      · rw [xpi_rd, if_neg (by omega)]
        exact ha p (by omega)
  exact key P.2.2.2.length 0 τ (by omega) (fun p hp2 => absurd hp2 (Nat.not_lt_zero _)) (fun _ _ => rfl) rfl
theorem E_X0_turnByOne_n (hB : IsBd B) (h : Bd σ B P) (kk : ∀ t : xS, (∀ p, p < P.1 → t.1 (B + 2) p = nI (rotN (P.2.2.1 p))) → (∀ c, c ≠ B + 2 → t.1 c = σ.1 c) → t.2 = σ.2 → ∀ w : Value, Ev xs L mX0_turnByOne 32 [.ref B, w] [] GS t GS (fun v t => v = none ∧ Bd t B (trnP P) ∧ Fr σ t B)) : ∀ k i (t : xS), i + k = P.1 → (∀ p, p < P.1 → t.1 (B + 2) p = if p < i then nI (rotN (P.2.2.1 p)) else nI (P.2.2.1 p)) → (∀ c, c ≠ B + 2 → t.1 c = σ.1 c) → t.2 = σ.2 → Ev xs L mX0_turnByOne 2 [.ref B, .int (nI i)] [] GS t GS (fun v t => v = none ∧ Bd t B (trnP P) ∧ Fr σ t B) := by
  obtain ⟨hp, hth, hz, h6⟩ := id h
  have h4 := hth.2.1
  intro k
  induction k with
  | zero =>
    intro i t hi ha hc h2
    have g4 : t.1 B 4 = nI P.1 := by rw [hc B (by omega)]; exact hth.1
    refine xe_iload_n dX0_turnByOne_2 rfl ?_
    refine xe_aload_n dX0_turnByOne_3 rfl ?_
    refine e_getI dX0_turnByOne_4 fdX0_24 rfl (bd_k hB) g4 ?_
    refine xe_icmp_ge 32 dX0_turnByOne_7 (by decide) (fun _ => ?_) (fun c => absurd (nI_le (by omega) (by omega)) c)
    exact kk t (fun p hp2 => by rw [ha p hp2, if_pos (by omega)]) hc h2 _
  | succ k ih =>
    intro i t hi ha hc h2
    have g4 : t.1 B 4 = nI P.1 := by rw [hc B (by omega)]; exact hth.1
    have hi2 : i < P.1 := by omega
    have ha12 := (hth.2.2 i hi2).2.2.2.2.1
    refine xe_iload_n dX0_turnByOne_2 rfl ?_
    refine xe_aload_n dX0_turnByOne_3 rfl ?_
    refine e_getI dX0_turnByOne_4 fdX0_24 rfl (bd_k hB) g4 ?_
    refine xe_icmp_ge 32 dX0_turnByOne_7 (by decide) (fun c => absurd c (nI_ge (by omega) (by omega))) (fun _ => ?_)
    refine xe_aload_n dX0_turnByOne_10 rfl ?_
    refine e_getA dX0_turnByOne_11 fdX0_15 rfl (bd_k hB) (bd_r1 hB) ?_
    refine xe_iload_n dX0_turnByOne_14 rfl ?_
    refine xe_aload_n dX0_turnByOne_15 rfl ?_
    refine e_getA dX0_turnByOne_16 fdX0_15 rfl (bd_k hB) (bd_r1 hB) ?_
    refine xe_iload_n dX0_turnByOne_19 rfl ?_
    refine e_iald dX0_turnByOne_20 (bd_k2 hB) (bd_n2 hB) (by omega) (by decide) (show _ = nI (P.2.2.1 i) by rw [ha i hi2, if_neg (by omega)]) ?_
    refine xe_iconst (v := nI 1) dX0_turnByOne_21 (by decide) ?_
    refine e_callSp (E_stepsOn) dX0_turnByOne_22 ksX0_113 rfl ?_
    rw [(rot_all _ ha12).1]
    refine e_iast dX0_turnByOne_25 (bd_k2 hB) (bd_n2 hB) (by omega) (by decide) ?_
    refine xe_inc dX0_turnByOne_26 rfl (by decide) ?_
    refine xe_goto 2 dX0_turnByOne_29 (by decide) ?_
    rw [nI_1]
    refine ih (i + 1) _ (by omega) (fun p hp2 => ?_) (fun c hcc => (xpi_ne _ _ _ hcc).trans (hc c hcc)) h2
    by_cases e : p = i
    · rw [xpi_rd, if_pos (by omega), if_pos (by omega), e]
    · rw [xpi_rd, if_neg (by omega), ha p hp2]
      by_cases e2 : p < i
      · rw [if_pos e2, if_pos (by omega)]
      · rw [if_neg e2, if_neg (by omega)]
theorem E_X0_turnByOne_z (hB : IsBd B) (h : Bd σ B P) (kk : ∀ t : xS, Ls t B (P.2.2.2.map (mpS rotN)) → (∀ p, p < P.1 → t.1 (B + 2) p = nI (rotN (P.2.2.1 p))) → (∀ c, c ≠ B + 2 → c ≠ B + 4 → t.1 c = σ.1 c) → t.2 = σ.2 → ∀ w : Value, Ev xs L mX0_turnByOne 85 [.ref B, w] [] GS t GS (fun v t => v = none ∧ Bd t B (trnP P) ∧ Fr σ t B)) : ∀ k i (w : List xSt) (t : xS), i + k = P.2.2.2.length → w.length = P.2.2.2.length → (∀ p, p < i → w[p]? = (P.2.2.2.map (mpS rotN))[p]?) → (∀ p, i ≤ p → w[p]? = P.2.2.2[p]?) → Ls t B w → (∀ p, p < P.1 → t.1 (B + 2) p = nI (rotN (P.2.2.1 p))) → (∀ c, c ≠ B + 2 → c ≠ B + 4 → t.1 c = σ.1 c) → t.2 = σ.2 → Ev xs L mX0_turnByOne 34 [.ref B, .int (nI i)] [] GS t GS (fun v t => v = none ∧ Bd t B (trnP P) ∧ Fr σ t B) := by
  have h48 := h.2.2.1.2.1
  intro k
  induction k with
  | zero =>
    intro i w t hi hwl hw1 hw2 hl hn hc h2
    have e : w = P.2.2.2.map (mpS rotN) := by
      apply List.ext_getElem?
      intro p
      by_cases hp2 : p < i
      · exact hw1 p hp2
      · rw [List.getElem?_eq_none (by omega), List.getElem?_eq_none (by rw [List.length_map]; omega)]
    refine xe_iload_n dX0_turnByOne_34 rfl ?_
    refine xe_aload_n dX0_turnByOne_35 rfl ?_
    refine e_getI dX0_turnByOne_36 fdX0_28 rfl (bd_k hB) hl.1 ?_
    refine xe_icmp_ge 85 dX0_turnByOne_39 (by decide) (fun _ => ?_) (fun c => absurd (nI_le (by omega) (by omega)) c)
    rw [e] at hl
    exact kk t hl hn hc h2 _
  | succ k ih =>
    intro i w t hi hwl hw1 hw2 hl hn hc h2
    have hil : i < P.2.2.2.length := by omega
    have hs0 : P.2.2.2[i]? = some P.2.2.2[i] := List.getElem?_eq_getElem hil
    have hs : w[i]? = some P.2.2.2[i] := (hw2 i (Nat.le_refl _)).trans hs0
    generalize P.2.2.2[i] = s at hs hs0
    obtain ⟨o1, o2, o3, o4⟩ := hl.so hs
    refine xe_iload_n dX0_turnByOne_34 rfl ?_
    refine xe_aload_n dX0_turnByOne_35 rfl ?_
    refine e_getI dX0_turnByOne_36 fdX0_28 rfl (bd_k hB) hl.1 ?_
    refine xe_icmp_ge 85 dX0_turnByOne_39 (by decide) (fun c => absurd c (nI_ge (by omega) (by omega))) (fun _ => ?_)
    refine xe_aload_n dX0_turnByOne_42 rfl ?_
    refine e_getA dX0_turnByOne_43 fdX0_21 rfl (bd_k hB) (bd_r3 hB) ?_
    refine xe_iload_n dX0_turnByOne_46 rfl ?_
    refine xe_aload_n dX0_turnByOne_47 rfl ?_
    refine xe_iload_n dX0_turnByOne_48 rfl ?_
    refine e_callVp (E_threadAt hB hl hs) dX0_turnByOne_49 kvX0_44 (bd_k hB) rfl ?_
    refine xe_aload_n dX0_turnByOne_52 rfl ?_
    refine xe_iload_n dX0_turnByOne_53 rfl ?_
    refine e_callVp (E_fromAt hB hl hs) dX0_turnByOne_54 kvX0_48 (bd_k hB) rfl ?_
    refine xe_iconst (v := nI 1) dX0_turnByOne_57 (by decide) ?_
    refine e_callSp (E_stepsOn) dX0_turnByOne_58 ksX0_113 rfl ?_
    rw [(rot_all _ o2).1]
    refine xe_aload_n dX0_turnByOne_61 rfl ?_
    refine xe_iload_n dX0_turnByOne_62 rfl ?_
    refine e_callVp (E_toAt hB hl hs) dX0_turnByOne_63 kvX0_51 (bd_k hB) rfl ?_
    refine xe_iconst (v := nI 1) dX0_turnByOne_66 (by decide) ?_
    refine e_callSp (E_stepsOn) dX0_turnByOne_67 ksX0_113 rfl ?_
    rw [(rot_all _ o3).1]
    refine xe_aload_n dX0_turnByOne_70 rfl ?_
    refine xe_iload_n dX0_turnByOne_71 rfl ?_
    refine e_callVp (E_placeAt hB hl hs) dX0_turnByOne_72 kvX0_101 (bd_k hB) rfl ?_
    refine e_callSp (E_packed o1 (rot_all _ o2).2 (rot_all _ o3).2 o4) dX0_turnByOne_75 ksX0_110 rfl ?_
    refine e_iast dX0_turnByOne_78 (bd_k4 hB) (bd_n4 hB) (by omega) (by decide) ?_
    refine xe_inc dX0_turnByOne_79 rfl (by decide) ?_
    refine xe_goto 34 dX0_turnByOne_82 (by decide) ?_
    rw [nI_1]
    refine ih (i + 1) (w.set i (mpS rotN s)) _ (by omega) (by rw [List.length_set]; exact hwl) (fun p hp2 => ?_) (fun p hp2 => ?_) (hl.set (by omega) ⟨o1, (rot_all _ o2).2, (rot_all _ o3).2, o4⟩) (fun p hp2 => by rw [xpi_ne _ _ _ (by omega)]; exact hn p hp2) (fun c c1 c2 => (xpi_ne _ _ _ c2).trans (hc c c1 c2)) h2
    · by_cases e : p = i
      · subst e
        rw [List.getElem?_set_self (by omega), List.getElem?_map, hs0]
        rfl
      · rw [List.getElem?_set_ne (Ne.symm e)]
        exact hw1 p (by omega)
    · rw [List.getElem?_set_ne (by omega)]
      exact hw2 p (by omega)
theorem E_turnByOne (hB : IsBd B) (h : Bd σ B P) : Cl xs L mX0_turnByOne [.ref B] GS σ GS (fun v t => v = none ∧ Bd t B (trnP P) ∧ Fr σ t B) := by
  show Ev xs L mX0_turnByOne 0 [.ref B, .null] [] GS σ GS _
  obtain ⟨hp, hth, hz, h6⟩ := id h
  have hok := trn_ok hp
  refine xe_iconst (v := nI 0) dX0_turnByOne_0 (by decide) ?_
  refine xe_istore_n dX0_turnByOne_1 (by decide) ?_
  refine E_X0_turnByOne_n hB h ?_ P.1 0 σ (by omega) (fun p hp2 => by rw [if_neg (by omega)]; exact (hth.2.2 p hp2).2.1) (fun _ _ => rfl) rfl
  intro t hn hc h2 w
  refine xe_iconst (v := nI 0) dX0_turnByOne_32 (by decide) ?_
  refine xe_istore_n dX0_turnByOne_33 (by decide) ?_
  refine E_X0_turnByOne_z hB h ?_ P.2.2.2.length 0 P.2.2.2 t (by omega) rfl (fun p hp2 => absurd hp2 (Nat.not_lt_zero _)) (fun _ _ => rfl) (hz.fr (by rw [hc B (by omega)]) (hc (B + 4) (by omega))) hn (fun c c1 _ => hc c c1) h2
  intro t hl hn hc h2 w
  refine xe_vret dX0_turnByOne_85 rfl ⟨rfl, ⟨hok, ⟨?_, hth.2.1, fun u hu => ?_⟩, hl, ?_⟩, fun c hcc => hc c (by omega) (by omega), h2⟩
  · rw [hc B (by omega) (by omega)]
    exact hth.1
  · obtain ⟨u1, u2, u3, u4, u5, u6⟩ := hth.2.2 u hu
    refine ⟨by rw [hc (B + 1) (by omega) (by omega)]; exact u1, hn u hu, ?_, hok.2.1 u hu⟩
    show _ = nI (cnt (P.2.2.2.map (mpS rotN)) u)
    rw [cnt_mp, hc (B + 3) (by omega) (by omega)]
    exact u3
  · show _ = nI (crz (P.2.2.2.map (mpS rotN)))
    rw [crz_mp rot_cr P.2.2.2 hz.2.2.2, hc B (by omega) (by omega)]
    exact h6
theorem E_X0_turnOver_n (hB : IsBd B) (h : Bd σ B P) (kk : ∀ t : xS, (∀ p, p < P.1 → t.1 (B + 2) p = nI (negN (P.2.2.1 p))) → (∀ c, c ≠ B + 2 → t.1 c = σ.1 c) → t.2 = σ.2 → ∀ w : Value, Ev xs L mX0_turnOver 33 [.ref B, w, .null, .null] [] GS t GS (fun v t => v = none ∧ Bd t B (ovrP P) ∧ Fr σ t B)) : ∀ k i (t : xS), i + k = P.1 → (∀ p, p < P.1 → t.1 (B + 2) p = if p < i then nI (negN (P.2.2.1 p)) else nI (P.2.2.1 p)) → (∀ c, c ≠ B + 2 → t.1 c = σ.1 c) → t.2 = σ.2 → Ev xs L mX0_turnOver 2 [.ref B, .int (nI i), .null, .null] [] GS t GS (fun v t => v = none ∧ Bd t B (ovrP P) ∧ Fr σ t B) := by
  obtain ⟨hp, hth, hz, h6⟩ := id h
  have h4 := hth.2.1
  intro k
  induction k with
  | zero =>
    intro i t hi ha hc h2
    have g4 : t.1 B 4 = nI P.1 := by rw [hc B (by omega)]; exact hth.1
    refine xe_iload_n dX0_turnOver_2 rfl ?_
    refine xe_aload_n dX0_turnOver_3 rfl ?_
    refine e_getI dX0_turnOver_4 fdX0_24 rfl (bd_k hB) g4 ?_
    refine xe_icmp_ge 33 dX0_turnOver_7 (by decide) (fun _ => ?_) (fun c => absurd (nI_le (by omega) (by omega)) c)
    exact kk t (fun p hp2 => by rw [ha p hp2, if_pos (by omega)]) hc h2 _
  | succ k ih =>
    intro i t hi ha hc h2
    have g4 : t.1 B 4 = nI P.1 := by rw [hc B (by omega)]; exact hth.1
    have hi2 : i < P.1 := by omega
    have ha12 := (hth.2.2 i hi2).2.2.2.2.1
    refine xe_iload_n dX0_turnOver_2 rfl ?_
    refine xe_aload_n dX0_turnOver_3 rfl ?_
    refine e_getI dX0_turnOver_4 fdX0_24 rfl (bd_k hB) g4 ?_
    refine xe_icmp_ge 33 dX0_turnOver_7 (by decide) (fun c => absurd c (nI_ge (by omega) (by omega))) (fun _ => ?_)
    refine xe_aload_n dX0_turnOver_10 rfl ?_
    refine e_getA dX0_turnOver_11 fdX0_15 rfl (bd_k hB) (bd_r1 hB) ?_
    refine xe_iload_n dX0_turnOver_14 rfl ?_
    refine xe_iconst (v := nI 0) dX0_turnOver_15 (by decide) ?_
    refine xe_aload_n dX0_turnOver_16 rfl ?_
    refine e_getA dX0_turnOver_17 fdX0_15 rfl (bd_k hB) (bd_r1 hB) ?_
    refine xe_iload_n dX0_turnOver_20 rfl ?_
    refine e_iald dX0_turnOver_21 (bd_k2 hB) (bd_n2 hB) (by omega) (by decide) (show _ = nI (P.2.2.1 i) by rw [ha i hi2, if_neg (by omega)]) ?_
    refine xe_ineg dX0_turnOver_22 ?_
    refine e_callSp (E_stepsOn) dX0_turnOver_23 ksX0_113 rfl ?_
    rw [(neg_all _ ha12).1]
    refine e_iast dX0_turnOver_26 (bd_k2 hB) (bd_n2 hB) (by omega) (by decide) ?_
    refine xe_inc dX0_turnOver_27 rfl (by decide) ?_
    refine xe_goto 2 dX0_turnOver_30 (by decide) ?_
    rw [nI_1]
    refine ih (i + 1) _ (by omega) (fun p hp2 => ?_) (fun c hcc => (xpi_ne _ _ _ hcc).trans (hc c hcc)) h2
    by_cases e : p = i
    · rw [xpi_rd, if_pos (by omega), if_pos (by omega), e]
    · rw [xpi_rd, if_neg (by omega), ha p hp2]
      by_cases e2 : p < i
      · rw [if_pos e2, if_pos (by omega)]
      · rw [if_neg e2, if_neg (by omega)]
theorem E_X0_turnOver_z (hB : IsBd B) (h : Bd σ B P) (kk : ∀ t : xS, Ls t B (P.2.2.2.map (mpS negN)) → (∀ p, p < P.1 → t.1 (B + 2) p = nI (negN (P.2.2.1 p))) → (∀ c, c ≠ B + 2 → c ≠ B + 4 → t.1 c = σ.1 c) → t.2 = σ.2 → ∀ w : Value, Ev xs L mX0_turnOver 88 [.ref B, w, .null, .null] [] GS t GS (fun v t => v = none ∧ Bd t B (ovrP P) ∧ Fr σ t B)) : ∀ k i (w : List xSt) (t : xS), i + k = P.2.2.2.length → w.length = P.2.2.2.length → (∀ p, p < i → w[p]? = (P.2.2.2.map (mpS negN))[p]?) → (∀ p, i ≤ p → w[p]? = P.2.2.2[p]?) → Ls t B w → (∀ p, p < P.1 → t.1 (B + 2) p = nI (negN (P.2.2.1 p))) → (∀ c, c ≠ B + 2 → c ≠ B + 4 → t.1 c = σ.1 c) → t.2 = σ.2 → Ev xs L mX0_turnOver 35 [.ref B, .int (nI i), .null, .null] [] GS t GS (fun v t => v = none ∧ Bd t B (ovrP P) ∧ Fr σ t B) := by
  have h48 := h.2.2.1.2.1
  intro k
  induction k with
  | zero =>
    intro i w t hi hwl hw1 hw2 hl hn hc h2
    have e : w = P.2.2.2.map (mpS negN) := by
      apply List.ext_getElem?
      intro p
      by_cases hp2 : p < i
      · exact hw1 p hp2
      · rw [List.getElem?_eq_none (by omega), List.getElem?_eq_none (by rw [List.length_map]; omega)]
    refine xe_iload_n dX0_turnOver_35 rfl ?_
    refine xe_aload_n dX0_turnOver_36 rfl ?_
    refine e_getI dX0_turnOver_37 fdX0_28 rfl (bd_k hB) hl.1 ?_
    refine xe_icmp_ge 88 dX0_turnOver_40 (by decide) (fun _ => ?_) (fun c => absurd (nI_le (by omega) (by omega)) c)
    rw [e] at hl
    exact kk t hl hn hc h2 _
  | succ k ih =>
    intro i w t hi hwl hw1 hw2 hl hn hc h2
    have hil : i < P.2.2.2.length := by omega
    have hs0 : P.2.2.2[i]? = some P.2.2.2[i] := List.getElem?_eq_getElem hil
    have hs : w[i]? = some P.2.2.2[i] := (hw2 i (Nat.le_refl _)).trans hs0
    generalize P.2.2.2[i] = s at hs hs0
    obtain ⟨o1, o2, o3, o4⟩ := hl.so hs
    refine xe_iload_n dX0_turnOver_35 rfl ?_
    refine xe_aload_n dX0_turnOver_36 rfl ?_
    refine e_getI dX0_turnOver_37 fdX0_28 rfl (bd_k hB) hl.1 ?_
    refine xe_icmp_ge 88 dX0_turnOver_40 (by decide) (fun c => absurd c (nI_ge (by omega) (by omega))) (fun _ => ?_)
    refine xe_aload_n dX0_turnOver_43 rfl ?_
    refine e_getA dX0_turnOver_44 fdX0_21 rfl (bd_k hB) (bd_r3 hB) ?_
    refine xe_iload_n dX0_turnOver_47 rfl ?_
    refine xe_aload_n dX0_turnOver_48 rfl ?_
    refine xe_iload_n dX0_turnOver_49 rfl ?_
    refine e_callVp (E_threadAt hB hl hs) dX0_turnOver_50 kvX0_44 (bd_k hB) rfl ?_
    refine xe_iconst (v := nI 0) dX0_turnOver_53 (by decide) ?_
    refine xe_aload_n dX0_turnOver_54 rfl ?_
    refine xe_iload_n dX0_turnOver_55 rfl ?_
    refine e_callVp (E_fromAt hB hl hs) dX0_turnOver_56 kvX0_48 (bd_k hB) rfl ?_
    refine xe_ineg dX0_turnOver_59 ?_
    refine e_callSp (E_stepsOn) dX0_turnOver_60 ksX0_113 rfl ?_
    rw [(neg_all _ o2).1]
    refine xe_iconst (v := nI 0) dX0_turnOver_63 (by decide) ?_
    refine xe_aload_n dX0_turnOver_64 rfl ?_
    refine xe_iload_n dX0_turnOver_65 rfl ?_
    refine e_callVp (E_toAt hB hl hs) dX0_turnOver_66 kvX0_51 (bd_k hB) rfl ?_
    refine xe_ineg dX0_turnOver_69 ?_
    refine e_callSp (E_stepsOn) dX0_turnOver_70 ksX0_113 rfl ?_
    rw [(neg_all _ o3).1]
    refine xe_aload_n dX0_turnOver_73 rfl ?_
    refine xe_iload_n dX0_turnOver_74 rfl ?_
    refine e_callVp (E_placeAt hB hl hs) dX0_turnOver_75 kvX0_101 (bd_k hB) rfl ?_
    refine e_callSp (E_packed o1 (neg_all _ o2).2 (neg_all _ o3).2 o4) dX0_turnOver_78 ksX0_110 rfl ?_
    refine e_iast dX0_turnOver_81 (bd_k4 hB) (bd_n4 hB) (by omega) (by decide) ?_
    refine xe_inc dX0_turnOver_82 rfl (by decide) ?_
    refine xe_goto 35 dX0_turnOver_85 (by decide) ?_
    rw [nI_1]
    refine ih (i + 1) (w.set i (mpS negN s)) _ (by omega) (by rw [List.length_set]; exact hwl) (fun p hp2 => ?_) (fun p hp2 => ?_) (hl.set (by omega) ⟨o1, (neg_all _ o2).2, (neg_all _ o3).2, o4⟩) (fun p hp2 => by rw [xpi_ne _ _ _ (by omega)]; exact hn p hp2) (fun c c1 c2 => (xpi_ne _ _ _ c2).trans (hc c c1 c2)) h2
    · by_cases e : p = i
      · subst e
        rw [List.getElem?_set_self (by omega), List.getElem?_map, hs0]
        rfl
      · rw [List.getElem?_set_ne (Ne.symm e)]
        exact hw1 p (by omega)
    · rw [List.getElem?_set_ne (by omega)]
      exact hw2 p (by omega)
theorem E_turnOver (hB : IsBd B) (h : Bd σ B P) : Cl xs L mX0_turnOver [.ref B] GS σ GS (fun v t => v = none ∧ Bd t B (ovrP P) ∧ Fr σ t B) := by
  show Ev xs L mX0_turnOver 0 [.ref B, .null, .null, .null] [] GS σ GS _
  obtain ⟨hp, hth, hz, h6⟩ := id h
  have hok := ovr_ok hp
  refine xe_iconst (v := nI 0) dX0_turnOver_0 (by decide) ?_
  refine xe_istore_n dX0_turnOver_1 (by decide) ?_
  refine E_X0_turnOver_n hB h ?_ P.1 0 σ (by omega) (fun p hp2 => by rw [if_neg (by omega)]; exact (hth.2.2 p hp2).2.1) (fun _ _ => rfl) rfl
  intro t hn hc h2 w
  refine xe_iconst (v := nI 0) dX0_turnOver_33 (by decide) ?_
  refine xe_istore_n dX0_turnOver_34 (by decide) ?_
  refine E_X0_turnOver_z hB h ?_ P.2.2.2.length 0 P.2.2.2 t (by omega) rfl (fun p hp2 => absurd hp2 (Nat.not_lt_zero _)) (fun _ _ => rfl) (hz.fr (by rw [hc B (by omega)]) (hc (B + 4) (by omega))) hn (fun c c1 _ => hc c c1) h2
  intro t hl hn hc h2 w
  generalize hz' : P.2.2.2.map (mpS negN) = zn at hl
  have h48 := hl.2.1
  have fin : ∀ u : xS, Ls u B zn.reverse → (∀ c, c ≠ B + 4 → u.1 c = t.1 c) → u.2 = t.2 → ∀ a b c : Value, Ev xs L mX0_turnOver 137 [.ref B, a, b, c] [] GS u GS (fun v t => v = none ∧ Bd t B (ovrP P) ∧ Fr σ t B) := by
    intro u hlu hcu h2u a b c
    refine xe_vret dX0_turnOver_137 rfl ⟨rfl, ⟨hok, ⟨?_, hth.2.1, fun x hx => ?_⟩, ?_, ?_⟩, fun c hcc => (hcu c (by omega)).trans (hc c (by omega) (by omega)), h2u.trans h2⟩
    · rw [hcu B (by omega), hc B (by omega) (by omega)]
      exact hth.1
    · obtain ⟨u1, u2, u3, u4, u5, u6⟩ := hth.2.2 x hx
      refine ⟨by rw [hcu (B + 1) (by omega), hc (B + 1) (by omega) (by omega)]; exact u1, by rw [hcu (B + 2) (by omega)]; exact hn x hx, ?_, hok.2.1 x hx⟩
      show _ = nI (cnt (P.2.2.2.map (mpS negN)).reverse x)
      rw [show cnt (P.2.2.2.map (mpS negN)).reverse x = cnt P.2.2.2 x by unfold cnt; rw [List.countP_reverse]; exact cnt_mp _ _ _, hcu (B + 3) (by omega), hc (B + 3) (by omega) (by omega)]
      exact u3
    · show Ls u B (P.2.2.2.map (mpS negN)).reverse
      rw [hz']
      exact hlu
    · show _ = nI (crz (P.2.2.2.map (mpS negN)).reverse)
      rw [hz', crz_rev zn hl.2.2.2, ← hz', crz_mp neg_cr P.2.2.2 hz.2.2.2, hcu B (by omega), hc B (by omega) (by omega)]
      exact h6
  have key : ∀ k lo (w : List xSt) (u : xS), 0 < zn.length → k = zn.length - lo → 2 * lo ≤ zn.length → w.length = zn.length → (∀ p, p < zn.length → w[p]? = if p < lo ∨ zn.length - lo ≤ p then zn[zn.length - 1 - p]? else zn[p]?) → Ls u B w → (∀ c, c ≠ B + 4 → u.1 c = t.1 c) → u.2 = t.2 → ∀ v : Value, Ev xs L mX0_turnOver 97 [.ref B, .int (nI lo), .int (nI (zn.length - 1 - lo)), v] [] GS u GS (fun v t => v = none ∧ Bd t B (ovrP P) ∧ Fr σ t B) := by
    intro k
    induction k with
    | zero =>
      intro lo w u h0 hk hlo hwl hw hlu hcu h2u v
      omega
    | succ k ih =>
      intro lo w u h0 hk hlo hwl hw hlu hcu h2u v
      refine xe_iload_n dX0_turnOver_97 rfl ?_
      refine xe_iload_n dX0_turnOver_98 rfl ?_
      refine xn_icmp_ge 137 dX0_turnOver_99 (by decide) (by omega) (by omega) (fun c99 => ?_) (fun c99 => ?_)
      · refine fin u ?_ hcu h2u _ _ _
        have e : w = zn.reverse := by
          apply List.ext_getElem?
          intro p
          by_cases hp2 : p < zn.length
          · rw [hw p hp2, List.getElem?_reverse hp2]
            by_cases e2 : p < lo ∨ zn.length - lo ≤ p
            · rw [if_pos e2]
            · rw [if_neg e2, show zn.length - 1 - p = p by omega]
          · rw [List.getElem?_eq_none (by omega), List.getElem?_eq_none (by rw [List.length_reverse]; omega)]
        rw [← e]
        exact hlu
      · have a1 : w[lo]? = some w[lo] := List.getElem?_eq_getElem (by omega)
        have a2 : w[zn.length - 1 - lo]? = some w[zn.length - 1 - lo] := List.getElem?_eq_getElem (by omega)
        have b1 := hw lo (by omega)
        have b2 := hw (zn.length - 1 - lo) (by omega)
        rw [if_neg (by omega)] at b1 b2
        generalize w[lo] = s1 at a1
        generalize w[zn.length - 1 - lo] = s2 at a2
        refine xe_aload_n dX0_turnOver_102 rfl ?_
        refine e_getA dX0_turnOver_103 fdX0_21 rfl (bd_k hB) (bd_r3 hB) ?_
        refine xe_iload_n dX0_turnOver_106 rfl ?_
        refine e_iald dX0_turnOver_107 (bd_k4 hB) (bd_n4 hB) (by omega) (by decide) (hlu.2.2.1 lo s1 a1) ?_
        refine xe_istore_n dX0_turnOver_108 (by decide) ?_
        refine xe_aload_n dX0_turnOver_109 rfl ?_
        refine e_getA dX0_turnOver_110 fdX0_21 rfl (bd_k hB) (bd_r3 hB) ?_
        refine xe_iload_n dX0_turnOver_113 rfl ?_
        refine xe_aload_n dX0_turnOver_114 rfl ?_
        refine e_getA dX0_turnOver_115 fdX0_21 rfl (bd_k hB) (bd_r3 hB) ?_
        refine xe_iload_n dX0_turnOver_118 rfl ?_
        refine e_iald dX0_turnOver_119 (bd_k4 hB) (bd_n4 hB) (by omega) (by decide) (hlu.2.2.1 (zn.length - 1 - lo) s2 a2) ?_
        refine e_iast dX0_turnOver_120 (bd_k4 hB) (bd_n4 hB) (by omega) (by decide) ?_
        refine xe_aload_n dX0_turnOver_121 rfl ?_
        refine e_getA dX0_turnOver_122 fdX0_21 rfl (bd_k hB) (bd_r3 hB) ?_
        refine xe_iload_n dX0_turnOver_125 rfl ?_
        refine xe_iload_n dX0_turnOver_126 rfl ?_
        refine e_iast dX0_turnOver_127 (bd_k4 hB) (bd_n4 hB) (by omega) (by decide) ?_
        refine xe_inc dX0_turnOver_128 rfl (by decide) ?_
        refine xe_iinc (v := nI (zn.length - 1 - (lo + 1))) dX0_turnOver_131 rfl ?_ (by decide) ?_
        · rw [show zn.length - 1 - lo = (zn.length - 1 - (lo + 1)) + 1 by omega]
          exact pk_m1 _
        refine xe_goto 97 dX0_turnOver_134 (by decide) ?_
        rw [nI_1]
        refine ih (lo + 1) ((w.set lo s2).set (zn.length - 1 - lo) s1) _ h0 (by omega) (by omega) (by rw [List.length_set, List.length_set]; exact hwl) (fun p hp2 => ?_) ((hlu.set (by omega) (hlu.so a2)).set (by rw [List.length_set]; omega) (hlu.so a1)) (fun c hcc => (xpi_ne _ _ _ hcc).trans ((xpi_ne _ _ _ hcc).trans (hcu c hcc))) h2u _
        by_cases e1 : p = zn.length - 1 - lo
        · rw [e1, List.getElem?_set_self (by rw [List.length_set]; omega), if_pos (by omega), show zn.length - 1 - (zn.length - 1 - lo) = lo by omega, ← b1, a1]
        · rw [List.getElem?_set_ne (Ne.symm e1)]
          by_cases e2 : p = lo
          · rw [e2, List.getElem?_set_self (by omega), if_pos (by omega), ← b2, a2]
          · rw [List.getElem?_set_ne (Ne.symm e2), hw p hp2]
            by_cases e3 : p < lo ∨ zn.length - lo ≤ p
            · rw [if_pos e3, if_pos (by omega)]
            · rw [if_neg e3, if_neg (by omega)]
  refine xe_iconst (v := nI 0) dX0_turnOver_88 (by decide) ?_
  refine xe_istore_n dX0_turnOver_89 (by decide) ?_
  refine xe_aload_n dX0_turnOver_90 rfl ?_
  refine e_getI dX0_turnOver_91 fdX0_28 rfl (bd_k hB) hl.1 ?_
  refine xe_iconst (v := nI 1) dX0_turnOver_94 (by decide) ?_
  refine xe_isub dX0_turnOver_95 ?_
  by_cases h0 : 0 < zn.length
  · rw [pk_sub (by omega)]
    refine xe_istore_n dX0_turnOver_96 (by decide) ?_
    exact key zn.length 0 zn t h0 (by omega) (by omega) rfl (fun p hp2 => by rw [if_neg (by omega)]) hl (fun _ _ => rfl) rfl _
  · have e0 : zn = [] := List.length_eq_zero_iff.mp (by omega)
    rw [show nI zn.length - nI 1 = -1 by rw [e0]; decide]
    refine xe_istore_n dX0_turnOver_96 (by decide) ?_
    refine xe_iload_n dX0_turnOver_97 rfl ?_
    refine xe_iload_n dX0_turnOver_98 rfl ?_
    refine xe_icmp_ge 137 dX0_turnOver_99 (by decide) (fun _ => ?_) (fun c => absurd (by decide) c)
    exact fin t (by rw [e0] at hl ⊢; exact hl) (fun _ _ => rfl) rfl _ _ _
end TN
