/-! the calls of the object -/
abbrev pA (σ : xS) (r : Int32 × yA) : Option Value → xS → Prop := fun v t => v = some (.int r.1) ∧ IC t r.2 ∧ FC σ t
theorem thQ_f {T : Nat} {x : Int32} (h : hasT T x = false) : thQ T x = none := by unfold thQ; rw [h]; rfl
theorem thQ_n {T j : Nat} (hT : T < 2 ^ 31) (hj : j < T) : thQ T (nI j) = some j := by
  unfold thQ
  rw [hasT_n hT (by omega), decide_eq_true hj, nI_clamp (by omega)]
  rfl
theorem sel_out {x : Int32} {n : Nat} (hn : n < 2 ^ 31) (h : outQ x 0 n = true) : sel x n = none := by
  cases hs : sel x n with
  | none => rfl
  | some k =>
    obtain ⟨h1, rfl⟩ := sel_some hn hs
    rw [outQ_n hn (Nat.zero_le _) h1] at h
    exact absurd h (by decide)
theorem wst_cnt (j k : Nat) : ∀ n (P : xP), cnt (wst j k n P).1.2.2.2 j = cnt P.2.2.2 j + (wst j k n P).2.2
  | 0, P => rfl
  | n + 1, P => by
    by_cases c : mayW P j ((P.2.2.1 j + k) % 12) = true
    · have e : wst j k (n + 1) P = ((wst j k n (wnd P j ((P.2.2.1 j + k) % 12))).1, crA (P.2.2.1 j) ((P.2.2.1 j + k) % 12) P.2.2.2 + (wst j k n (wnd P j ((P.2.2.1 j + k) % 12))).2.1, (wst j k n (wnd P j ((P.2.2.1 j + k) % 12))).2.2 + 1) := if_pos c
      rw [e]
      have ih := wst_cnt j k n (wnd P j ((P.2.2.1 j + k) % 12))
      have e2 : cnt (wnd P j ((P.2.2.1 j + k) % 12)).2.2.2 j = cnt P.2.2.2 j + 1 := by
        show cnt (P.2.2.2 ++ [_]) j = _
        rw [cnt_app, if_pos rfl]
      show cnt (wst j k n (wnd P j ((P.2.2.1 j + k) % 12))).1.2.2.2 j = cnt P.2.2.2 j + ((wst j k n (wnd P j ((P.2.2.1 j + k) % 12))).2.2 + 1)
      omega
    · have e : wst j k (n + 1) P = (P, 0, 0) := if_neg c
      rw [e]
      rfl
theorem lvy_T (P : xP) (d : Nat) : (lvy P d).1 = P.1 ∧ (lvy P d).2.1 = P.2.1 := by
  have hW : ∀ j n, ((doW P j n).getD P).1 = P.1 ∧ ((doW P j n).getD P).2.1 = P.2.1 := by
    intro j n
    unfold doW
    split <;> exact ⟨rfl, rfl⟩
  have hU : ∀ j, ((doU P j).getD P).1 = P.1 ∧ ((doU P j).getD P).2.1 = P.2.1 := by
    intro j
    unfold doU
    split
    · split
      · exact ⟨rfl, rfl⟩
      · split <;> exact ⟨rfl, rfl⟩
    · exact ⟨rfl, rfl⟩
  have hC : ∀ j, ((doC P j).getD P).1 = P.1 ∧ ((doC P j).getD P).2.1 = P.2.1 := by
    intro j
    unfold doC
    split <;> exact ⟨rfl, rfl⟩
  unfold lvy
  split
  · exact hW _ _
  split
  · exact hU _
  split
  · exact hC _
  split <;> exact ⟨rfl, rfl⟩
section CA
variable {xs : Nat → Int32} {L : Nat} {σ : xS} {A : yA}
theorem E_out {G : xG} {x : Int32} {a b : Nat} : Cl xs L mX10_isOutside [.int x, .int (nI a), .int (nI b)] G σ G (pI σ (bI (outQ x a b))) := E_isOutside
theorem pA_q {x : Int32} {t : xS} (h : IC σ A) (h2 : t.1 2 1 = σ.1 2 1) (hc : ∀ c, c ≠ 2 → (c < 9 ∨ 13 < c) → (c < 103 ∨ 109 < c) → t.1 c = σ.1 c) (e : t.2 = σ.2) : pA σ (x, A) (some (.int x)) t := ⟨rfl, h.q h2 (fun c c1 c2 c3 => hc c c1 c2 (by omega)) (by rw [e]), FC.of (fun c c1 => hc c (by omega) (by omega) (by omega)) e⟩
theorem pA_0 {x : Int32} (h : IC σ A) : pA σ (x, A) (some (.int x)) σ := ⟨rfl, h, FC.rf σ⟩
theorem pA_e {x y : Int32} (h : IC σ A) (e : x = y) : pA σ (y, A) (some (.int x)) σ := by subst e; exact pA_0 h
theorem C_write (h : IC σ A) {x : Int32} : Cl xs L mX10_write [.ref 1, .int x] GS σ GS (pA σ (aWrite A x)) := by
  show Ev xs L mX10_write 0 [.ref 1, .int x] [] GS σ GS _
  refine xe_iload_n dX10_write_0 rfl ?_
  refine xe_iconst (v := nI 0) dX10_write_1 (by decide) ?_
  refine xe_sipush (v := nI 255) dX10_write_2 (by decide) ?_
  refine e_callSp (E_out) dX10_write_5 ksX10_72 rfl ?_
  unfold aWrite
  refine xz_if_eq 14 dX10_write_8 (by decide) (fun c => ?_) (fun c => ?_)
  · rw [if_neg (by rw [c]; decide)]
    obtain ⟨j, -, hj, rfl⟩ := outQ_of (by decide) (by decide) c
    rw [nI_clamp (by omega)]
    refine xe_aload_n dX10_write_14 rfl ?_
    refine e_getO (G := GS) (r := 1) dX10_write_15 fdX10_10 rfl gk_1 gr_1_0 ?_
    refine xe_iload_n dX10_write_18 rfl ?_
    refine e_callV (G := GS) (r := 2) (E_tadd h.1 (show j < 256 by omega)) dX10_write_19 kvX10_76 gk_2 rfl ?_
    rintro v t ⟨rfl, ht⟩
    by_cases c2 : A.1.length < 48
    · rw [if_pos c2] at ht ⊢
      rw [decide_eq_true c2]
      obtain ⟨t1, t2, t3⟩ := ht
      refine xe_if_eq 35 dX10_write_22 (by decide) (fun c => absurd c (show ¬ bI true = 0 by decide)) (fun _ => ?_)
      refine xe_aload_n dX10_write_25 rfl ?_
      refine e_getO (G := GS) (r := 1) dX10_write_26 fdX10_10 rfl gk_1 gr_1_0 ?_
      refine e_callVp (G := GS) (r := 2) (E_tlength t1) dX10_write_29 kvX10_80 gk_2 rfl ?_
      refine xe_goto 37 dX10_write_32 (by decide) ?_
      refine xe_iret dX10_write_37 rfl ⟨by rw [List.length_append]; rfl, ?_, FC.of (fun c c1 => t2 c (by omega) (by omega)) t3⟩
      obtain ⟨a1, a2, a3, a4, a5, a6⟩ := h
      exact ⟨t1, a2.to (fun c c1 c2 => t2 c (by omega) (by omega)), a3.to (t2 14 (by omega) (by omega)) (fun c c1 c2 => t2 c (by omega) (by omega)), a4.to (fun c c1 c2 => t2 c (by omega) (by omega)), a5.to (fun c c1 c2 => t2 c (by omega) (by omega)), by rw [t3]; exact a6⟩
    · rw [if_neg c2] at ht ⊢
      rw [decide_eq_false c2, ht]
      refine xe_if_eq 35 dX10_write_22 (by decide) (fun _ => ?_) (fun c => absurd rfl c)
      refine xe_bipush (v := -4) dX10_write_35 (by decide) ?_
      exact xe_iret dX10_write_37 rfl (pA_0 h)
  · rw [if_pos c]
    refine xe_bipush (v := -2) dX10_write_11 (by decide) ?_
    exact xe_iret dX10_write_13 rfl (pA_0 h)
theorem C_wipe (h : IC σ A) : Cl xs L mX10_wipe [.ref 1] GS σ GS (pA σ (aWipe A)) := by
  show Ev xs L mX10_wipe 0 [.ref 1, .null] [] GS σ GS _
  refine xe_aload_n dX10_wipe_0 rfl ?_
  refine e_getO (G := GS) (r := 1) dX10_wipe_1 fdX10_10 rfl gk_1 gr_1_0 ?_
  refine e_callVp (G := GS) (r := 2) (E_tlength h.1) dX10_wipe_4 kvX10_80 gk_2 rfl ?_
  refine xe_istore_n dX10_wipe_7 (by decide) ?_
  refine xe_aload_n dX10_wipe_8 rfl ?_
  refine e_getO (G := GS) (r := 1) dX10_wipe_9 fdX10_10 rfl gk_1 gr_1_0 ?_
  refine e_callV (G := GS) (r := 2) (E_tclear) dX10_wipe_12 kvX10_84 gk_2 rfl ?_
  rintro v t ⟨rfl, rfl⟩
  refine xe_iload_n dX10_wipe_15 rfl ?_
  obtain ⟨a1, a2, a3, a4, a5, a6⟩ := h
  have e : ∀ c, c ≠ 2 → (xpi σ 2 1 (nI 0)).1 c = σ.1 c := fun c c1 => xpi_ne _ _ _ c1
  have tn : Tx (xpi σ 2 1 (nI 0)) [] := ⟨by rw [xpi_rd, if_pos (by omega)]; rfl, by decide, fun i c hc => (by cases hc), fun c hc => absurd hc List.not_mem_nil⟩
  exact xe_iret dX10_wipe_16 rfl ⟨rfl, ⟨tn, a2.to (fun c c1 c2 => e c (by omega)), a3.to (e 14 (by omega)) (fun c c1 c2 => e c (by omega)), a4.to (fun c c1 c2 => e c (by omega)), a5.to (fun c c1 c2 => e c (by omega)), a6⟩, FC.of (fun c c1 => e c (by omega)) rfl⟩
theorem C_fault (h : IC σ A) : Cl xs L mX10_fault [.ref 1] GS σ GS (pA σ (aFault A, A)) := by
  show Ev xs L mX10_fault 0 [.ref 1] [] GS σ GS _
  refine xe_aload_n dX10_fault_0 rfl ?_
  refine e_getO (G := GS) (r := 1) dX10_fault_1 fdX10_10 rfl gk_1 gr_1_0 ?_
  refine xe_aload_n dX10_fault_4 rfl ?_
  refine e_getO (G := GS) (r := 1) dX10_fault_5 fdX10_23 rfl gk_1 gr_1_2 ?_
  refine e_callV (G := GS) (r := 2) (E_readOnto bd_9 h.1) dX10_fault_8 kvX10_87 gk_2 rfl ?_
  rintro v t ⟨rfl, -, f1, f2, f3⟩
  exact xe_iret dX10_fault_11 rfl (pA_q h f2 (fun c c1 c2 c3 => f1 c c1 c2) f3)
theorem C_board (h : IC σ A) : Cl xs L mX10_board [.ref 1] GS σ GS (pA σ (aBoard A)) := by
  show Ev xs L mX10_board 0 [.ref 1] [] GS σ GS _
  refine xe_aload_n dX10_board_0 rfl ?_
  refine e_getO (G := GS) (r := 1) dX10_board_1 fdX10_10 rfl gk_1 gr_1_0 ?_
  refine xe_aload_n dX10_board_4 rfl ?_
  refine e_getO (G := GS) (r := 1) dX10_board_5 fdX10_23 rfl gk_1 gr_1_2 ?_
  refine e_callV (G := GS) (r := 2) (E_readOnto bd_9 h.1) dX10_board_8 kvX10_87 gk_2 rfl ?_
  rintro v t ⟨rfl, hb, f1, f2, f3⟩
  unfold aBoard
  refine xe_bipush (v := -9) dX10_board_11 (by decide) ?_
  by_cases cc : (rdB A.1).1 = -9
  · rw [if_pos cc]
    have hb := hb cc
    refine xe_icmp_eq 19 dX10_board_13 (by decide) (fun _ => ?_) (fun c => absurd cc c)
    refine xe_aload_n dX10_board_19 rfl ?_
    refine e_getO (G := GS) (r := 1) dX10_board_20 fdX10_19 rfl gk_1 gr_1_1 ?_
    refine xe_aload_n dX10_board_23 rfl ?_
    refine e_getO (G := GS) (r := 1) dX10_board_24 fdX10_23 rfl gk_1 gr_1_2 ?_
    refine e_callV (E_becomeLike bd_4 bd_9 (by decide) hb) dX10_board_27 kvX10_91 (by first | exact bd_k bd_4 | exact bd_k bd_9) rfl ?_
    rintro v u ⟨rfl, hu, fu⟩
    refine xe_aload_n dX10_board_30 rfl ?_
    refine e_getO (G := GS) (r := 1) dX10_board_31 fdX10_29 rfl gk_1 gr_1_3 ?_
    refine e_callV (G := GS) (r := 14) (E_hclear) dX10_board_34 kvX10_95 gk_14 rfl ?_
    rintro v w ⟨rfl, hw, fw⟩
    refine xe_aload_n dX10_board_37 rfl ?_
    refine e_getO (G := GS) (r := 1) dX10_board_38 fdX10_36 rfl gk_1 gr_1_4 ?_
    refine e_callV (G := GS) (r := 86) (E_sclear) dX10_board_41 kvX10_96 gk_86 rfl ?_
    rintro v y ⟨rfl, hy, fy1, fy2⟩
    have hb4 : Bd y 4 (rdB A.1).2 := hu.to (fun c c1 c2 => (fy1 c (by omega)).trans (fw.1 c (by omega) (by omega)))
    refine xe_aload_n dX10_board_44 rfl ?_
    refine e_getO (G := GS) (r := 1) dX10_board_45 fdX10_19 rfl gk_1 gr_1_1 ?_
    refine e_callVp (E_threads bd_4 hb4.2.1) dX10_board_48 kvX10_97 (by first | exact bd_k bd_4 | exact bd_k bd_9) rfl ?_
    have e : ∀ c, c ≠ 2 → c ≠ 88 → c ≠ 14 → (c < 4 ∨ 85 < c) → y.1 c = σ.1 c := fun c c1 c2 c3 c4 => (fy1 c c2).trans ((fw.1 c c3 (by omega)).trans ((fu.1 c (by omega)).trans (f1 c c1 (by omega))))
    have e2 : y.2 = σ.2 := by rw [fy2, fw.2, fu.2, f3]
    obtain ⟨a1, a2, a3, a4, a5, a6⟩ := h
    exact xe_iret dX10_board_51 rfl ⟨rfl, ⟨a1.to (by rw [fy1 2 (by omega), fw.1 2 (by omega) (by omega), fu.1 2 (by omega)]; exact f2) (e 3 (by omega) (by omega) (by omega) (by omega)), hb4, hw.to (fy1 14 (by omega)) (fun c c1 c2 => fy1 c (by omega)), hy, a5.to (fun c c1 c2 => e c (by omega) (by omega) (by omega) (by omega)), by rw [e2]; exact a6⟩, FC.of (fun c c1 => e c (by omega) (by omega) (by omega) (by omega)) e2⟩
  · rw [if_neg cc]
    refine xe_icmp_eq 19 dX10_board_13 (by decide) (fun c => absurd c cc) (fun _ => ?_)
    refine xe_bipush (v := -3) dX10_board_16 (by decide) ?_
    exact xe_iret dX10_board_18 rfl (pA_q h f2 (fun c c1 c2 c3 => f1 c c1 c2) f3)
theorem C_thread (h : IC σ A) {x w : Int32} : Cl xs L mX10_thread [.ref 1, .int x, .int w] GS σ GS (pA σ (aThread A x w, A)) := by
  show Ev xs L mX10_thread 0 [.ref 1, .int x, .int w] [] GS σ GS _
  have hb := h.2.1
  have h4 := hb.1.1
  refine xe_aload_n dX10_thread_0 rfl ?_
  refine e_getO (G := GS) (r := 1) dX10_thread_1 fdX10_19 rfl gk_1 gr_1_1 ?_
  refine xe_iload_n dX10_thread_4 rfl ?_
  refine e_callVp (E_hasThread bd_4 hb.2.1.1) dX10_thread_5 kvX10_100 (by first | exact bd_k bd_4 | exact bd_k bd_9) rfl ?_
  refine xz_if_ne 13 dX10_thread_8 (by decide) (fun c => ?_) (fun c => ?_)
  · obtain ⟨j, hj, rfl⟩ := hasT_of (by omega) c
    have e0 : aThread A (nI j) w = thR A.2.1 j w := by unfold aThread; rw [thQ_n (by omega) hj]
    rw [e0]
    unfold thR
    refine xe_iload_n dX10_thread_13 rfl ?_
    cases hs : sel w 5 with
    | none =>
      refine xe_tableOut 114 dX10_thread_14 (sel_none hs) (by decide) ?_
      refine xe_bipush (v := -2) dX10_thread_114 (by decide) ?_
      exact xe_iret dX10_thread_116 rfl (pA_0 h)
    | some k =>
      obtain ⟨hk, rfl⟩ := sel_some (by decide) hs
      match k, hk with
      | 0, _ =>
        refine xe_tableIn 52 dX10_thread_14 (by decide) (by decide) rfl (by decide) ?_
        refine xe_aload_n dX10_thread_52 rfl ?_
        refine e_getO (G := GS) (r := 1) dX10_thread_53 fdX10_19 rfl gk_1 gr_1_1 ?_
        refine xe_iload_n dX10_thread_56 rfl ?_
        refine e_callVp (E_nailOf bd_4 hb.2.1 hj) dX10_thread_57 kvX10_103 (by first | exact bd_k bd_4 | exact bd_k bd_9) rfl ?_
        exact xe_iret dX10_thread_60 rfl (pA_0 h)
      | 1, _ =>
        refine xe_tableIn 61 dX10_thread_14 (by decide) (by decide) rfl (by decide) ?_
        refine xe_aload_n dX10_thread_61 rfl ?_
        refine e_getO (G := GS) (r := 1) dX10_thread_62 fdX10_19 rfl gk_1 gr_1_1 ?_
        refine xe_iload_n dX10_thread_65 rfl ?_
        refine e_callVp (E_kindOf bd_4 hb.2.1 hj) dX10_thread_66 kvX10_107 (by first | exact bd_k bd_4 | exact bd_k bd_9) rfl ?_
        exact xe_iret dX10_thread_69 rfl (pA_0 h)
      | 2, _ =>
        refine xe_tableIn 70 dX10_thread_14 (by decide) (by decide) rfl (by decide) ?_
        refine xe_aload_n dX10_thread_70 rfl ?_
        refine e_getO (G := GS) (r := 1) dX10_thread_71 fdX10_19 rfl gk_1 gr_1_1 ?_
        refine xe_iload_n dX10_thread_74 rfl ?_
        refine e_callVp (E_stretchesOf bd_4 hb.2.1 hb.hc0 (by omega)) dX10_thread_75 kvX10_110 (by first | exact bd_k bd_4 | exact bd_k bd_9) rfl ?_
        exact xe_iret dX10_thread_78 rfl (pA_0 h)
      | 3, _ =>
        refine xe_tableIn 79 dX10_thread_14 (by decide) (by decide) rfl (by decide) ?_
        refine xe_aload_n dX10_thread_79 rfl ?_
        refine e_getO (G := GS) (r := 1) dX10_thread_80 fdX10_19 rfl gk_1 gr_1_1 ?_
        refine xe_iload_n dX10_thread_83 rfl ?_
        refine e_callVp (E_lengthOf bd_4 hb.2.2.1 (by omega)) dX10_thread_84 kvX10_113 (by first | exact bd_k bd_4 | exact bd_k bd_9) rfl ?_
        exact xe_iret dX10_thread_87 rfl (pA_0 h)
      | 4, _ =>
        refine xe_tableIn 88 dX10_thread_14 (by decide) (by decide) rfl (by decide) ?_
        refine xe_aload_n dX10_thread_88 rfl ?_
        refine e_getO (G := GS) (r := 1) dX10_thread_89 fdX10_19 rfl gk_1 gr_1_1 ?_
        refine xe_iload_n dX10_thread_92 rfl ?_
        refine e_callVp (E_openNails bd_4 hb.2.1 hb.2.2.1 (by omega)) dX10_thread_93 kvX10_116 (by first | exact bd_k bd_4 | exact bd_k bd_9) rfl ?_
        exact xe_iret dX10_thread_96 rfl (pA_0 h)
      | 5, _ =>
        refine xe_tableIn 97 dX10_thread_14 (by decide) (by decide) rfl (by decide) ?_
        refine xe_aload_n dX10_thread_97 rfl ?_
        refine e_getO (G := GS) (r := 1) dX10_thread_98 fdX10_19 rfl gk_1 gr_1_1 ?_
        refine xe_iload_n dX10_thread_101 rfl ?_
        refine e_callVp (E_mayUnwind bd_4 hb.2.1 hb.2.2.1 hb.hc0 (by omega)) dX10_thread_102 kvX10_119 (by first | exact bd_k bd_4 | exact bd_k bd_9) rfl ?_
        refine xz_if_eq 112 dX10_thread_105 (by decide) (fun d => ?_) (fun d => ?_)
        · refine xe_iconst (v := nI 0) dX10_thread_112 (by decide) ?_
          exact xe_iret dX10_thread_113 rfl (pA_e h (by rw [d]; rfl))
        · refine xe_iconst (v := nI 1) dX10_thread_108 (by decide) ?_
          refine xe_goto 113 dX10_thread_109 (by decide) ?_
          exact xe_iret dX10_thread_113 rfl (pA_e h (by rw [d]; rfl))
      | k + 6, hk => omega
  · refine xe_iconst (v := -1) dX10_thread_11 (by decide) ?_
    exact xe_iret dX10_thread_12 rfl (pA_e h (by unfold aThread; rw [thQ_f c]))
theorem C_stretch (h : IC σ A) {x w : Int32} : Cl xs L mX10_stretch [.ref 1, .int x, .int w] GS σ GS (pA σ (aStretch A x w, A)) := by
  show Ev xs L mX10_stretch 0 [.ref 1, .int x, .int w] [] GS σ GS _
  have hb := h.2.1
  have h48 := hb.2.2.1.2.1
  refine xe_aload_n dX10_stretch_0 rfl ?_
  refine e_getO (G := GS) (r := 1) dX10_stretch_1 fdX10_19 rfl gk_1 gr_1_1 ?_
  refine xe_iload_n dX10_stretch_4 rfl ?_
  refine e_callVp (E_hasStretch bd_4 hb.2.2.1.1) dX10_stretch_5 kvX10_122 (by first | exact bd_k bd_4 | exact bd_k bd_9) rfl ?_
  refine xz_if_ne 13 dX10_stretch_8 (by decide) (fun c => ?_) (fun c => ?_)
  · obtain ⟨i, hi, rfl⟩ := hasT_of (by omega) c
    have hs : A.2.1.2.2.2[i]? = some A.2.1.2.2.2[i] := List.getElem?_eq_getElem hi
    generalize A.2.1.2.2.2[i] = s at hs
    have e0 : aStretch A (nI i) w = stR A.2.1.2.2.2 i s w := by unfold aStretch; rw [thQ_n (by omega) hi]; dsimp only; rw [hs]
    rw [e0]
    unfold stR
    refine xe_iload_n dX10_stretch_13 rfl ?_
    cases hw : sel w 5 with
    | none =>
      refine xe_tableOut 110 dX10_stretch_14 (sel_none hw) (by decide) ?_
      refine xe_bipush (v := -2) dX10_stretch_110 (by decide) ?_
      exact xe_iret dX10_stretch_112 rfl (pA_0 h)
    | some k =>
      obtain ⟨hk, rfl⟩ := sel_some (by decide) hw
      match k, hk with
      | 0, _ =>
        refine xe_tableIn 52 dX10_stretch_14 (by decide) (by decide) rfl (by decide) ?_
        refine xe_aload_n dX10_stretch_52 rfl ?_
        refine e_getO (G := GS) (r := 1) dX10_stretch_53 fdX10_19 rfl gk_1 gr_1_1 ?_
        refine xe_iload_n dX10_stretch_56 rfl ?_
        refine e_callVp (E_threadAt bd_4 hb.2.2.1 hs) dX10_stretch_57 kvX10_125 (by first | exact bd_k bd_4 | exact bd_k bd_9) rfl ?_
        exact xe_iret dX10_stretch_60 rfl (pA_0 h)
      | 1, _ =>
        refine xe_tableIn 61 dX10_stretch_14 (by decide) (by decide) rfl (by decide) ?_
        refine xe_aload_n dX10_stretch_61 rfl ?_
        refine e_getO (G := GS) (r := 1) dX10_stretch_62 fdX10_19 rfl gk_1 gr_1_1 ?_
        refine xe_iload_n dX10_stretch_65 rfl ?_
        refine e_callVp (E_fromAt bd_4 hb.2.2.1 hs) dX10_stretch_66 kvX10_128 (by first | exact bd_k bd_4 | exact bd_k bd_9) rfl ?_
        exact xe_iret dX10_stretch_69 rfl (pA_0 h)
      | 2, _ =>
        refine xe_tableIn 70 dX10_stretch_14 (by decide) (by decide) rfl (by decide) ?_
        refine xe_aload_n dX10_stretch_70 rfl ?_
        refine e_getO (G := GS) (r := 1) dX10_stretch_71 fdX10_19 rfl gk_1 gr_1_1 ?_
        refine xe_iload_n dX10_stretch_74 rfl ?_
        refine e_callVp (E_toAt bd_4 hb.2.2.1 hs) dX10_stretch_75 kvX10_131 (by first | exact bd_k bd_4 | exact bd_k bd_9) rfl ?_
        exact xe_iret dX10_stretch_78 rfl (pA_0 h)
      | 3, _ =>
        refine xe_tableIn 79 dX10_stretch_14 (by decide) (by decide) rfl (by decide) ?_
        refine xe_aload_n dX10_stretch_79 rfl ?_
        refine e_getO (G := GS) (r := 1) dX10_stretch_80 fdX10_19 rfl gk_1 gr_1_1 ?_
        refine xe_iconst (v := nI 0) dX10_stretch_83 (by decide) ?_
        refine xe_iload_n dX10_stretch_84 rfl ?_
        refine e_callVp (E_crossingFrom bd_4 hb.2.2.1 hs (l := 0) (Nat.zero_le _)) dX10_stretch_85 kvX10_134 (by first | exact bd_k bd_4 | exact bd_k bd_9) rfl ?_
        exact xe_iret dX10_stretch_88 rfl (pA_0 h)
      | 4, _ =>
        refine xe_tableIn 89 dX10_stretch_14 (by decide) (by decide) rfl (by decide) ?_
        refine xe_aload_n dX10_stretch_89 rfl ?_
        refine e_getO (G := GS) (r := 1) dX10_stretch_90 fdX10_19 rfl gk_1 gr_1_1 ?_
        refine xe_iload_n dX10_stretch_93 rfl ?_
        refine xe_iconst (v := nI 1) dX10_stretch_94 (by decide) ?_
        refine xe_iadd dX10_stretch_95 ?_
        rw [nI_add]
        refine xe_iload_n dX10_stretch_96 rfl ?_
        refine e_callVp (E_crossingFrom bd_4 hb.2.2.1 hs (l := i + 1) (by omega)) dX10_stretch_97 kvX10_134 (by first | exact bd_k bd_4 | exact bd_k bd_9) rfl ?_
        exact xe_iret dX10_stretch_100 rfl (pA_0 h)
      | 5, _ =>
        refine xe_tableIn 101 dX10_stretch_14 (by decide) (by decide) rfl (by decide) ?_
        refine xe_aload_n dX10_stretch_101 rfl ?_
        refine e_getO (G := GS) (r := 1) dX10_stretch_102 fdX10_19 rfl gk_1 gr_1_1 ?_
        refine xe_iload_n dX10_stretch_105 rfl ?_
        refine e_callVp (E_aboveOf bd_4 hb.2.2.1 hi) dX10_stretch_106 kvX10_138 (by first | exact bd_k bd_4 | exact bd_k bd_9) rfl ?_
        exact xe_iret dX10_stretch_109 rfl (pA_0 h)
      | k + 6, hk => omega
  · refine xe_iconst (v := -1) dX10_stretch_11 (by decide) ?_
    exact xe_iret dX10_stretch_12 rfl (pA_e h (by unfold aStretch; rw [thQ_f c]))
/-- behind an act -/
theorem IC_act {t u : xS} {Q : xP} (h : IC σ A) (ht : Hs t ((A.2.1 :: A.2.2.1).take 14)) (ft : Fh σ t) (hu : Bd u 4 Q) (fu : Fr t u 4) : IC u (acQ A Q) ∧ FC σ u := by
  have e : ∀ c, c ≠ 14 → (c < 4 ∨ 85 < c) → u.1 c = σ.1 c := fun c c1 c2 => (fu.1 c (by omega)).trans (ft.1 c c1 (by omega))
  have e2 : u.2 = σ.2 := by rw [fu.2, ft.2]
  obtain ⟨a1, a2, a3, a4, a5, a6⟩ := h
  exact ⟨⟨a1.to (by rw [e 2 (by omega) (by omega)]) (e 3 (by omega) (by omega)), hu, ht.to (fu.1 14 (by omega)) (fun c c1 c2 => fu.1 c (by omega)), a4.to (fun c c1 c2 => e c (by omega) (by omega)), a5.to (fun c c1 c2 => e c (by omega) (by omega)), by rw [e2]; exact a6⟩, FC.of (fun c c1 => e c (by omega) (by omega)) e2⟩
theorem Bd_fh {t : xS} {P : xP} (h : Bd σ 4 P) (ft : Fh σ t) : Bd t 4 P := h.to (fun c c1 c2 => ft.1 c (by omega) (by omega))
theorem C_wind (h : IC σ A) {x y : Int32} : Cl xs L mX10_wind [.ref 1, .int x, .int y] GS σ GS (pA σ (aWind A x y)) := by
  show Ev xs L mX10_wind 0 [.ref 1, .int x, .int y] [] GS σ GS _
  have hb := h.2.1
  have h4 := hb.1.1
  unfold aWind
  refine xe_aload_n dX10_wind_0 rfl ?_
  refine e_getO (G := GS) (r := 1) dX10_wind_1 fdX10_19 rfl gk_1 gr_1_1 ?_
  refine xe_iload_n dX10_wind_4 rfl ?_
  refine e_callVp (E_hasThread bd_4 hb.2.1.1) dX10_wind_5 kvX10_100 (by first | exact bd_k bd_4 | exact bd_k bd_9) rfl ?_
  refine xz_if_eq 21 dX10_wind_8 (by decide) (fun c => ?_) (fun c => ?_)
  · rw [thQ_f c]
    refine xe_iconst (v := -1) dX10_wind_21 (by decide) ?_
    exact xe_iret dX10_wind_22 rfl (pA_0 h)
  obtain ⟨j, hj, rfl⟩ := hasT_of (by omega) c
  rw [thQ_n (by omega) hj]
  dsimp only
  refine xe_iload_n dX10_wind_11 rfl ?_
  refine xe_iconst (v := nI 0) dX10_wind_12 (by decide) ?_
  refine xe_bipush (v := nI 11) dX10_wind_13 (by decide) ?_
  refine e_callSp (E_out) dX10_wind_15 ksX10_72 rfl ?_
  refine xz_if_eq 23 dX10_wind_18 (by decide) (fun c2 => ?_) (fun c2 => ?_)
  · rw [if_neg (by rw [c2]; decide)]
    obtain ⟨n, -, hn, rfl⟩ := outQ_of (by decide) (by decide) c2
    rw [nI_clamp (by omega)]
    refine xe_aload_n dX10_wind_23 rfl ?_
    refine e_getO (G := GS) (r := 1) dX10_wind_24 fdX10_19 rfl gk_1 gr_1_1 ?_
    refine xe_iload_n dX10_wind_27 rfl ?_
    refine xe_iload_n dX10_wind_28 rfl ?_
    refine e_callVp (E_mayWind bd_4 hb.2.1 hb.2.2.1 (by omega) (by omega)) dX10_wind_29 kvX10_141 (by first | exact bd_k bd_4 | exact bd_k bd_9) rfl ?_
    refine xz_if_ne 38 dX10_wind_32 (by decide) (fun c3 => ?_) (fun c3 => ?_)
    · rw [if_pos c3]
      refine xe_aload_n dX10_wind_38 rfl ?_
      refine e_getO (G := GS) (r := 1) dX10_wind_39 fdX10_29 rfl gk_1 gr_1_3 ?_
      refine xe_aload_n dX10_wind_42 rfl ?_
      refine e_getO (G := GS) (r := 1) dX10_wind_43 fdX10_19 rfl gk_1 gr_1_1 ?_
      refine e_callV (G := GS) (r := 14) (E_hadd h.2.2.1 hb) dX10_wind_46 kvX10_145 gk_14 rfl ?_
      rintro v t ⟨rfl, ht, ft⟩
      refine xe_aload_n dX10_wind_49 rfl ?_
      refine e_getO (G := GS) (r := 1) dX10_wind_50 fdX10_19 rfl gk_1 gr_1_1 ?_
      refine xe_iload_n dX10_wind_53 rfl ?_
      refine xe_iload_n dX10_wind_54 rfl ?_
      refine e_callV (E_windOn bd_4 (Bd_fh hb ft) c3) dX10_wind_55 kvX10_147 (by first | exact bd_k bd_4 | exact bd_k bd_9) rfl ?_
      rintro v u ⟨rfl, hu, fu⟩
      exact xe_iret dX10_wind_58 rfl ⟨rfl, IC_act h ht ft hu fu⟩
    · rw [if_neg (by rw [c3]; decide)]
      refine xe_bipush (v := -3) dX10_wind_35 (by decide) ?_
      exact xe_iret dX10_wind_37 rfl (pA_0 h)
  · rw [if_pos c2]
    refine xe_iconst (v := -1) dX10_wind_21 (by decide) ?_
    exact xe_iret dX10_wind_22 rfl (pA_0 h)
theorem C_unwind (h : IC σ A) {x : Int32} : Cl xs L mX10_unwind [.ref 1, .int x] GS σ GS (pA σ (aUnwind A x)) := by
  show Ev xs L mX10_unwind 0 [.ref 1, .int x] [] GS σ GS _
  have hb := h.2.1
  have h4 := hb.1.1
  unfold aUnwind
  refine xe_aload_n dX10_unwind_0 rfl ?_
  refine e_getO (G := GS) (r := 1) dX10_unwind_1 fdX10_19 rfl gk_1 gr_1_1 ?_
  refine xe_iload_n dX10_unwind_4 rfl ?_
  refine e_callVp (E_hasThread bd_4 hb.2.1.1) dX10_unwind_5 kvX10_100 (by first | exact bd_k bd_4 | exact bd_k bd_9) rfl ?_
  refine xz_if_ne 13 dX10_unwind_8 (by decide) (fun c => ?_) (fun c => ?_)
  · obtain ⟨j, hj, rfl⟩ := hasT_of (by omega) c
    rw [thQ_n (by omega) hj]
    dsimp only
    refine xe_aload_n dX10_unwind_13 rfl ?_
    refine e_getO (G := GS) (r := 1) dX10_unwind_14 fdX10_19 rfl gk_1 gr_1_1 ?_
    refine xe_iload_n dX10_unwind_17 rfl ?_
    refine e_callVp (E_mayUnwind bd_4 hb.2.1 hb.2.2.1 hb.hc0 (by omega)) dX10_unwind_18 kvX10_119 (by first | exact bd_k bd_4 | exact bd_k bd_9) rfl ?_
    refine xz_if_ne 27 dX10_unwind_21 (by decide) (fun c3 => ?_) (fun c3 => ?_)
    · obtain ⟨i, s, hl, hs⟩ := mayU_some c3
      have e : doU A.2.1 j = some (uwd A.2.1 j i s) := by unfold doU; rw [if_pos c3, hl]; dsimp only; rw [hs]
      rw [e]
      refine xe_aload_n dX10_unwind_27 rfl ?_
      refine e_getO (G := GS) (r := 1) dX10_unwind_28 fdX10_29 rfl gk_1 gr_1_3 ?_
      refine xe_aload_n dX10_unwind_31 rfl ?_
      refine e_getO (G := GS) (r := 1) dX10_unwind_32 fdX10_19 rfl gk_1 gr_1_1 ?_
      refine e_callV (G := GS) (r := 14) (E_hadd h.2.2.1 hb) dX10_unwind_35 kvX10_145 gk_14 rfl ?_
      rintro v t ⟨rfl, ht, ft⟩
      refine xe_aload_n dX10_unwind_38 rfl ?_
      refine e_getO (G := GS) (r := 1) dX10_unwind_39 fdX10_19 rfl gk_1 gr_1_1 ?_
      refine xe_iload_n dX10_unwind_42 rfl ?_
      refine e_callV (E_unwindLast bd_4 (Bd_fh hb ft) hl hs) dX10_unwind_43 kvX10_150 (by first | exact bd_k bd_4 | exact bd_k bd_9) rfl ?_
      rintro v u ⟨rfl, hu, fu⟩
      refine xe_iret dX10_unwind_46 rfl ⟨?_, IC_act h ht ft hu fu⟩
      show _ = some (Value.int (nI (if j = j then s.2.1 else A.2.1.2.2.1 j)))
      rw [if_pos rfl]
    · have e : doU A.2.1 j = none := by unfold doU; rw [if_neg (by rw [c3]; decide)]
      rw [e]
      refine xe_bipush (v := -3) dX10_unwind_24 (by decide) ?_
      exact xe_iret dX10_unwind_26 rfl (pA_0 h)
  · rw [thQ_f c]
    refine xe_iconst (v := -1) dX10_unwind_11 (by decide) ?_
    exact xe_iret dX10_unwind_12 rfl (pA_0 h)
theorem C_cut (h : IC σ A) {x : Int32} : Cl xs L mX10_cut [.ref 1, .int x] GS σ GS (pA σ (aCut A x)) := by
  show Ev xs L mX10_cut 0 [.ref 1, .int x] [] GS σ GS _
  have hb := h.2.1
  have h4 := hb.1.1
  unfold aCut
  refine xe_aload_n dX10_cut_0 rfl ?_
  refine e_getO (G := GS) (r := 1) dX10_cut_1 fdX10_19 rfl gk_1 gr_1_1 ?_
  refine xe_iload_n dX10_cut_4 rfl ?_
  refine e_callVp (E_hasThread bd_4 hb.2.1.1) dX10_cut_5 kvX10_100 (by first | exact bd_k bd_4 | exact bd_k bd_9) rfl ?_
  refine xz_if_ne 13 dX10_cut_8 (by decide) (fun c => ?_) (fun c => ?_)
  · obtain ⟨j, hj, rfl⟩ := hasT_of (by omega) c
    rw [thQ_n (by omega) hj]
    dsimp only
    refine xe_aload_n dX10_cut_13 rfl ?_
    refine e_getO (G := GS) (r := 1) dX10_cut_14 fdX10_19 rfl gk_1 gr_1_1 ?_
    refine xe_iload_n dX10_cut_17 rfl ?_
    refine e_callVp (E_mayCut bd_4 hb.2.1 hb.hc0 hb.2.2.1.2.1 (by omega)) dX10_cut_18 kvX10_153 (by first | exact bd_k bd_4 | exact bd_k bd_9) rfl ?_
    refine xz_if_ne 27 dX10_cut_21 (by decide) (fun c3 => ?_) (fun c3 => ?_)
    · have c3 : 0 < cnt A.2.1.2.2.2 j := by simpa using c3
      have e : doC A.2.1 j = some (cutP A.2.1 j) := if_pos c3
      rw [e]
      refine xe_aload_n dX10_cut_27 rfl ?_
      refine e_getO (G := GS) (r := 1) dX10_cut_28 fdX10_29 rfl gk_1 gr_1_3 ?_
      refine xe_aload_n dX10_cut_31 rfl ?_
      refine e_getO (G := GS) (r := 1) dX10_cut_32 fdX10_19 rfl gk_1 gr_1_1 ?_
      refine e_callV (G := GS) (r := 14) (E_hadd h.2.2.1 hb) dX10_cut_35 kvX10_145 gk_14 rfl ?_
      rintro v t ⟨rfl, ht, ft⟩
      refine xe_aload_n dX10_cut_38 rfl ?_
      refine e_getO (G := GS) (r := 1) dX10_cut_39 fdX10_19 rfl gk_1 gr_1_1 ?_
      refine xe_iload_n dX10_cut_42 rfl ?_
      refine e_callV (E_cutOff bd_4 (Bd_fh hb ft) hj) dX10_cut_43 kvX10_156 (by first | exact bd_k bd_4 | exact bd_k bd_9) rfl ?_
      rintro v u ⟨rfl, hu, fu⟩
      exact xe_iret dX10_cut_46 rfl ⟨rfl, IC_act h ht ft hu fu⟩
    · have c3 : ¬ 0 < cnt A.2.1.2.2.2 j := by simpa using c3
      have e : doC A.2.1 j = none := if_neg c3
      rw [e]
      refine xe_bipush (v := -3) dX10_cut_24 (by decide) ?_
      exact xe_iret dX10_cut_26 rfl (pA_0 h)
  · rw [thQ_f c]
    refine xe_iconst (v := -1) dX10_cut_11 (by decide) ?_
    exact xe_iret dX10_cut_12 rfl (pA_0 h)
theorem C_turn (h : IC σ A) : Cl xs L mX10_turn [.ref 1] GS σ GS (pA σ (aTurn A)) := by
  show Ev xs L mX10_turn 0 [.ref 1] [] GS σ GS _
  have hb := h.2.1
  refine xe_aload_n dX10_turn_0 rfl ?_
  refine e_getO (G := GS) (r := 1) dX10_turn_1 fdX10_29 rfl gk_1 gr_1_3 ?_
  refine xe_aload_n dX10_turn_4 rfl ?_
  refine e_getO (G := GS) (r := 1) dX10_turn_5 fdX10_19 rfl gk_1 gr_1_1 ?_
  refine e_callV (G := GS) (r := 14) (E_hadd h.2.2.1 hb) dX10_turn_8 kvX10_145 gk_14 rfl ?_
  rintro v t ⟨rfl, ht, ft⟩
  refine xe_aload_n dX10_turn_11 rfl ?_
  refine e_getO (G := GS) (r := 1) dX10_turn_12 fdX10_19 rfl gk_1 gr_1_1 ?_
  refine e_callV (E_turnByOne bd_4 (Bd_fh hb ft)) dX10_turn_15 kvX10_159 (by first | exact bd_k bd_4 | exact bd_k bd_9) rfl ?_
  rintro v u ⟨rfl, hu, fu⟩
  refine xe_aload_n dX10_turn_18 rfl ?_
  refine e_getO (G := GS) (r := 1) dX10_turn_19 fdX10_19 rfl gk_1 gr_1_1 ?_
  refine e_callVp (E_size bd_4 hu.2.2.1) dX10_turn_22 kvX10_162 (by first | exact bd_k bd_4 | exact bd_k bd_9) rfl ?_
  refine xe_iret dX10_turn_25 rfl ⟨?_, IC_act h ht ft hu fu⟩
  show some (Value.int (nI (A.2.1.2.2.2.map (mpS rotN)).length)) = _
  rw [List.length_map]
  rfl
theorem C_behind (h : IC σ A) : Cl xs L mX10_behind [.ref 1] GS σ GS (pA σ (aBehind A)) := by
  show Ev xs L mX10_behind 0 [.ref 1] [] GS σ GS _
  have hb := h.2.1
  refine xe_aload_n dX10_behind_0 rfl ?_
  refine e_getO (G := GS) (r := 1) dX10_behind_1 fdX10_29 rfl gk_1 gr_1_3 ?_
  refine xe_aload_n dX10_behind_4 rfl ?_
  refine e_getO (G := GS) (r := 1) dX10_behind_5 fdX10_19 rfl gk_1 gr_1_1 ?_
  refine e_callV (G := GS) (r := 14) (E_hadd h.2.2.1 hb) dX10_behind_8 kvX10_145 gk_14 rfl ?_
  rintro v t ⟨rfl, ht, ft⟩
  refine xe_aload_n dX10_behind_11 rfl ?_
  refine e_getO (G := GS) (r := 1) dX10_behind_12 fdX10_19 rfl gk_1 gr_1_1 ?_
  refine e_callV (E_turnOver bd_4 (Bd_fh hb ft)) dX10_behind_15 kvX10_165 (by first | exact bd_k bd_4 | exact bd_k bd_9) rfl ?_
  rintro v u ⟨rfl, hu, fu⟩
  refine xe_aload_n dX10_behind_18 rfl ?_
  refine e_getO (G := GS) (r := 1) dX10_behind_19 fdX10_19 rfl gk_1 gr_1_1 ?_
  refine e_callVp (E_size bd_4 hu.2.2.1) dX10_behind_22 kvX10_162 (by first | exact bd_k bd_4 | exact bd_k bd_9) rfl ?_
  refine xe_iret dX10_behind_25 rfl ⟨?_, IC_act h ht ft hu fu⟩
  show some (Value.int (nI (A.2.1.2.2.2.map (mpS negN)).reverse.length)) = _
  rw [List.length_reverse, List.length_map]
  rfl
theorem C_undo (h : IC σ A) : Cl xs L mX10_undo [.ref 1] GS σ GS (pA σ (aUndo A)) := by
  show Ev xs L mX10_undo 0 [.ref 1] [] GS σ GS _
  obtain ⟨a1, a2, a3, a4, a5, a6⟩ := id h
  unfold aUndo
  refine xe_aload_n dX10_undo_0 rfl ?_
  refine e_getO (G := GS) (r := 1) dX10_undo_1 fdX10_29 rfl gk_1 gr_1_3 ?_
  refine xe_aload_n dX10_undo_4 rfl ?_
  refine e_getO (G := GS) (r := 1) dX10_undo_5 fdX10_19 rfl gk_1 gr_1_1 ?_
  cases hac : A.2.2.1 with
  | nil =>
    rw [hac] at a3
    refine e_callV (G := GS) (r := 14) (E_takeBack0 a3) dX10_undo_8 kvX10_168 gk_14 rfl ?_
    rintro v t ⟨rfl, rfl⟩
    refine xe_if_eq 24 dX10_undo_11 (by decide) (fun _ => ?_) (fun c => absurd rfl c)
    refine xe_bipush (v := -3) dX10_undo_24 (by decide) ?_
    exact xe_iret dX10_undo_26 rfl (pA_0 h)
  | cons Q r =>
    rw [hac] at a3
    refine e_callV (G := GS) (r := 14) (E_takeBack a3) dX10_undo_8 kvX10_168 gk_14 rfl ?_
    rintro v t ⟨rfl, t1, t2, t3, t4⟩
    refine xe_if_eq 24 dX10_undo_11 (by decide) (fun c => absurd c (show ¬ bI true = 0 by decide)) (fun _ => ?_)
    refine xe_aload_n dX10_undo_14 rfl ?_
    refine e_getO (G := GS) (r := 1) dX10_undo_15 fdX10_29 rfl gk_1 gr_1_3 ?_
    have hsz : t.1 14 2 = nI r.length := by obtain ⟨f, g0, g1, g2, g3⟩ := t2; exact g2
    refine e_callVp (G := GS) (r := 14) (E_hsize hsz) dX10_undo_18 kvX10_172 gk_14 rfl ?_
    refine xe_goto 26 dX10_undo_21 (by decide) ?_
    exact xe_iret dX10_undo_26 rfl ⟨rfl, ⟨a1.to (by rw [t3 2 (by omega) (by omega)]) (t3 3 (by omega) (by omega)), t1, t2, a4.to (fun c c1 c2 => t3 c (by omega) (by omega)), a5.to (fun c c1 c2 => t3 c (by omega) (by omega)), by rw [t4]; exact a6⟩, FC.of (fun c c1 => t3 c (by omega) (by omega)) t4⟩
theorem C_crossings (h : IC σ A) {x y : Int32} : Cl xs L mX10_crossings [.ref 1, .int x, .int y] GS σ GS (pA σ (aCrossings A x y, A)) := by
  show Ev xs L mX10_crossings 0 [.ref 1, .int x, .int y] [] GS σ GS _
  have hb := h.2.1
  have h4 := hb.1.1
  unfold aCrossings
  refine xe_aload_n dX10_crossings_0 rfl ?_
  refine e_getO (G := GS) (r := 1) dX10_crossings_1 fdX10_19 rfl gk_1 gr_1_1 ?_
  refine xe_iload_n dX10_crossings_4 rfl ?_
  refine e_callVp (E_hasThread bd_4 hb.2.1.1) dX10_crossings_5 kvX10_100 (by first | exact bd_k bd_4 | exact bd_k bd_9) rfl ?_
  refine xz_if_eq 22 dX10_crossings_8 (by decide) (fun c => ?_) (fun c => ?_)
  · rw [thQ_f c]
    refine xe_iconst (v := -1) dX10_crossings_22 (by decide) ?_
    exact xe_iret dX10_crossings_23 rfl (pA_0 h)
  obtain ⟨i, hi, rfl⟩ := hasT_of (by omega) c
  rw [thQ_n (by omega) hi]
  refine xe_aload_n dX10_crossings_11 rfl ?_
  refine e_getO (G := GS) (r := 1) dX10_crossings_12 fdX10_19 rfl gk_1 gr_1_1 ?_
  refine xe_iload_n dX10_crossings_15 rfl ?_
  refine e_callVp (E_hasThread bd_4 hb.2.1.1) dX10_crossings_16 kvX10_100 (by first | exact bd_k bd_4 | exact bd_k bd_9) rfl ?_
  refine xz_if_ne 24 dX10_crossings_19 (by decide) (fun c2 => ?_) (fun c2 => ?_)
  · obtain ⟨j, hj, rfl⟩ := hasT_of (by omega) c2
    rw [thQ_n (by omega) hj]
    refine xe_aload_n dX10_crossings_24 rfl ?_
    refine e_getO (G := GS) (r := 1) dX10_crossings_25 fdX10_19 rfl gk_1 gr_1_1 ?_
    refine xe_iload_n dX10_crossings_28 rfl ?_
    refine xe_iload_n dX10_crossings_29 rfl ?_
    refine e_callVp (E_crossingsOf bd_4 hb.2.2.1 (by omega) (by omega)) dX10_crossings_30 kvX10_173 (by first | exact bd_k bd_4 | exact bd_k bd_9) rfl ?_
    exact xe_iret dX10_crossings_33 rfl (pA_0 h)
  · rw [thQ_f c2]
    refine xe_iconst (v := -1) dX10_crossings_22 (by decide) ?_
    exact xe_iret dX10_crossings_23 rfl (pA_0 h)
theorem C_parts (h : IC σ A) : Cl xs L mX10_parts [.ref 1] GS σ GS (pA σ (aParts A, A)) := by
  show Ev xs L mX10_parts 0 [.ref 1] [] GS σ GS _
  refine xe_aload_n dX10_parts_0 rfl ?_
  refine e_getO (G := GS) (r := 1) dX10_parts_1 fdX10_50 rfl gk_1 gr_1_6 ?_
  refine xe_aload_n dX10_parts_4 rfl ?_
  refine e_getO (G := GS) (r := 1) dX10_parts_5 fdX10_19 rfl gk_1 gr_1_1 ?_
  refine e_callV (G := GS) (r := 103) (E_partsOf bd_4 h.2.1.2.2.1) dX10_parts_8 kvX10_176 gk_103 rfl ?_
  rintro v t ⟨rfl, f1, f2⟩
  exact xe_iret dX10_parts_11 rfl (pA_q h (by rw [f1 2 (by omega)]) (fun c c1 c2 c3 => f1 c (by omega)) f2)
theorem C_strokes (h : IC σ A) : Cl xs L mX10_strokes [.ref 1] GS σ GS (pA σ (aStrokes A, A)) := by
  show Ev xs L mX10_strokes 0 [.ref 1] [] GS σ GS _
  refine xe_aload_n dX10_strokes_0 rfl ?_
  refine e_getO (G := GS) (r := 1) dX10_strokes_1 fdX10_50 rfl gk_1 gr_1_6 ?_
  refine xe_aload_n dX10_strokes_4 rfl ?_
  refine e_getO (G := GS) (r := 1) dX10_strokes_5 fdX10_19 rfl gk_1 gr_1_1 ?_
  refine e_callV (G := GS) (r := 103) (E_strokesOf bd_4 h.2.1.2.2.1) dX10_strokes_8 kvX10_179 gk_103 rfl ?_
  rintro v t ⟨rfl, f1, f2⟩
  exact xe_iret dX10_strokes_11 rfl (pA_q h (by rw [f1 2 (by omega)]) (fun c c1 c2 c3 => f1 c (by omega)) f2)
theorem C_next (h : IC σ A) {x w : Int32} : Cl xs L mX10_next [.ref 1, .int x, .int w] GS σ GS (pA σ (aNext A x w, A)) := by
  show Ev xs L mX10_next 0 [.ref 1, .int x, .int w, .null] [] GS σ GS _
  have hb := h.2.1
  have h4 := hb.1.1
  unfold aNext
  refine xe_aload_n dX10_next_0 rfl ?_
  refine e_getO (G := GS) (r := 1) dX10_next_1 fdX10_19 rfl gk_1 gr_1_1 ?_
  refine xe_iload_n dX10_next_4 rfl ?_
  refine e_callVp (E_hasThread bd_4 hb.2.1.1) dX10_next_5 kvX10_100 (by first | exact bd_k bd_4 | exact bd_k bd_9) rfl ?_
  refine xz_if_ne 13 dX10_next_8 (by decide) (fun c => ?_) (fun c => ?_)
  · obtain ⟨j, hj, rfl⟩ := hasT_of (by omega) c
    rw [thQ_n (by omega) hj]
    dsimp only
    refine xe_iload_n dX10_next_13 rfl ?_
    refine xe_iconst (v := nI 0) dX10_next_14 (by decide) ?_
    refine xe_iconst (v := nI 1) dX10_next_15 (by decide) ?_
    refine e_callSp (E_out) dX10_next_16 ksX10_72 rfl ?_
    refine xz_if_eq 25 dX10_next_19 (by decide) (fun c2 => ?_) (fun c2 => ?_)
    · obtain ⟨k, -, hk, rfl⟩ := outQ_of (by decide) (by decide) c2
      rw [sel_n hk (by decide)]
      dsimp only
      refine xe_aload_n dX10_next_25 rfl ?_
      refine e_getO (G := GS) (r := 1) dX10_next_26 fdX10_19 rfl gk_1 gr_1_1 ?_
      refine xe_iload_n dX10_next_29 rfl ?_
      refine e_callVp (E_bestNail bd_4 hb.2.1 hb.2.2.1 hj) dX10_next_30 kvX10_182 (by first | exact bd_k bd_4 | exact bd_k bd_9) rfl ?_
      cases hbs : bst A.2.1 j with
      | none =>
        refine xe_istore_n dX10_next_33 (by decide) ?_
        refine xe_iload_n dX10_next_34 rfl ?_
        refine xe_iconst (v := -1) dX10_next_35 (by decide) ?_
        refine xe_icmp_ne 42 dX10_next_36 (by decide) (fun c => absurd c (fun q => q rfl)) (fun _ => ?_)
        refine xe_bipush (v := -9) dX10_next_39 (by decide) ?_
        exact xe_iret dX10_next_41 rfl (pA_0 h)
      | some bm =>
        obtain ⟨b, m⟩ := bm
        obtain ⟨q1, q2⟩ := bst_ok hbs
        obtain ⟨w1, w2, w3, w4⟩ := mayW_lt q1
        dsimp only
        show Ev xs L mX10_next 33 _ [.int (nI b)] GS σ GS _
        refine xe_istore_n dX10_next_33 (by decide) ?_
        refine xe_iload_n dX10_next_34 rfl ?_
        refine xe_iconst (v := -1) dX10_next_35 (by decide) ?_
        refine xe_icmp_ne 42 dX10_next_36 (by decide) (fun _ => ?_) (fun c => absurd c (nI_m1 (by omega)))
        refine xe_iload_n dX10_next_42 rfl ?_
        refine xn_if_ne 50 dX10_next_43 (by decide) (by omega) (fun c3 => ?_) (fun c3 => ?_)
        · rw [if_neg (by omega)]
          refine xe_aload_n dX10_next_50 rfl ?_
          refine e_getO (G := GS) (r := 1) dX10_next_51 fdX10_19 rfl gk_1 gr_1_1 ?_
          refine xe_aload_n dX10_next_54 rfl ?_
          refine e_getO (G := GS) (r := 1) dX10_next_55 fdX10_19 rfl gk_1 gr_1_1 ?_
          refine xe_iload_n dX10_next_58 rfl ?_
          refine e_callVp (E_nailOf bd_4 hb.2.1 hj) dX10_next_59 kvX10_103 (by first | exact bd_k bd_4 | exact bd_k bd_9) rfl ?_
          refine xe_iload_n dX10_next_62 rfl ?_
          refine e_callVp (E_crossedBetween bd_4 hb.2.2.1 (hb.1.2.1 j hj).2.1 w2) dX10_next_63 kvX10_185 (by first | exact bd_k bd_4 | exact bd_k bd_9) rfl ?_
          exact xe_iret dX10_next_66 rfl (pA_e h (by rw [q2]))
        · rw [if_pos c3]
          refine xe_iload_n dX10_next_46 rfl ?_
          refine xe_goto 66 dX10_next_47 (by decide) ?_
          exact xe_iret dX10_next_66 rfl (pA_0 h)
    · rw [sel_out (by decide) c2]
      refine xe_bipush (v := -2) dX10_next_22 (by decide) ?_
      exact xe_iret dX10_next_24 rfl (pA_0 h)
  · rw [thQ_f c]
    refine xe_iconst (v := -1) dX10_next_11 (by decide) ?_
    exact xe_iret dX10_next_12 rfl (pA_0 h)
theorem C_star (h : IC σ A) {x y z w : Int32} : Cl xs L mX10_star [.ref 1, .int x, .int y, .int z, .int w] GS σ GS (pA σ (aStar A x y z w, A)) := by
  show Ev xs L mX10_star 0 [.ref 1, .int x, .int y, .int z, .int w, .null] [] GS σ GS _
  have hb := h.2.1
  have h4 := hb.1.1
  unfold aStar
  have bad : ∀ lv : List Value, Ev xs L mX10_star 43 lv [] GS σ GS (pA σ (-2, A)) := by
    intro lv
    refine xe_bipush (v := -2) dX10_star_43 (by decide) ?_
    exact xe_iret dX10_star_45 rfl (pA_0 h)
  refine xe_aload_n dX10_star_0 rfl ?_
  refine e_getO (G := GS) (r := 1) dX10_star_1 fdX10_19 rfl gk_1 gr_1_1 ?_
  refine xe_iload_n dX10_star_4 rfl ?_
  refine e_callVp (E_hasThread bd_4 hb.2.1.1) dX10_star_5 kvX10_100 (by first | exact bd_k bd_4 | exact bd_k bd_9) rfl ?_
  refine xz_if_ne 13 dX10_star_8 (by decide) (fun c => ?_) (fun c => ?_)
  · obtain ⟨j, hj, rfl⟩ := hasT_of (by omega) c
    rw [thQ_n (by omega) hj]
    dsimp only
    refine xe_iload_n dX10_star_13 rfl ?_
    refine xe_iconst (v := nI 1) dX10_star_14 (by decide) ?_
    refine xe_bipush (v := nI 11) dX10_star_15 (by decide) ?_
    refine e_callSp (E_out) dX10_star_17 ksX10_72 rfl ?_
    refine xz_if_ne 43 dX10_star_20 (by decide) (fun c1 => ?_) (fun c1 => ?_)
    · rw [c1]
      exact bad _
    refine xe_iload_n dX10_star_23 rfl ?_
    refine xe_iconst (v := nI 0) dX10_star_24 (by decide) ?_
    refine xe_bipush (v := nI 12) dX10_star_25 (by decide) ?_
    refine e_callSp (E_out) dX10_star_27 ksX10_72 rfl ?_
    refine xz_if_ne 43 dX10_star_30 (by decide) (fun c2 => ?_) (fun c2 => ?_)
    · rw [c1, c2]
      exact bad _
    refine xe_iload dX10_star_33 rfl ?_
    refine xe_iconst (v := nI 0) dX10_star_35 (by decide) ?_
    refine xe_iconst (v := nI 2) dX10_star_36 (by decide) ?_
    refine e_callSp (E_out) dX10_star_37 ksX10_72 rfl ?_
    refine xz_if_eq 46 dX10_star_40 (by decide) (fun c3 => ?_) (fun c3 => ?_)
    · rw [c1, c2, c3]
      obtain ⟨k, -, hk, rfl⟩ := outQ_of (by decide) (by decide) c1
      obtain ⟨n, -, hn, rfl⟩ := outQ_of (by decide) (by decide) c2
      obtain ⟨m, -, hm, rfl⟩ := outQ_of (by decide) (by decide) c3
      rw [nI_clamp (by omega), nI_clamp (by omega), if_neg (by decide)]
      refine xe_aload_n dX10_star_46 rfl ?_
      refine e_getO (G := GS) (r := 1) dX10_star_47 fdX10_23 rfl gk_1 gr_1_2 ?_
      refine xe_aload_n dX10_star_50 rfl ?_
      refine e_getO (G := GS) (r := 1) dX10_star_51 fdX10_19 rfl gk_1 gr_1_1 ?_
      refine e_callV (E_becomeLike bd_9 bd_4 (by decide) hb) dX10_star_54 kvX10_91 (by first | exact bd_k bd_4 | exact bd_k bd_9) rfl ?_
      rintro v t ⟨rfl, ht, ft⟩
      refine xe_aload_n dX10_star_57 rfl ?_
      refine e_getO (G := GS) (r := 1) dX10_star_58 fdX10_23 rfl gk_1 gr_1_2 ?_
      refine xe_iload_n dX10_star_61 rfl ?_
      refine xe_iload_n dX10_star_62 rfl ?_
      refine xe_iload_n dX10_star_63 rfl ?_
      refine e_callV (E_windStar0 bd_9 ht hj (show k < 12 by omega) (show n < 2 ^ 31 by omega)) dX10_star_64 kvX10_188 (by first | exact bd_k bd_4 | exact bd_k bd_9) rfl ?_
      rintro v u ⟨rfl, hu, fu⟩
      have fr : Fr σ u 9 := ft.tr fu
      have hb4 : Bd u 4 A.2.1 := hb.fr fr (by omega)
      have ok : ∀ y : Int32, pA σ (y, A) (some (.int y)) u := fun y => pA_q h (by rw [fr.1 2 (by omega)]) (fun c c1 c2 c3 => fr.1 c (by omega)) fr.2
      refine xe_istore dX10_star_67 (by decide) ?_
      refine xe_iload dX10_star_69 rfl ?_
      match m, hm with
      | 0, _ =>
        rw [if_pos (show nI 0 = 0 by decide)]
        refine xe_lookup (off := 25) 96 dX10_star_71 (by decide) (by decide) (by decide) ?_
        refine xe_aload_n dX10_star_96 rfl ?_
        refine e_getO (G := GS) (r := 1) dX10_star_97 fdX10_23 rfl gk_1 gr_1_2 ?_
        refine xe_iload_n dX10_star_100 rfl ?_
        have hcn := wst_cnt j k n A.2.1
        have hjT : j < (wst j k n A.2.1).1.1 := by rw [wst_T]; exact hj
        refine e_callVp (E_stretchesOf bd_9 hu.2.1 hu.hc0 (by omega)) dX10_star_101 kvX10_110 (by first | exact bd_k bd_4 | exact bd_k bd_9) rfl ?_
        refine xe_aload_n dX10_star_104 rfl ?_
        refine e_getO (G := GS) (r := 1) dX10_star_105 fdX10_19 rfl gk_1 gr_1_1 ?_
        refine xe_iload_n dX10_star_108 rfl ?_
        refine e_callVp (E_stretchesOf bd_4 hb4.2.1 hb4.hc0 (by omega)) dX10_star_109 kvX10_110 (by first | exact bd_k bd_4 | exact bd_k bd_9) rfl ?_
        refine xe_isub dX10_star_112 ?_
        rw [pk_sub (by omega), show cnt (wst j k n A.2.1).1.2.2.2 j - cnt A.2.1.2.2.2 j = (wst j k n A.2.1).2.2 by omega]
        exact xe_iret dX10_star_113 rfl (ok _)
      | 1, _ =>
        rw [if_neg (show ¬ nI 1 = 0 by decide), if_pos (show nI 1 = 1 by decide)]
        refine xe_lookup (off := 43) 114 dX10_star_71 (by decide) (by decide) (by decide) ?_
        refine xe_aload_n dX10_star_114 rfl ?_
        refine e_getO (G := GS) (r := 1) dX10_star_115 fdX10_23 rfl gk_1 gr_1_2 ?_
        refine xe_iload_n dX10_star_118 rfl ?_
        have hjT : j < (wst j k n A.2.1).1.1 := by rw [wst_T]; exact hj
        refine e_callVp (E_nailOf bd_9 hu.2.1 hjT) dX10_star_119 kvX10_103 (by first | exact bd_k bd_4 | exact bd_k bd_9) rfl ?_
        exact xe_iret dX10_star_122 rfl (ok _)
      | 2, _ =>
        rw [if_neg (show ¬ nI 2 = 0 by decide), if_neg (show ¬ nI 2 = 1 by decide)]
        refine xe_lookup (off := 52) 123 dX10_star_71 (by decide) (by decide) (by decide) ?_
        refine xe_iload dX10_star_123 rfl ?_
        exact xe_iret dX10_star_125 rfl (ok _)
      | m + 3, hm => omega
    · rw [c1, c2, c3]
      exact bad _
  · rw [thQ_f c]
    refine xe_iconst (v := -1) dX10_star_11 (by decide) ?_
    exact xe_iret dX10_star_12 rfl (pA_0 h)
theorem C_judge (h : IC σ A) {x : Int32} {y : Int64} : Cl xs L mX10_judge [.ref 1, .int x, .long y] GS σ GS (pA σ (aJudge A x y, A)) := by
  show Ev xs L mX10_judge 0 [.ref 1, .int x, .long y, .null] [] GS σ GS _
  have hb := h.2.1
  unfold aJudge
  have bad : ∀ lv : List Value, Ev xs L mX10_judge 17 lv [] GS σ GS (pA σ (-2, A)) := by
    intro lv
    refine xe_bipush (v := -2) dX10_judge_17 (by decide) ?_
    exact xe_iret dX10_judge_19 rfl (pA_0 h)
  refine xe_iload_n dX10_judge_0 rfl ?_
  refine xe_iconst (v := nI 1) dX10_judge_1 (by decide) ?_
  refine xe_iconst (v := nI 4) dX10_judge_2 (by decide) ?_
  refine e_callSp (E_out) dX10_judge_3 ksX10_72 rfl ?_
  refine xz_if_ne 17 dX10_judge_6 (by decide) (fun c => ?_) (fun c => ?_)
  · rw [c]
    exact bad _
  rw [c, if_neg (by decide)]
  obtain ⟨n, h1n, hn, rfl⟩ := outQ_of (by decide) (by decide) c
  rw [nI_clamp (by omega)]
  refine xe_iload_n dX10_judge_9 rfl ?_
  refine xe_lload_n dX10_judge_10 rfl ?_
  refine e_callSp (E_isTooLong (show n < 5 by omega)) dX10_judge_11 ksX10_192 rfl ?_
  show Ev xs L mX10_judge 14 _ [.int (bI (lgQ n y))] GS σ GS _
  refine xz_if_eq 20 dX10_judge_14 (by decide) (fun c2 => ?_) (fun c2 => ?_)
  · rw [c2, if_neg (by decide)]
    have hy : ¬ y < 0 := by
      unfold lgQ at c2
      simp at c2
      exact Int64.not_lt.mpr c2.1
    obtain ⟨r, hr, rfl⟩ := pk_lOf hy
    rw [wb_tn (by omega)]
    refine xe_aload_n dX10_judge_20 rfl ?_
    refine e_getO (G := GS) (r := 1) dX10_judge_21 fdX10_23 rfl gk_1 gr_1_2 ?_
    refine xe_aload_n dX10_judge_24 rfl ?_
    refine e_getO (G := GS) (r := 1) dX10_judge_25 fdX10_19 rfl gk_1 gr_1_1 ?_
    refine e_callV (E_becomeLike bd_9 bd_4 (by decide) hb) dX10_judge_28 kvX10_91 (by first | exact bd_k bd_4 | exact bd_k bd_9) rfl ?_
    rintro v t ⟨rfl, ht, ft⟩
    refine xe_iload_n dX10_judge_31 rfl ?_
    refine xe_lload_n dX10_judge_32 rfl ?_
    refine xe_aload_n dX10_judge_33 rfl ?_
    refine e_getO (G := GS) (r := 1) dX10_judge_34 fdX10_23 rfl gk_1 gr_1_2 ?_
    refine xe_aload_n dX10_judge_37 rfl ?_
    refine e_getO (G := GS) (r := 1) dX10_judge_38 fdX10_50 rfl gk_1 gr_1_6 ?_
    refine e_callS (E_firstWrong bd_9 ht hn hr) dX10_judge_41 ksX10_198 rfl ?_
    rintro v u ⟨rfl, fu⟩
    have fr : FD σ u 9 := (FD.of ft).tr fu
    exact xe_iret dX10_judge_44 rfl (pA_q h (by rw [fr.1 2 (by omega) (by omega)]) (fun c c1 c2 c3 => fr.1 c (by omega) (by omega)) fr.2)
  · rw [c2]
    exact bad _
theorem C_see (h : IC σ A) {x y w : Int32} : Cl xs L mX10_see [.ref 1, .int x, .int y, .int w] GS σ GS (pA σ (aSee A x y w)) := by
  show Ev xs L mX10_see 0 [.ref 1, .int x, .int y, .int w] [] GS σ GS _
  unfold aSee
  have bad : ∀ lv : List Value, Ev xs L mX10_see 31 lv [] GS σ GS (pA σ (-2, A)) := by
    intro lv
    refine xe_bipush (v := -2) dX10_see_31 (by decide) ?_
    exact xe_iret dX10_see_33 rfl (pA_0 h)
  refine xe_iload_n dX10_see_0 rfl ?_
  refine xe_iconst (v := nI 0) dX10_see_1 (by decide) ?_
  refine xe_bipush (v := nI 11) dX10_see_2 (by decide) ?_
  refine e_callSp (E_out) dX10_see_4 ksX10_72 rfl ?_
  refine xz_if_eq 12 dX10_see_7 (by decide) (fun c => ?_) (fun c => ?_)
  · rw [c, if_neg (by decide)]
    refine xe_iload_n dX10_see_12 rfl ?_
    refine xe_iconst (v := nI 0) dX10_see_13 (by decide) ?_
    refine xe_bipush (v := nI 12) dX10_see_14 (by decide) ?_
    refine e_callSp (E_out) dX10_see_16 ksX10_72 rfl ?_
    refine xz_if_ne 31 dX10_see_19 (by decide) (fun c1 => ?_) (fun c1 => ?_)
    · rw [c1]
      exact bad _
    refine xe_iload_n dX10_see_22 rfl ?_
    refine xe_iconst (v := nI 0) dX10_see_23 (by decide) ?_
    refine xe_iconst (v := nI 1) dX10_see_24 (by decide) ?_
    refine e_callSp (E_out) dX10_see_25 ksX10_72 rfl ?_
    refine xz_if_eq 34 dX10_see_28 (by decide) (fun c2 => ?_) (fun c2 => ?_)
    · rw [c1, c2, if_neg (by decide)]
      obtain ⟨b, -, hb, rfl⟩ := outQ_of (by decide) (by decide) c
      obtain ⟨a, -, ha, rfl⟩ := outQ_of (by decide) (by decide) c1
      obtain ⟨k, -, hk, rfl⟩ := outQ_of (by decide) (by decide) c2
      rw [nI_clamp (by omega), nI_clamp (by omega), nI_clamp (by omega)]
      obtain ⟨a1, a2, a3, a4, a5, a6⟩ := id h
      refine xe_aload_n dX10_see_34 rfl ?_
      refine e_getO (G := GS) (r := 1) dX10_see_35 fdX10_43 rfl gk_1 gr_1_5 ?_
      refine xe_iload_n dX10_see_38 rfl ?_
      refine xe_iload_n dX10_see_39 rfl ?_
      refine xe_iload_n dX10_see_40 rfl ?_
      refine e_callV (G := GS) (r := 99) (E_nadd a5 ha (show b < 12 by omega) hk) dX10_see_41 kvX10_202 gk_99 rfl ?_
      rintro v t ⟨rfl, ht⟩
      by_cases c3 : A.2.2.2.2.1.length < 6
      · rw [if_pos c3] at ht ⊢
        rw [decide_eq_true c3]
        obtain ⟨t1, t2, t3⟩ := ht
        refine xe_if_eq 57 dX10_see_44 (by decide) (fun c => absurd c (show ¬ bI true = 0 by decide)) (fun _ => ?_)
        refine xe_aload_n dX10_see_47 rfl ?_
        refine e_getO (G := GS) (r := 1) dX10_see_48 fdX10_43 rfl gk_1 gr_1_5 ?_
        refine e_callVp (G := GS) (r := 99) (E_nsize t1) dX10_see_51 kvX10_204 gk_99 rfl ?_
        refine xe_goto 59 dX10_see_54 (by decide) ?_
        exact xe_iret dX10_see_59 rfl ⟨by rw [List.length_append]; rfl, ⟨a1.to (by rw [t2 2 (by omega)]) (t2 3 (by omega)), a2.to (fun c c1 c2 => t2 c (by omega)), a3.to (t2 14 (by omega)) (fun c c1 c2 => t2 c (by omega)), a4.to (fun c c1 c2 => t2 c (by omega)), t1, by rw [t3]; exact a6⟩, FC.of (fun c c1 => t2 c (by omega)) t3⟩
      · rw [if_neg c3] at ht ⊢
        rw [decide_eq_false c3, ht]
        refine xe_if_eq 57 dX10_see_44 (by decide) (fun _ => ?_) (fun c => absurd rfl c)
        refine xe_bipush (v := -4) dX10_see_57 (by decide) ?_
        exact xe_iret dX10_see_59 rfl (pA_0 h)
    · rw [c1, c2]
      exact bad _
  · rw [c, if_pos rfl]
    refine xe_iconst (v := -1) dX10_see_10 (by decide) ?_
    exact xe_iret dX10_see_11 rfl (pA_0 h)
theorem C_unsee (h : IC σ A) : Cl xs L mX10_unsee [.ref 1] GS σ GS (pA σ (aUnsee A)) := by
  show Ev xs L mX10_unsee 0 [.ref 1, .null] [] GS σ GS _
  obtain ⟨a1, a2, a3, a4, a5, a6⟩ := id h
  refine xe_aload_n dX10_unsee_0 rfl ?_
  refine e_getO (G := GS) (r := 1) dX10_unsee_1 fdX10_43 rfl gk_1 gr_1_5 ?_
  refine e_callVp (G := GS) (r := 99) (E_nsize a5) dX10_unsee_4 kvX10_204 gk_99 rfl ?_
  refine xe_istore_n dX10_unsee_7 (by decide) ?_
  refine xe_aload_n dX10_unsee_8 rfl ?_
  refine e_getO (G := GS) (r := 1) dX10_unsee_9 fdX10_43 rfl gk_1 gr_1_5 ?_
  refine e_callV (G := GS) (r := 99) (E_nclear) dX10_unsee_12 kvX10_205 gk_99 rfl ?_
  rintro v t ⟨rfl, t1, t2, t3⟩
  refine xe_iload_n dX10_unsee_15 rfl ?_
  exact xe_iret dX10_unsee_16 rfl ⟨rfl, ⟨a1.to (by rw [t2 2 (by omega)]) (t2 3 (by omega)), a2.to (fun c c1 c2 => t2 c (by omega)), a3.to (t2 14 (by omega)) (fun c c1 c2 => t2 c (by omega)), a4.to (fun c c1 c2 => t2 c (by omega)), t1, by rw [t3]; exact a6⟩, FC.of (fun c c1 => t2 c (by omega)) t3⟩
theorem lk2 {x : Int32} {a b d : Int} (h : sel x 1 = none) : Op.lookupswitch.offset [(0, a), (1, b)] d x.toInt = d := by
  have := sel_none h
  rw [Op.lookupswitch.offset_cons, if_neg (by omega), Op.lookupswitch.offset_cons, if_neg (by omega)]
  rfl
theorem C_stars (h : IC σ A) {w : Int32} : Cl xs L mX10_stars [.ref 1, .int w] GS σ GS (pA σ (aStars A w, A)) := by
  show Ev xs L mX10_stars 0 [.ref 1, .int w] [] GS σ GS _
  unfold aStars
  refine xe_iload_n dX10_stars_0 rfl ?_
  cases hs : sel w 1 with
  | none =>
    refine xe_lookup 44 dX10_stars_1 (by decide) (lk2 hs) (by decide) ?_
    refine xe_bipush (v := -2) dX10_stars_44 (by decide) ?_
    exact xe_iret dX10_stars_46 rfl (pA_0 h)
  | some k =>
    obtain ⟨hk, rfl⟩ := sel_some (by decide) hs
    match k, hk with
    | 0, _ =>
      refine xe_lookup (off := 27) 28 dX10_stars_1 (by decide) (by decide) (by decide) ?_
      refine xe_aload_n dX10_stars_28 rfl ?_
      refine e_getO (G := GS) (r := 1) dX10_stars_29 fdX10_43 rfl gk_1 gr_1_5 ?_
      refine e_callVp (G := GS) (r := 99) (E_howMany h.2.2.2.2.1) dX10_stars_32 kvX10_206 gk_99 rfl ?_
      exact xe_iret dX10_stars_35 rfl (pA_0 h)
    | 1, _ =>
      refine xe_lookup (off := 35) 36 dX10_stars_1 (by decide) (by decide) (by decide) ?_
      refine xe_aload_n dX10_stars_36 rfl ?_
      refine e_getO (G := GS) (r := 1) dX10_stars_37 fdX10_43 rfl gk_1 gr_1_5 ?_
      refine e_callVp (G := GS) (r := 99) (E_firstStar h.2.2.2.2.1) dX10_stars_40 kvX10_209 gk_99 rfl ?_
      exact xe_iret dX10_stars_43 rfl (pA_0 h)
    | k + 2, hk => omega
theorem C_share (h : IC σ A) {x : Int32} {u : Bool} : Cl xs L mX10_share [.ref 1, .int x, .int (bI u)] GS σ GS (pA σ (aShare A x u, A)) := by
  show Ev xs L mX10_share 0 [.ref 1, .int x, .int (bI u)] [] GS σ GS _
  have hb := h.2.1
  have h4 := hb.1.1
  unfold aShare
  refine xe_aload_n dX10_share_0 rfl ?_
  refine e_getO (G := GS) (r := 1) dX10_share_1 fdX10_19 rfl gk_1 gr_1_1 ?_
  refine xe_iload_n dX10_share_4 rfl ?_
  refine e_callVp (E_hasThread bd_4 hb.2.1.1) dX10_share_5 kvX10_100 (by first | exact bd_k bd_4 | exact bd_k bd_9) rfl ?_
  refine xz_if_ne 13 dX10_share_8 (by decide) (fun c => ?_) (fun c => ?_)
  · obtain ⟨j, hj, rfl⟩ := hasT_of (by omega) c
    rw [thQ_n (by omega) hj]
    refine xe_aload_n dX10_share_13 rfl ?_
    refine e_getO (G := GS) (r := 1) dX10_share_14 fdX10_19 rfl gk_1 gr_1_1 ?_
    refine xe_iload_n dX10_share_17 rfl ?_
    refine e_callSp (E_twiceShare bd_4 hb (by omega)) dX10_share_18 ksX10_212 rfl ?_
    refine xe_iconst (v := nI 2) dX10_share_21 (by decide) ?_
    refine xe_iload_n dX10_share_22 rfl ?_
    have := tws_lt hb.2.2.1.2.1 (t := j) h4
    refine e_callSp (E_toldFraction (u := u) (a := tws A.2.1.2.2.2 A.2.1.1 j) (b := 2) (by omega) (by decide) (by decide)) dX10_share_23 ksX10_216 rfl ?_
    exact xe_iret dX10_share_26 rfl (pA_0 h)
  · rw [thQ_f c]
    refine xe_iconst (v := -1) dX10_share_11 (by decide) ?_
    exact xe_iret dX10_share_12 rfl (pA_0 h)
theorem C_rests (h : IC σ A) {x y w : Int32} : Cl xs L mX10_rests [.ref 1, .int x, .int y, .int w] GS σ GS (pA σ (aRests A x y w, A)) := by
  show Ev xs L mX10_rests 0 [.ref 1, .int x, .int y, .int w] [] GS σ GS _
  have hb := h.2.1
  have h4 := hb.1.1
  unfold aRests
  have bad : ∀ lv : List Value, Ev xs L mX10_rests 38 lv [] GS σ GS (pA σ (-2, A)) := by
    intro lv
    refine xe_bipush (v := -2) dX10_rests_38 (by decide) ?_
    exact xe_iret dX10_rests_40 rfl (pA_0 h)
  refine xe_aload_n dX10_rests_0 rfl ?_
  refine e_getO (G := GS) (r := 1) dX10_rests_1 fdX10_19 rfl gk_1 gr_1_1 ?_
  refine xe_iload_n dX10_rests_4 rfl ?_
  refine e_callVp (E_hasThread bd_4 hb.2.1.1) dX10_rests_5 kvX10_100 (by first | exact bd_k bd_4 | exact bd_k bd_9) rfl ?_
  refine xz_if_eq 22 dX10_rests_8 (by decide) (fun c => ?_) (fun c => ?_)
  · rw [thQ_f c]
    refine xe_iconst (v := -1) dX10_rests_22 (by decide) ?_
    exact xe_iret dX10_rests_23 rfl (pA_0 h)
  obtain ⟨i, hi, rfl⟩ := hasT_of (by omega) c
  rw [thQ_n (by omega) hi]
  refine xe_aload_n dX10_rests_11 rfl ?_
  refine e_getO (G := GS) (r := 1) dX10_rests_12 fdX10_19 rfl gk_1 gr_1_1 ?_
  refine xe_iload_n dX10_rests_15 rfl ?_
  refine e_callVp (E_hasThread bd_4 hb.2.1.1) dX10_rests_16 kvX10_100 (by first | exact bd_k bd_4 | exact bd_k bd_9) rfl ?_
  refine xz_if_ne 24 dX10_rests_19 (by decide) (fun c2 => ?_) (fun c2 => ?_)
  · obtain ⟨j, hj, rfl⟩ := hasT_of (by omega) c2
    rw [thQ_n (by omega) hj]
    dsimp only
    refine xe_iload_n dX10_rests_24 rfl ?_
    refine xe_iload_n dX10_rests_25 rfl ?_
    refine xn_icmp_eq 38 dX10_rests_26 (by decide) (by omega) (by omega) (fun c3 => ?_) (fun c3 => ?_)
    · rw [if_pos c3]
      exact bad _
    rw [if_neg c3]
    refine xe_iload_n dX10_rests_29 rfl ?_
    refine xe_iconst (v := nI 0) dX10_rests_30 (by decide) ?_
    refine xe_iconst (v := nI 1) dX10_rests_31 (by decide) ?_
    refine e_callSp (E_out) dX10_rests_32 ksX10_72 rfl ?_
    refine xz_if_eq 41 dX10_rests_35 (by decide) (fun c4 => ?_) (fun c4 => ?_)
    · obtain ⟨k, -, hk, rfl⟩ := outQ_of (by decide) (by decide) c4
      rw [sel_n hk (by decide)]
      refine xe_aload_n dX10_rests_41 rfl ?_
      refine e_getO (G := GS) (r := 1) dX10_rests_42 fdX10_57 rfl gk_1 gr_1_7 ?_
      refine xe_aload_n dX10_rests_45 rfl ?_
      refine e_getO (G := GS) (r := 1) dX10_rests_46 fdX10_19 rfl gk_1 gr_1_1 ?_
      refine xe_aload_n dX10_rests_49 rfl ?_
      refine e_getO (G := GS) (r := 1) dX10_rests_50 fdX10_23 rfl gk_1 gr_1_2 ?_
      refine xe_iload_n dX10_rests_53 rfl ?_
      refine xe_iload_n dX10_rests_54 rfl ?_
      refine e_callV (G := GS) (r := 105) (E_tryAll hb hi hj) dX10_rests_55 kvX10_220 gk_105 rfl ?_
      rintro v t ⟨rfl, ht, f1, f2⟩
      have ok : ∀ y : Int32, pA σ (y, A) (some (.int y)) t := fun y => pA_q h (by rw [f1 2 (by omega) (by omega) (by omega)]) (fun c c1 c2 c3 => f1 c (by omega) (by omega) (by omega)) f2
      refine xe_iload_n dX10_rests_58 rfl ?_
      match k, hk with
      | 0, _ =>
        refine xe_if_ne 72 dX10_rests_59 (by decide) (fun c => absurd c (by decide)) (fun _ => ?_)
        refine xe_aload_n dX10_rests_62 rfl ?_
        refine e_getO (G := GS) (r := 1) dX10_rests_63 fdX10_57 rfl gk_1 gr_1_7 ?_
        refine e_callVp (G := GS) (r := 105) (E_rsN ht) dX10_rests_66 kvX10_224 gk_105 rfl ?_
        refine xe_goto 79 dX10_rests_69 (by decide) ?_
        exact xe_iret dX10_rests_79 rfl (ok _)
      | 1, _ =>
        refine xe_if_ne 72 dX10_rests_59 (by decide) (fun _ => ?_) (fun c => absurd c (by decide))
        refine xe_aload_n dX10_rests_72 rfl ?_
        refine e_getO (G := GS) (r := 1) dX10_rests_73 fdX10_57 rfl gk_1 gr_1_7 ?_
        refine e_callVp (G := GS) (r := 105) (E_rsF ht) dX10_rests_76 kvX10_225 gk_105 rfl ?_
        exact xe_iret dX10_rests_79 rfl (ok _)
      | k + 2, hk => omega
    · rw [sel_out (by decide) c4]
      exact bad _
  · rw [thQ_f c2]
    refine xe_iconst (v := -1) dX10_rests_22 (by decide) ?_
    exact xe_iret dX10_rests_23 rfl (pA_0 h)
theorem C_snaps (h : IC σ A) {x y : Int32} {u : Bool} : Cl xs L mX10_snaps [.ref 1, .int x, .int y, .int (bI u)] GS σ GS (pA σ (aSnaps A x y u, A)) := by
  show Ev xs L mX10_snaps 0 [.ref 1, .int x, .int y, .int (bI u)] [] GS σ GS _
  have hb := h.2.1
  have h4 := hb.1.1
  unfold aSnaps
  have bad : ∀ lv : List Value, Ev xs L mX10_snaps 20 lv [] GS σ GS (pA σ (-2, A)) := by
    intro lv
    refine xe_bipush (v := -2) dX10_snaps_20 (by decide) ?_
    exact xe_iret dX10_snaps_22 rfl (pA_0 h)
  refine xe_iload_n dX10_snaps_0 rfl ?_
  refine xe_iconst (v := nI 0) dX10_snaps_1 (by decide) ?_
  refine xe_bipush (v := nI 99) dX10_snaps_2 (by decide) ?_
  refine e_callSp (E_out) dX10_snaps_4 ksX10_72 rfl ?_
  refine xz_if_ne 20 dX10_snaps_7 (by decide) (fun c => ?_) (fun c => ?_)
  · rw [c]
    exact bad _
  refine xe_iload_n dX10_snaps_10 rfl ?_
  refine xe_iconst (v := nI 0) dX10_snaps_11 (by decide) ?_
  refine xe_bipush (v := nI 10) dX10_snaps_12 (by decide) ?_
  refine e_callSp (E_out) dX10_snaps_14 ksX10_72 rfl ?_
  refine xz_if_eq 23 dX10_snaps_17 (by decide) (fun c2 => ?_) (fun c2 => ?_)
  · rw [c, c2, if_neg (by decide)]
    obtain ⟨a, -, ha, rfl⟩ := outQ_of (by decide) (by decide) c
    obtain ⟨k, -, hk, rfl⟩ := outQ_of (by decide) (by decide) c2
    rw [nI_clamp (by omega), nI_clamp (by omega)]
    refine xe_aload_n dX10_snaps_23 rfl ?_
    refine e_getO (G := GS) (r := 1) dX10_snaps_24 fdX10_64 rfl gk_1 gr_1_8 ?_
    refine xe_aload_n dX10_snaps_27 rfl ?_
    refine e_getO (G := GS) (r := 1) dX10_snaps_28 fdX10_19 rfl gk_1 gr_1_1 ?_
    refine xe_iload_n dX10_snaps_31 rfl ?_
    refine xe_iload_n dX10_snaps_32 rfl ?_
    refine e_callV (G := GS) (r := 108) (E_weightOfSnaps bd_4 hb (show a < 100 by omega) hk) dX10_snaps_33 kvX10_228 gk_108 rfl ?_
    rintro v t ⟨rfl, f1, f2⟩
    have hb4 : Bd t 4 A.2.1 := hb.to (fun c c1 c2 => f1 c (by omega))
    refine xe_aload_n dX10_snaps_36 rfl ?_
    refine e_getO (G := GS) (r := 1) dX10_snaps_37 fdX10_19 rfl gk_1 gr_1_1 ?_
    refine e_callSp (E_allWeight bd_4 hb4) dX10_snaps_40 ksX10_232 rfl ?_
    refine xe_iload_n dX10_snaps_43 rfl ?_
    have p1 : (10 : Nat) ^ A.2.1.1 ≤ 10 ^ 4 := Nat.pow_le_pow_right (by decide) h4
    have p0 : 0 < (10 : Nat) ^ A.2.1.1 := Nat.pow_pos (by decide)
    have := wsn_lt (z := A.2.1.2.2.2) (v := a) h4 hk
    refine e_callSp (E_toldFraction (u := u) (by omega) p0 (by omega)) dX10_snaps_44 ksX10_216 rfl ?_
    exact xe_iret dX10_snaps_47 rfl (pA_q h (by rw [f1 2 (by omega)]) (fun c c1 c2 c3 => f1 c (by omega)) f2)
  · rw [c, c2]
    exact bad _
theorem IC.sd {t : xS} {x : Int64} (h : IC σ A) (e1 : t.1 = σ.1) (e2 : t.2 1 9 = x) : IC t (aSeed A x) := by
  obtain ⟨a1, a2, a3, a4, a5, a6⟩ := h
  exact ⟨a1.to (by rw [e1]) (by rw [e1]), a2.to (fun c _ _ => by rw [e1]), a3.to (by rw [e1]) (fun c _ _ => by rw [e1]), a4.to (fun c _ _ => by rw [e1]), a5.to (fun c _ _ => by rw [e1]), e2⟩
theorem C_seed (h : IC σ A) {x : Int64} : Cl xs L mX10_seed [.ref 1, .long x] GS σ GS (fun v t => v = some (.long A.2.2.2.2.2) ∧ IC t (aSeed A x) ∧ FC σ t) := by
  show Ev xs L mX10_seed 0 [.ref 1, .long x, .null, .null, .null] [] GS σ GS _
  refine xe_aload_n dX10_seed_0 rfl ?_
  refine xe_getJ (G := GS) (r := 1) dX10_seed_1 fdX10_68 rfl gk_1 ?_
  refine xe_lstore_n dX10_seed_4 (by decide) ?_
  refine xe_aload_n dX10_seed_5 rfl ?_
  refine xe_lload_n dX10_seed_6 rfl ?_
  refine xe_putJ (G := GS) (r := 1) dX10_seed_7 fdX10_68 rfl gk_1 ?_
  refine xe_lload_n dX10_seed_10 rfl ?_
  refine xe_lret dX10_seed_11 rfl ⟨by rw [h.2.2.2.2.2], h.sd rfl ?_, fun _ _ => rfl, fun c c1 => xpl_ne _ _ _ c1⟩
  rw [xpl_at]
  exact pk_uLs
theorem C_years (h : IC σ A) {x : Int32} : Cl xs L mX10_years [.ref 1, .int x] GS σ GS (pA σ (aYears A x)) := by
  show Ev xs L mX10_years 0 [.ref 1, .int x, .null, .null] [] GS σ GS _
  have hb := h.2.1
  unfold aYears
  refine xe_iload_n dX10_years_0 rfl ?_
  refine xe_iconst (v := nI 1) dX10_years_1 (by decide) ?_
  refine xe_bipush (v := nI 30) dX10_years_2 (by decide) ?_
  refine e_callSp (E_out) dX10_years_4 ksX10_72 rfl ?_
  refine xz_if_eq 13 dX10_years_7 (by decide) (fun c => ?_) (fun c => ?_)
  · rw [c, if_neg (by decide)]
    obtain ⟨m, -, hm, rfl⟩ := outQ_of (by decide) (by decide) c
    rw [nI_clamp (by omega)]
    have key : ∀ k i (x : Int64) (P : xP) (s : Nat) (t : xS), i + k = m → Bd t 9 P → (∀ c, (c < 9 ∨ 13 < c) → t.1 c = σ.1 c) → (∀ c, c ≠ 1 → t.2 c = σ.2 c) → t.2 1 9 = x → ∀ r : Int64 × Nat, yrs k x P s = r → Ev xs L mX10_years 28 [.ref 1, .int (nI m), .int (nI s), .int (nI i)] [] GS t GS (pA σ (nI r.2, (A.1, A.2.1, A.2.2.1, A.2.2.2.1, A.2.2.2.2.1, r.1))) := by
      intro k
      induction k with
      | zero =>
        intro i x P s t hi ht f1 f2 f3 r hr
        refine xe_iload_n dX10_years_28 rfl ?_
        refine xe_iload_n dX10_years_29 rfl ?_
        refine xe_icmp_ge 71 dX10_years_30 (by decide) (fun _ => ?_) (fun c => absurd (nI_le (by omega) (by omega)) c)
        refine xe_iload_n dX10_years_71 rfl ?_
        have hr : (x, s) = r := hr
        subst hr
        obtain ⟨a1, a2, a3, a4, a5, a6⟩ := h
        exact xe_iret dX10_years_72 rfl ⟨rfl, ⟨a1.to (by rw [f1 2 (by omega)]) (f1 3 (by omega)), a2.to (fun c c1 c2 => f1 c (by omega)), a3.to (f1 14 (by omega)) (fun c c1 c2 => f1 c (by omega)), a4.to (fun c c1 c2 => f1 c (by omega)), a5.to (fun c c1 c2 => f1 c (by omega)), f3⟩, fun c c1 => f1 c (by omega), f2⟩
      | succ k ih =>
        intro i x P s t hi ht f1 f2 f3 r hr
        refine xe_iload_n dX10_years_28 rfl ?_
        refine xe_iload_n dX10_years_29 rfl ?_
        refine xe_icmp_ge 71 dX10_years_30 (by decide) (fun c => absurd c (nI_ge (by omega) (by omega))) (fun _ => ?_)
        refine xe_aload_n dX10_years_33 rfl ?_
        refine xe_aload_n dX10_years_34 rfl ?_
        refine xe_getJ (G := GS) (r := 1) dX10_years_35 fdX10_68 rfl gk_1 ?_
        rw [f3]
        refine e_callSl (E_drawnFrom) dX10_years_38 ksX10_235 rfl ?_
        rw [yrs_s] at hr
        generalize nxs x = y at hr ⊢
        refine xe_putJ (G := GS) (r := 1) dX10_years_41 fdX10_68 rfl gk_1 ?_
        refine xe_aload_n dX10_years_44 rfl ?_
        refine e_getO (G := GS) (r := 1) dX10_years_45 fdX10_23 rfl gk_1 gr_1_2 ?_
        refine xe_aload_n dX10_years_48 rfl ?_
        refine xe_getJ (G := GS) (r := 1) dX10_years_49 fdX10_68 rfl gk_1 ?_
        have e9 : (xpl t 1 9 y).2 1 9 = y := by rw [xpl_at]; exact pk_uLs
        rw [e9]
        refine e_callS (E_liveYear bd_9 (ht.to (t := xpl t 1 9 y) (fun _ _ _ => rfl))) dX10_years_52 ksX10_239 rfl ?_
        rintro v u ⟨rfl, hu, fu⟩
        refine xe_iload_n dX10_years_55 rfl ?_
        refine xe_aload_n dX10_years_56 rfl ?_
        refine e_getO (G := GS) (r := 1) dX10_years_57 fdX10_23 rfl gk_1 gr_1_2 ?_
        refine e_callVp (E_allCrossings bd_9 hu.2.2.2) dX10_years_60 kvX10_243 (by first | exact bd_k bd_4 | exact bd_k bd_9) rfl ?_
        refine xe_iadd dX10_years_63 ?_
        rw [nI_add]
        refine xe_istore_n dX10_years_64 (by decide) ?_
        refine xe_inc dX10_years_65 rfl (by decide) ?_
        refine xe_goto 28 dX10_years_68 (by decide) ?_
        rw [nI_1]
        exact ih (i + 1) y _ _ u (by omega) hu (fun c hc => (fu.1 c hc).trans (f1 c hc)) (fun c c1 => by rw [fu.2]; exact (xpl_ne _ _ _ c1).trans (f2 c c1)) (by rw [fu.2]; exact e9) r hr
    refine xe_aload_n dX10_years_13 rfl ?_
    refine e_getO (G := GS) (r := 1) dX10_years_14 fdX10_23 rfl gk_1 gr_1_2 ?_
    refine xe_aload_n dX10_years_17 rfl ?_
    refine e_getO (G := GS) (r := 1) dX10_years_18 fdX10_19 rfl gk_1 gr_1_1 ?_
    refine e_callV (E_becomeLike bd_9 bd_4 (by decide) hb) dX10_years_21 kvX10_91 (by first | exact bd_k bd_4 | exact bd_k bd_9) rfl ?_
    rintro v t ⟨rfl, ht, ft⟩
    refine xe_iconst (v := nI 0) dX10_years_24 (by decide) ?_
    refine xe_istore_n dX10_years_25 (by decide) ?_
    refine xe_iconst (v := nI 0) dX10_years_26 (by decide) ?_
    refine xe_istore_n dX10_years_27 (by decide) ?_
    exact key m 0 A.2.2.2.2.2 A.2.1 0 t (by omega) ht (fun c hc => ft.1 c hc) (fun c _ => by rw [ft.2]) (by rw [ft.2]; exact h.2.2.2.2.2) _ rfl
  · rw [c, if_pos rfl]
    refine xe_bipush (v := -2) dX10_years_10 (by decide) ?_
    exact xe_iret dX10_years_12 rfl (pA_0 h)
theorem C_keep (h : IC σ A) {x : Int32} : Cl xs L mX10_keep [.ref 1, .int x] GS σ GS (pA σ (aKeep A x)) := by
  show Ev xs L mX10_keep 0 [.ref 1, .int x] [] GS σ GS _
  obtain ⟨a1, a2, a3, a4, a5, a6⟩ := id h
  unfold aKeep
  refine xe_iload_n dX10_keep_0 rfl ?_
  refine xe_iconst (v := nI 0) dX10_keep_1 (by decide) ?_
  refine xe_iconst (v := nI 1) dX10_keep_2 (by decide) ?_
  refine e_callSp (E_out) dX10_keep_3 ksX10_72 rfl ?_
  refine xz_if_eq 11 dX10_keep_6 (by decide) (fun c => ?_) (fun c => ?_)
  · obtain ⟨k, -, hk, rfl⟩ := outQ_of (by decide) (by decide) c
    rw [sel_n hk (by decide)]
    refine xe_aload_n dX10_keep_11 rfl ?_
    refine e_getO (G := GS) (r := 1) dX10_keep_12 fdX10_36 rfl gk_1 gr_1_4 ?_
    refine xe_iload_n dX10_keep_15 rfl ?_
    refine xe_aload_n dX10_keep_16 rfl ?_
    refine e_getO (G := GS) (r := 1) dX10_keep_17 fdX10_19 rfl gk_1 gr_1_1 ?_
    refine e_callV (G := GS) (r := 86) (E_sput a4 a2 (show k < 2 by omega)) dX10_keep_20 kvX10_246 gk_86 rfl ?_
    rintro v t ⟨rfl, t1, f1, f2⟩
    have hb4 : Bd t 4 A.2.1 := a2.to (fun c c1 c2 => f1 c (by omega))
    refine xe_aload_n dX10_keep_23 rfl ?_
    refine e_getO (G := GS) (r := 1) dX10_keep_24 fdX10_19 rfl gk_1 gr_1_1 ?_
    refine e_callVp (E_size bd_4 hb4.2.2.1) dX10_keep_27 kvX10_162 (by first | exact bd_k bd_4 | exact bd_k bd_9) rfl ?_
    exact xe_iret dX10_keep_30 rfl ⟨rfl, ⟨a1.to (by rw [f1 2 (by omega)]) (f1 3 (by omega)), hb4, a3.to (f1 14 (by omega)) (fun c c1 c2 => f1 c (by omega)), t1, a5.to (fun c c1 c2 => f1 c (by omega)), by rw [f2]; exact a6⟩, FC.of (fun c c1 => f1 c (by omega)) f2⟩
  · rw [sel_out (by decide) c]
    refine xe_iconst (v := -1) dX10_keep_9 (by decide) ?_
    exact xe_iret dX10_keep_10 rfl (pA_0 h)
theorem C_again (h : IC σ A) {x : Int32} : Cl xs L mX10_again [.ref 1, .int x] GS σ GS (pA σ (aAgain A x)) := by
  show Ev xs L mX10_again 0 [.ref 1, .int x] [] GS σ GS _
  obtain ⟨a1, a2, a3, a4, a5, a6⟩ := id h
  unfold aAgain
  refine xe_iload_n dX10_again_0 rfl ?_
  refine xe_iconst (v := nI 0) dX10_again_1 (by decide) ?_
  refine xe_iconst (v := nI 1) dX10_again_2 (by decide) ?_
  refine e_callSp (E_out) dX10_again_3 ksX10_72 rfl ?_
  refine xz_if_eq 11 dX10_again_6 (by decide) (fun c => ?_) (fun c => ?_)
  · obtain ⟨k, -, hk, rfl⟩ := outQ_of (by decide) (by decide) c
    rw [sel_n hk (by decide)]
    dsimp only
    refine xe_aload_n dX10_again_11 rfl ?_
    refine e_getO (G := GS) (r := 1) dX10_again_12 fdX10_36 rfl gk_1 gr_1_4 ?_
    refine xe_iload_n dX10_again_15 rfl ?_
    refine xe_aload_n dX10_again_16 rfl ?_
    refine e_getO (G := GS) (r := 1) dX10_again_17 fdX10_19 rfl gk_1 gr_1_1 ?_
    cases hq : A.2.2.2.1 k with
    | none =>
      refine e_callV (G := GS) (r := 86) (E_giveBack0 a4 (show k < 2 by omega) hq) dX10_again_20 kvX10_250 gk_86 rfl ?_
      rintro v t ⟨rfl, rfl⟩
      refine xe_if_ne 29 dX10_again_23 (by decide) (fun c => absurd c (show ¬ ¬ bI false = 0 by decide)) (fun _ => ?_)
      refine xe_bipush (v := -3) dX10_again_26 (by decide) ?_
      exact xe_iret dX10_again_28 rfl (pA_0 h)
    | some Q =>
      refine e_callV (G := GS) (r := 86) (E_giveBack a4 (show k < 2 by omega) hq) dX10_again_20 kvX10_250 gk_86 rfl ?_
      rintro v t ⟨rfl, t1, f1, f2⟩
      refine xe_if_ne 29 dX10_again_23 (by decide) (fun _ => ?_) (fun c => absurd c (show ¬ bI true = 0 by decide))
      refine xe_aload_n dX10_again_29 rfl ?_
      refine e_getO (G := GS) (r := 1) dX10_again_30 fdX10_29 rfl gk_1 gr_1_3 ?_
      refine e_callV (G := GS) (r := 14) (E_hclear) dX10_again_33 kvX10_95 gk_14 rfl ?_
      rintro v u ⟨rfl, u1, u2, u3⟩
      have hb4 : Bd u 4 Q := t1.to (fun c c1 c2 => u2 c (by omega) (by omega))
      refine xe_aload_n dX10_again_36 rfl ?_
      refine e_getO (G := GS) (r := 1) dX10_again_37 fdX10_19 rfl gk_1 gr_1_1 ?_
      refine e_callVp (E_size bd_4 hb4.2.2.1) dX10_again_40 kvX10_162 (by first | exact bd_k bd_4 | exact bd_k bd_9) rfl ?_
      have e : ∀ c, c ≠ 14 → (c < 4 ∨ 85 < c) → u.1 c = σ.1 c := fun c c1 c2 => (u2 c c1 (by omega)).trans (f1 c (by omega))
      have e2 : u.2 = σ.2 := by rw [u3, f2]
      exact xe_iret dX10_again_43 rfl ⟨rfl, ⟨a1.to (by rw [e 2 (by omega) (by omega)]) (e 3 (by omega) (by omega)), hb4, u1, a4.to (fun c c1 c2 => e c (by omega) (by omega)), a5.to (fun c c1 c2 => e c (by omega) (by omega)), by rw [e2]; exact a6⟩, FC.of (fun c c1 => e c (by omega) (by omega)) e2⟩
  · rw [sel_out (by decide) c]
    refine xe_iconst (v := -1) dX10_again_9 (by decide) ?_
    exact xe_iret dX10_again_10 rfl (pA_0 h)
theorem C_count (h : IC σ A) {w : Int32} : Cl xs L mX10_count [.ref 1, .int w] GS σ GS (pA σ (aCount A w, A)) := by
  show Ev xs L mX10_count 0 [.ref 1, .int w] [] GS σ GS _
  obtain ⟨a1, a2, a3, a4, a5, a6⟩ := id h
  unfold aCount
  refine xe_iload_n dX10_count_0 rfl ?_
  cases hs : sel w 7 with
  | none =>
    refine xe_tableOut 112 dX10_count_1 (sel_none hs) (by decide) ?_
    refine xe_bipush (v := -2) dX10_count_112 (by decide) ?_
    exact xe_iret dX10_count_114 rfl (pA_0 h)
  | some k =>
    obtain ⟨hk, rfl⟩ := sel_some (by decide) hs
    match k, hk with
    | 0, _ =>
      refine xe_tableIn 48 dX10_count_1 (by decide) (by decide) rfl (by decide) ?_
      refine xe_aload_n dX10_count_48 rfl ?_
      refine e_getO (G := GS) (r := 1) dX10_count_49 fdX10_10 rfl gk_1 gr_1_0 ?_
      refine e_callVp (G := GS) (r := 2) (E_tlength a1) dX10_count_52 kvX10_80 gk_2 rfl ?_
      exact xe_iret dX10_count_55 rfl (pA_0 h)
    | 1, _ =>
      refine xe_tableIn 56 dX10_count_1 (by decide) (by decide) rfl (by decide) ?_
      refine xe_aload_n dX10_count_56 rfl ?_
      refine e_getO (G := GS) (r := 1) dX10_count_57 fdX10_19 rfl gk_1 gr_1_1 ?_
      refine e_callVp (E_threads bd_4 a2.2.1) dX10_count_60 kvX10_97 (by first | exact bd_k bd_4 | exact bd_k bd_9) rfl ?_
      exact xe_iret dX10_count_63 rfl (pA_0 h)
    | 2, _ =>
      refine xe_tableIn 64 dX10_count_1 (by decide) (by decide) rfl (by decide) ?_
      refine xe_aload_n dX10_count_64 rfl ?_
      refine e_getO (G := GS) (r := 1) dX10_count_65 fdX10_19 rfl gk_1 gr_1_1 ?_
      refine e_callVp (E_size bd_4 a2.2.2.1) dX10_count_68 kvX10_162 (by first | exact bd_k bd_4 | exact bd_k bd_9) rfl ?_
      exact xe_iret dX10_count_71 rfl (pA_0 h)
    | 3, _ =>
      refine xe_tableIn 72 dX10_count_1 (by decide) (by decide) rfl (by decide) ?_
      refine xe_aload_n dX10_count_72 rfl ?_
      refine e_getO (G := GS) (r := 1) dX10_count_73 fdX10_19 rfl gk_1 gr_1_1 ?_
      refine e_callVp (E_allCrossings bd_4 a2.2.2.2) dX10_count_76 kvX10_243 (by first | exact bd_k bd_4 | exact bd_k bd_9) rfl ?_
      exact xe_iret dX10_count_79 rfl (pA_0 h)
    | 4, _ =>
      refine xe_tableIn 80 dX10_count_1 (by decide) (by decide) rfl (by decide) ?_
      refine xe_aload_n dX10_count_80 rfl ?_
      refine e_getO (G := GS) (r := 1) dX10_count_81 fdX10_19 rfl gk_1 gr_1_1 ?_
      refine e_callVp (E_endNails bd_4 a2.2.2.1) dX10_count_84 kvX10_254 (by first | exact bd_k bd_4 | exact bd_k bd_9) rfl ?_
      exact xe_iret dX10_count_87 rfl (pA_0 h)
    | 5, _ =>
      refine xe_tableIn 88 dX10_count_1 (by decide) (by decide) rfl (by decide) ?_
      refine xe_aload_n dX10_count_88 rfl ?_
      refine e_getO (G := GS) (r := 1) dX10_count_89 fdX10_19 rfl gk_1 gr_1_1 ?_
      refine e_callVp (E_lengthOfAll bd_4 a2.2.2.1) dX10_count_92 kvX10_257 (by first | exact bd_k bd_4 | exact bd_k bd_9) rfl ?_
      exact xe_iret dX10_count_95 rfl (pA_0 h)
    | 6, _ =>
      refine xe_tableIn 96 dX10_count_1 (by decide) (by decide) rfl (by decide) ?_
      refine xe_aload_n dX10_count_96 rfl ?_
      refine e_getO (G := GS) (r := 1) dX10_count_97 fdX10_29 rfl gk_1 gr_1_3 ?_
      have hsz : σ.1 14 2 = nI A.2.2.1.length := by obtain ⟨f, g0, g1, g2, g3⟩ := a3; exact g2
      refine e_callVp (G := GS) (r := 14) (E_hsize hsz) dX10_count_100 kvX10_172 gk_14 rfl ?_
      exact xe_iret dX10_count_103 rfl (pA_0 h)
    | 7, _ =>
      refine xe_tableIn 104 dX10_count_1 (by decide) (by decide) rfl (by decide) ?_
      refine xe_aload_n dX10_count_104 rfl ?_
      refine e_getO (G := GS) (r := 1) dX10_count_105 fdX10_43 rfl gk_1 gr_1_5 ?_
      refine e_callVp (G := GS) (r := 99) (E_nsize a5) dX10_count_108 kvX10_204 gk_99 rfl ?_
      exact xe_iret dX10_count_111 rfl (pA_0 h)
    | k + 8, hk => omega
end CA
