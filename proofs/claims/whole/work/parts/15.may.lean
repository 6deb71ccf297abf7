/-! boards with threads; whether a thread may go on -/
/-- how many threads, their kinds, their nails, the stretches as they lie -/
abbrev xP : Type := Nat × (Nat → Nat) × (Nat → Nat) × List xSt
def crS (s u : xSt) : Bool := crs4 s.2.1 s.2.2.1 u.2.1 u.2.2.1
/-- how many times stretches cross, each two once -/
def crz : List xSt → Nat
  | [] => 0
  | s :: r => r.countP (crS s) + crz r
def Th (σ : xS) (B : Nat) (P : xP) : Prop := σ.1 B 4 = nI P.1 ∧ P.1 ≤ 4 ∧ ∀ t, t < P.1 → σ.1 (B + 1) t = nI (P.2.1 t) ∧ σ.1 (B + 2) t = nI (P.2.2.1 t) ∧ σ.1 (B + 3) t = nI (cnt P.2.2.2 t) ∧ P.2.1 t < 4 ∧ P.2.2.1 t < 12 ∧ cnt P.2.2.2 t ≤ 12
def hasT (T : Nat) (x : Int32) : Bool := !decide (x < 0) && !decide (nI T ≤ x)
theorem hasT_n {T j : Nat} (hT : T < 2 ^ 31) (hj : j < 2 ^ 31) : hasT T (nI j) = decide (j < T) := by
  unfold hasT
  rw [decide_eq_false (nI_pos hj)]
  by_cases h : j < T
  · rw [decide_eq_true h, decide_eq_false (nI_ge h hT)]
    rfl
  · rw [decide_eq_false h, decide_eq_true (nI_le (Nat.not_lt.mp h) hj)]
    rfl
theorem hasT_of {T : Nat} {x : Int32} (hT : T < 2 ^ 31) (h : hasT T x = true) : ∃ j : Nat, j < T ∧ x = nI j := by
  unfold hasT at h
  simp only [Bool.and_eq_true, Bool.not_eq_true', decide_eq_false_iff_not] at h
  rcases pk_ix x hT with q | q | q
  · exact absurd q h.1
  · exact absurd q h.2
  · exact q
theorem out_n {n m : Nat} (hn : n < 2 ^ 31) (hm : m < 2 ^ 31) : (decide (nI n < nI 0) || !decide (nI n ≤ nI m)) = !decide (n ≤ m) := by
  rw [nI_0, decide_eq_false (nI_pos hn), Bool.false_or]
  by_cases h : n ≤ m
  · rw [decide_eq_true h, decide_eq_true (nI_le h hm)]
  · rw [decide_eq_false h, decide_eq_false (nI_ge (Nat.not_le.mp h) hn)]
def apN (a b : Nat) : Nat := min ((b + 12 - a) % 12) (12 - (b + 12 - a) % 12)
theorem apN_all : ∀ a, a < 12 → ∀ b, b < 12 → japart (nI a) (nI b) = nI (apN a b) ∧ apN a b < 12 := by decide +kernel
def mayW (P : xP) (j n : Nat) : Bool := decide (j < P.1) && decide (n ≤ 11) && !decide (n = P.2.2.1 j) && decide (cnt P.2.2.2 j < 12) && (match P.2.1 j with
  | 0 => true
  | 1 => !decide (apN (P.2.2.1 j) n = 1)
  | 2 => decide (crc (fun t => t == j) (P.2.2.1 j) n P.2.2.2 = 0)
  | _ => !decide (apN (P.2.2.1 j) n = 1) && decide (lenT P.2.2.2 j + lnb (P.2.2.1 j) n ≤ 80))
theorem crc_le (p : Nat → Bool) (f o : Nat) (z : List xSt) : crc p f o z ≤ z.length := List.countP_le_length
section MW
variable {xs : Nat → Int32} {L : Nat} {σ : xS} {B : Nat} {P : xP}
theorem E_hasThread (hB : IsBd B) {T : Nat} (hT : σ.1 B 4 = nI T) {x : Int32} : Cl xs L mX0_hasThread [.ref B, .int x] GS σ GS (pI σ (bI (hasT T x))) := by
  show Ev xs L mX0_hasThread 0 [.ref B, .int x] [] GS σ GS _
  refine xe_iload_n dX0_hasThread_0 rfl ?_
  refine xe_if_lt 16 dX0_hasThread_1 (by decide) (fun c1 => ?_) (fun c1 => ?_)
  · refine xe_iconst (v := nI 0) dX0_hasThread_16 (by decide) ?_
    exact e_zret dX0_hasThread_17 rfl (by simp [bI, hasT, nI_0, nI_one, *])
  · refine xe_iload_n dX0_hasThread_4 rfl ?_
    refine xe_aload_n dX0_hasThread_5 rfl ?_
    refine e_getI dX0_hasThread_6 fdX0_24 rfl (bd_k hB) hT ?_
    refine xe_icmp_ge 16 dX0_hasThread_9 (by decide) (fun c9 => ?_) (fun c9 => ?_)
    · refine xe_iconst (v := nI 0) dX0_hasThread_16 (by decide) ?_
      exact e_zret dX0_hasThread_17 rfl (by simp [bI, hasT, nI_0, nI_one, *])
    · refine xe_iconst (v := nI 1) dX0_hasThread_12 (by decide) ?_
      refine xe_goto 17 dX0_hasThread_13 (by decide) ?_
      exact e_zret dX0_hasThread_17 rfl (by simp [bI, hasT, nI_0, nI_one, *])
theorem E_hasStretch (hB : IsBd B) {T : Nat} (hT : σ.1 B 5 = nI T) {x : Int32} : Cl xs L mX0_hasStretch [.ref B, .int x] GS σ GS (pI σ (bI (hasT T x))) := by
  show Ev xs L mX0_hasStretch 0 [.ref B, .int x] [] GS σ GS _
  refine xe_iload_n dX0_hasStretch_0 rfl ?_
  refine xe_if_lt 16 dX0_hasStretch_1 (by decide) (fun c1 => ?_) (fun c1 => ?_)
  · refine xe_iconst (v := nI 0) dX0_hasStretch_16 (by decide) ?_
    exact e_zret dX0_hasStretch_17 rfl (by simp [bI, hasT, nI_0, nI_one, *])
  · refine xe_iload_n dX0_hasStretch_4 rfl ?_
    refine xe_aload_n dX0_hasStretch_5 rfl ?_
    refine e_getI dX0_hasStretch_6 fdX0_28 rfl (bd_k hB) hT ?_
    refine xe_icmp_ge 16 dX0_hasStretch_9 (by decide) (fun c9 => ?_) (fun c9 => ?_)
    · refine xe_iconst (v := nI 0) dX0_hasStretch_16 (by decide) ?_
      exact e_zret dX0_hasStretch_17 rfl (by simp [bI, hasT, nI_0, nI_one, *])
    · refine xe_iconst (v := nI 1) dX0_hasStretch_12 (by decide) ?_
      refine xe_goto 17 dX0_hasStretch_13 (by decide) ?_
      exact e_zret dX0_hasStretch_17 rfl (by simp [bI, hasT, nI_0, nI_one, *])
theorem E_hasThreadN (hB : IsBd B) (h : Th σ B P) {j : Nat} (hj : j < 2 ^ 31) : Cl xs L mX0_hasThread [.ref B, .int (nI j)] GS σ GS (pI σ (bI (decide (j < P.1)))) := by
  have := h.2.1
  rw [← hasT_n (by omega) hj]
  exact E_hasThread hB h.1
theorem E_threads (hB : IsBd B) (h : Th σ B P) : Cl xs L mX0_threads [.ref B] GS σ GS (pI σ (nI P.1)) := by
  show Ev xs L mX0_threads 0 [.ref B] [] GS σ GS _
  refine xe_aload_n dX0_threads_0 rfl ?_
  refine e_getI dX0_threads_1 fdX0_24 rfl (bd_k hB) h.1 ?_
  exact e_iret dX0_threads_4 rfl (by first | rfl | simp [*])
theorem E_allCrossings (hB : IsBd B) {x : Int32} (h : σ.1 B 6 = x) : Cl xs L mX0_allCrossings [.ref B] GS σ GS (pI σ x) := by
  show Ev xs L mX0_allCrossings 0 [.ref B] [] GS σ GS _
  refine xe_aload_n dX0_allCrossings_0 rfl ?_
  refine e_getI dX0_allCrossings_1 fdX0_31 rfl (bd_k hB) h ?_
  exact e_iret dX0_allCrossings_4 rfl (by first | rfl | simp [*])
theorem E_nailOf (hB : IsBd B) (h : Th σ B P) {j : Nat} (hj : j < P.1) : Cl xs L mX0_nailOf [.ref B, .int (nI j)] GS σ GS (pI σ (nI (P.2.2.1 j))) := by
  show Ev xs L mX0_nailOf 0 [.ref B, .int (nI j)] [] GS σ GS _
  have h4 := h.2.1
  refine xe_aload_n dX0_nailOf_0 rfl ?_
  refine xe_iload_n dX0_nailOf_1 rfl ?_
  refine e_callVp (E_hasThreadN hB h (by omega)) dX0_nailOf_2 kvX0_40 (bd_k hB) rfl ?_
  refine xe_if_eq 17 dX0_nailOf_5 (by decide) (fun c => absurd c (by rw [decide_eq_true hj]; decide)) (fun _ => ?_)
  refine xe_aload_n dX0_nailOf_8 rfl ?_
  refine e_getA dX0_nailOf_9 fdX0_15 rfl (bd_k hB) (bd_r1 hB) ?_
  refine xe_iload_n dX0_nailOf_12 rfl ?_
  refine e_iald dX0_nailOf_13 (bd_k2 hB) (bd_n2 hB) (by omega) (by decide) (h.2.2 j hj).2.1 ?_
  refine xe_goto 18 dX0_nailOf_14 (by decide) ?_
  exact e_iret dX0_nailOf_18 rfl (by first | rfl | simp [*])
theorem E_kindOf (hB : IsBd B) (h : Th σ B P) {j : Nat} (hj : j < P.1) : Cl xs L mX0_kindOf [.ref B, .int (nI j)] GS σ GS (pI σ (nI (P.2.1 j))) := by
  show Ev xs L mX0_kindOf 0 [.ref B, .int (nI j)] [] GS σ GS _
  have h4 := h.2.1
  refine xe_aload_n dX0_kindOf_0 rfl ?_
  refine xe_iload_n dX0_kindOf_1 rfl ?_
  refine e_callVp (E_hasThreadN hB h (by omega)) dX0_kindOf_2 kvX0_40 (bd_k hB) rfl ?_
  refine xe_if_eq 17 dX0_kindOf_5 (by decide) (fun c => absurd c (by rw [decide_eq_true hj]; decide)) (fun _ => ?_)
  refine xe_aload_n dX0_kindOf_8 rfl ?_
  refine e_getA dX0_kindOf_9 fdX0_9 rfl (bd_k hB) (bd_r0 hB) ?_
  refine xe_iload_n dX0_kindOf_12 rfl ?_
  refine e_iald dX0_kindOf_13 (bd_k1 hB) (bd_n1 hB) (by omega) (by decide) (h.2.2 j hj).1 ?_
  refine xe_goto 18 dX0_kindOf_14 (by decide) ?_
  exact e_iret dX0_kindOf_18 rfl (by first | rfl | simp [*])
theorem E_stretchesOf (hB : IsBd B) (h : Th σ B P) (hc0 : ∀ s ∈ P.2.2.2, s.1 < P.1) {j : Nat} (hj : j < 2 ^ 31) : Cl xs L mX0_stretchesOf [.ref B, .int (nI j)] GS σ GS (pI σ (nI (cnt P.2.2.2 j))) := by
  show Ev xs L mX0_stretchesOf 0 [.ref B, .int (nI j)] [] GS σ GS _
  have h4 := h.2.1
  have hc : P.1 ≤ j → cnt P.2.2.2 j = 0 := fun hh => List.countP_eq_zero.mpr (fun s hs => by
    have := hc0 s hs
    simp only [beq_iff_eq]
    omega)
  refine xe_aload_n dX0_stretchesOf_0 rfl ?_
  refine xe_iload_n dX0_stretchesOf_1 rfl ?_
  refine e_callVp (E_hasThreadN hB h hj) dX0_stretchesOf_2 kvX0_40 (bd_k hB) rfl ?_
  refine xz_if_eq 17 dX0_stretchesOf_5 (by decide) (fun c5 => ?_) (fun c5 => ?_)
  · refine xe_iconst (v := nI 0) dX0_stretchesOf_17 (by decide) ?_
    first
      | exact e_iret dX0_stretchesOf_18 rfl rfl
      | exact e_iret dX0_stretchesOf_18 rfl (by rw [hc (by simpa using c5)])
  · refine xe_aload_n dX0_stretchesOf_8 rfl ?_
    refine e_getA dX0_stretchesOf_9 fdX0_18 rfl (bd_k hB) (bd_r2 hB) ?_
    refine xe_iload_n dX0_stretchesOf_12 rfl ?_
    refine e_iald dX0_stretchesOf_13 (bd_k3 hB) (bd_n3 hB) (by simp only [decide_eq_true_eq] at c5; omega) (by decide) (h.2.2 j (by simpa using c5)).2.2.1 ?_
    refine xe_goto 18 dX0_stretchesOf_14 (by decide) ?_
    first
      | exact e_iret dX0_stretchesOf_18 rfl rfl
      | exact e_iret dX0_stretchesOf_18 rfl (by rw [hc (by simpa using c5)])
theorem E_mayCut (hB : IsBd B) (h : Th σ B P) (hc0 : ∀ s ∈ P.2.2.2, s.1 < P.1) (hl : P.2.2.2.length ≤ 48) {j : Nat} (hj : j < 2 ^ 31) : Cl xs L mX0_mayCut [.ref B, .int (nI j)] GS σ GS (pI σ (bI (decide (0 < cnt P.2.2.2 j)))) := by
  show Ev xs L mX0_mayCut 0 [.ref B, .int (nI j)] [] GS σ GS _
  have h4 : cnt P.2.2.2 j ≤ P.2.2.2.length := List.countP_le_length
  refine xe_aload_n dX0_mayCut_0 rfl ?_
  refine xe_iload_n dX0_mayCut_1 rfl ?_
  refine e_callVp (E_stretchesOf hB h hc0 hj) dX0_mayCut_2 kvX0_119 (bd_k hB) rfl ?_
  refine xn_if_le 12 dX0_mayCut_5 (by decide) (by omega) (fun c5 => ?_) (fun c5 => ?_)
  · refine xe_iconst (v := nI 0) dX0_mayCut_12 (by decide) ?_
    exact e_zret dX0_mayCut_13 rfl (by simp [bI, nI_0, nI_one]; omega)
  · refine xe_iconst (v := nI 1) dX0_mayCut_8 (by decide) ?_
    refine xe_goto 13 dX0_mayCut_9 (by decide) ?_
    exact e_zret dX0_mayCut_13 rfl (by simp [bI, nI_0, nI_one]; omega)
theorem E_crossedBetween (hB : IsBd B) {z : List xSt} (hz : Ls σ B z) {f o : Nat} (hf : f < 12) (ho : o < 12) : Cl xs L mX0_crossedBetween [.ref B, .int (nI f), .int (nI o)] GS σ GS (pI σ (nI (crc (fun _ => true) f o z))) := by
  show Ev xs L mX0_crossedBetween 0 [.ref B, .int (nI f), .int (nI o)] [] GS σ GS _
  refine xe_aload_n dX0_crossedBetween_0 rfl ?_
  refine xe_iconst (v := nI 0) dX0_crossedBetween_1 (by decide) ?_
  refine xe_iconst (v := -1) dX0_crossedBetween_2 (by decide) ?_
  refine xe_iload_n dX0_crossedBetween_3 rfl ?_
  refine xe_iload_n dX0_crossedBetween_4 rfl ?_
  refine e_callVp (E_crossed hB hz (l := 0) (Nat.zero_le _) hf ho (Or.inl ⟨rfl, fun _ => rfl⟩)) dX0_crossedBetween_5 kvX0_67 (bd_k hB) rfl ?_
  exact e_iret dX0_crossedBetween_8 rfl (by first | rfl | simp [*])
theorem E_crossingFrom (hB : IsBd B) {z : List xSt} (hz : Ls σ B z) {i l : Nat} {s : xSt} (hs : z[i]? = some s) (hl : l ≤ z.length) : Cl xs L mX0_crossingFrom [.ref B, .int (nI l), .int (nI i)] GS σ GS (pI σ (nI (crc (fun _ => true) s.2.1 s.2.2.1 (z.drop l)))) := by
  show Ev xs L mX0_crossingFrom 0 [.ref B, .int (nI l), .int (nI i)] [] GS σ GS _
  refine xe_aload_n dX0_crossingFrom_0 rfl ?_
  refine xe_iload_n dX0_crossingFrom_1 rfl ?_
  refine xe_iconst (v := -1) dX0_crossingFrom_2 (by decide) ?_
  refine xe_aload_n dX0_crossingFrom_3 rfl ?_
  refine xe_iload_n dX0_crossingFrom_4 rfl ?_
  refine e_callVp (E_fromAt hB hz hs) dX0_crossingFrom_5 kvX0_48 (bd_k hB) rfl ?_
  refine xe_aload_n dX0_crossingFrom_8 rfl ?_
  refine xe_iload_n dX0_crossingFrom_9 rfl ?_
  refine e_callVp (E_toAt hB hz hs) dX0_crossingFrom_10 kvX0_51 (bd_k hB) rfl ?_
  refine e_callVp (E_crossed hB hz (l := l) hl (hz.so hs).2.1 (hz.so hs).2.2.1 (Or.inl ⟨rfl, fun _ => rfl⟩)) dX0_crossingFrom_13 kvX0_67 (bd_k hB) rfl ?_
  exact e_iret dX0_crossingFrom_16 rfl (by first | rfl | simp [*])
theorem nI_m1 {j : Nat} (h : j < 2 ^ 31) : ¬ nI j = -1 := fun e => absurd (nI_pos h) (by rw [e]; decide)
theorem E_mayWind (hB : IsBd B) (h : Th σ B P) (hz : Ls σ B P.2.2.2) {j n : Nat} (hj : j < 2 ^ 31) (hn : n < 2 ^ 31) : Cl xs L mX0_mayWind [.ref B, .int (nI j), .int (nI n)] GS σ GS (pI σ (bI (mayW P j n))) := by
  show Ev xs L mX0_mayWind 0 [.ref B, .int (nI j), .int (nI n), .null] [] GS σ GS _
  have h4 := h.2.1
  have h48 := hz.2.1
  refine xe_aload_n dX0_mayWind_0 rfl ?_
  refine xe_iload_n dX0_mayWind_1 rfl ?_
  refine e_callVp (E_hasThreadN hB h hj) dX0_mayWind_2 kvX0_40 (bd_k hB) rfl ?_
  refine xz_if_eq 18 dX0_mayWind_5 (by decide) (fun c5 => ?_) (fun c5 => ?_)
  · refine xe_iconst (v := nI 0) dX0_mayWind_18 (by decide) ?_
    exact e_zret dX0_mayWind_19 rfl (by unfold mayW; rw [c5]; rfl)
  have hjT : j < P.1 := by simpa using c5
  refine xe_iload_n dX0_mayWind_8 rfl ?_
  refine xe_iconst (v := nI 0) dX0_mayWind_9 (by decide) ?_
  refine xe_bipush (v := nI 11) dX0_mayWind_10 (by decide) ?_
  refine e_callSp (E_isOutside) dX0_mayWind_12 ksX0_60 rfl ?_
  rw [out_n hn (by omega)]
  refine xz_if_eq 20 dX0_mayWind_15 (by decide) (fun c15 => ?_) (fun c15 => ?_)
  · have hn11 : n ≤ 11 := by simpa using c15
    obtain ⟨t1, t2, t3, t4, t5, t6⟩ := h.2.2 j hjT
    refine xe_aload_n dX0_mayWind_20 rfl ?_
    refine e_getA dX0_mayWind_21 fdX0_15 rfl (bd_k hB) (bd_r1 hB) ?_
    refine xe_iload_n dX0_mayWind_24 rfl ?_
    refine e_iald dX0_mayWind_25 (bd_k2 hB) (bd_n2 hB) (by omega) (by decide) (h.2.2 j hjT).2.1 ?_
    refine xe_istore_n dX0_mayWind_26 (by decide) ?_
    refine xe_iload_n dX0_mayWind_27 rfl ?_
    refine xe_iload_n dX0_mayWind_28 rfl ?_
    refine xn_icmp_eq 43 dX0_mayWind_29 (by decide) (by omega) (by omega) (fun c29 => ?_) (fun c29 => ?_)
    · refine xe_iconst (v := nI 0) dX0_mayWind_43 (by decide) ?_
      exact e_zret dX0_mayWind_44 rfl (by unfold mayW; rw [decide_eq_true c29]; simp [bI, nI_0])
    refine xe_aload_n dX0_mayWind_32 rfl ?_
    refine e_getA dX0_mayWind_33 fdX0_18 rfl (bd_k hB) (bd_r2 hB) ?_
    refine xe_iload_n dX0_mayWind_36 rfl ?_
    refine e_iald dX0_mayWind_37 (bd_k3 hB) (bd_n3 hB) (by omega) (by decide) (h.2.2 j hjT).2.2.1 ?_
    refine xe_bipush (v := nI 12) dX0_mayWind_38 (by decide) ?_
    refine xn_icmp_lt 45 dX0_mayWind_40 (by decide) (by omega) (by omega) (fun c40 => ?_) (fun c40 => ?_)
    · refine xe_aload_n dX0_mayWind_45 rfl ?_
      refine e_getA dX0_mayWind_46 fdX0_9 rfl (bd_k hB) (bd_r0 hB) ?_
      refine xe_iload_n dX0_mayWind_49 rfl ?_
      refine e_iald dX0_mayWind_50 (bd_k1 hB) (bd_n1 hB) (by omega) (by decide) (h.2.2 j hjT).1 ?_
      have base : mayW P j n = (match P.2.1 j with
          | 0 => true
          | 1 => !decide (apN (P.2.2.1 j) n = 1)
          | 2 => decide (crc (fun t => t == j) (P.2.2.1 j) n P.2.2.2 = 0)
          | _ => !decide (apN (P.2.2.1 j) n = 1) && decide (lenT P.2.2.2 j + lnb (P.2.2.1 j) n ≤ 80)) := by
        unfold mayW
        rw [c5, decide_eq_true hn11, decide_eq_false c29, decide_eq_true c40]
        rfl
      obtain ⟨ap1, ap2⟩ := apN_all (P.2.2.1 j) t5 n (by omega)
      have hk4 := t4
      generalize P.2.1 j = kd at base hk4 ⊢
      match kd, hk4 with
      | 0, _ =>
        refine xe_tableIn 76 dX0_mayWind_51 (by decide) (by decide) rfl (by decide) ?_
        refine xe_iconst (v := nI 1) dX0_mayWind_76 (by decide) ?_
        exact e_zret dX0_mayWind_77 rfl (by rw [base]; rfl)
      | 1, _ =>
        refine xe_tableIn 78 dX0_mayWind_51 (by decide) (by decide) rfl (by decide) ?_
        refine xe_iload_n dX0_mayWind_78 rfl ?_
        refine xe_iload_n dX0_mayWind_79 rfl ?_
        refine e_callSp (E_apart) dX0_mayWind_80 ksX0_64 rfl ?_
        rw [ap1]
        refine xe_iconst (v := nI 1) dX0_mayWind_83 (by decide) ?_
        refine xn_icmp_eq 91 dX0_mayWind_84 (by decide) (by omega) (by omega) (fun c => ?_) (fun c => ?_)
        · refine xe_iconst (v := nI 0) dX0_mayWind_91 (by decide) ?_
          exact e_zret dX0_mayWind_92 rfl (by rw [base]; simp [c, bI, nI_0])
        · refine xe_iconst (v := nI 1) dX0_mayWind_87 (by decide) ?_
          refine xe_goto 92 dX0_mayWind_88 (by decide) ?_
          exact e_zret dX0_mayWind_92 rfl (by rw [base]; simp [c, bI, nI_one])
      | 2, _ =>
        refine xe_tableIn 93 dX0_mayWind_51 (by decide) (by decide) rfl (by decide) ?_
        refine xe_aload_n dX0_mayWind_93 rfl ?_
        refine xe_iconst (v := nI 0) dX0_mayWind_94 (by decide) ?_
        refine xe_iload_n dX0_mayWind_95 rfl ?_
        refine xe_iload_n dX0_mayWind_96 rfl ?_
        refine xe_iload_n dX0_mayWind_97 rfl ?_
        refine e_callVp (E_crossed hB hz (l := 0) (p := fun t => t == j) (Nat.zero_le _) t5 (by omega) (Or.inr ⟨j, hj, rfl, nI_m1 hj, fun _ => rfl⟩)) dX0_mayWind_98 kvX0_67 (bd_k hB) rfl ?_
        rw [List.drop_zero]
        have := crc_le (fun t => t == j) (P.2.2.1 j) n P.2.2.2
        refine xn_if_ne 108 dX0_mayWind_101 (by decide) (by omega) (fun c => ?_) (fun c => ?_)
        · refine xe_iconst (v := nI 0) dX0_mayWind_108 (by decide) ?_
          exact e_zret dX0_mayWind_109 rfl (by rw [base]; simp [Nat.ne_of_gt c, bI, nI_0])
        · refine xe_iconst (v := nI 1) dX0_mayWind_104 (by decide) ?_
          refine xe_goto 109 dX0_mayWind_105 (by decide) ?_
          exact e_zret dX0_mayWind_109 rfl (by rw [base]; simp [c, bI, nI_one])
      | 3, _ =>
        refine xe_tableOut 110 dX0_mayWind_51 (Or.inr (by decide)) (by decide) ?_
        refine xe_iload_n dX0_mayWind_110 rfl ?_
        refine xe_iload_n dX0_mayWind_111 rfl ?_
        refine e_callSp (E_apart) dX0_mayWind_112 ksX0_64 rfl ?_
        rw [ap1]
        refine xe_iconst (v := nI 1) dX0_mayWind_115 (by decide) ?_
        refine xn_icmp_eq 139 dX0_mayWind_116 (by decide) (by omega) (by omega) (fun c => ?_) (fun c => ?_)
        · refine xe_iconst (v := nI 0) dX0_mayWind_139 (by decide) ?_
          exact e_zret dX0_mayWind_140 rfl (by rw [base]; simp [c, bI, nI_0])
        · refine xe_aload_n dX0_mayWind_119 rfl ?_
          refine xe_iload_n dX0_mayWind_120 rfl ?_
          refine e_callVp (E_lengthOf hB hz hj) dX0_mayWind_121 kvX0_71 (bd_k hB) rfl ?_
          refine xe_iload_n dX0_mayWind_124 rfl ?_
          refine xe_iload_n dX0_mayWind_125 rfl ?_
          refine e_callSp (E_lengthBetween t5 (by omega)) dX0_mayWind_126 ksX0_54 rfl ?_
          refine xe_iadd dX0_mayWind_129 ?_
          rw [nI_add]
          have l1 := lenT_le P.2.2.2 j
          have l2 := lnb_le (P.2.2.1 j) n
          refine xe_bipush (v := nI 80) dX0_mayWind_130 (by decide) ?_
          refine xn_icmp_gt 139 dX0_mayWind_132 (by decide) (by omega) (by omega) (fun c2 => ?_) (fun c2 => ?_)
          · refine xe_iconst (v := nI 0) dX0_mayWind_139 (by decide) ?_
            exact e_zret dX0_mayWind_140 rfl (by rw [base]; simp [Nat.not_le.mpr c2, bI, nI_0])
          · refine xe_iconst (v := nI 1) dX0_mayWind_135 (by decide) ?_
            refine xe_goto 140 dX0_mayWind_136 (by decide) ?_
            exact e_zret dX0_mayWind_140 rfl (by rw [base]; simp [c, c2, bI, nI_one])
      | k + 4, hk => omega
    · refine xe_iconst (v := nI 0) dX0_mayWind_43 (by decide) ?_
      exact e_zret dX0_mayWind_44 rfl (by unfold mayW; rw [decide_eq_false (Nat.not_lt.mpr c40)]; simp [bI, nI_0])
  · have hn11 : ¬ n ≤ 11 := by simpa using c15
    refine xe_iconst (v := nI 0) dX0_mayWind_18 (by decide) ?_
    exact e_zret dX0_mayWind_19 rfl (by unfold mayW; rw [decide_eq_false hn11]; simp [bI, nI_0])
end MW
