/-! the text and how it is read -/
def Tx (σ : xS) (tx : List Nat) : Prop := σ.1 2 1 = nI tx.length ∧ tx.length ≤ 48 ∧ (∀ i c, tx[i]? = some c → σ.1 3 i = nI c) ∧ ∀ c ∈ tx, c < 256
/-- what may be told next: place, kind, the board so far -/
abbrev xR : Type := Nat × Nat × xP
def nlQ (c : Nat) : Bool := decide (97 ≤ c) && decide (c ≤ 108)
def begQ (P : xP) (c : Nat) : Bool := decide (c = 84) && decide (P.1 < 4)
def gOn (r : xR) (c : Nat) : Option xR := match r.1 with
  | 0 => if c = 78 then some (1, r.2.1, r.2.2) else none
  | 1 => if begQ r.2.2 c then some (2, r.2.1, r.2.2) else none
  | 2 => if decide (48 ≤ c) && decide (c ≤ 51) then some (3, c - 48, r.2.2) else none
  | 3 => if nlQ c then some (4, r.2.1, tieP r.2.2 r.2.1 (c - 97)) else none
  | _ => if nlQ c then (if decide (cnt r.2.2.2.2.2 (r.2.2.1 - 1) + 1 < 9) && mayW r.2.2 (r.2.2.1 - 1) (c - 97) then some (4, r.2.1, wnd r.2.2 (r.2.2.1 - 1) (c - 97)) else none) else if begQ r.2.2 c then some (2, r.2.1, r.2.2) else none
/-- the place of the first fault, or its length, or none; and the board -/
def rdT (n : Nat) : List Nat → Nat → xR → Int32 × xP
  | [], _, r => (if r.1 = 1 ∨ r.1 = 4 then -9 else nI n, r.2.2)
  | c :: l, i, r => match gOn r c with
    | none => (nI i, r.2.2)
    | some r2 => rdT n l (i + 1) r2
def rdB (tx : List Nat) : Int32 × xP := rdT tx.length tx 0 (0, 0, nilP)
def gI (r : xR) : Prop := POk r.2.2 ∧ r.1 ≤ 4 ∧ (r.1 = 2 ∨ r.1 = 3 → r.2.2.1 < 4) ∧ (r.1 = 3 → r.2.1 < 4) ∧ (r.1 = 4 → 1 ≤ r.2.2.1)
theorem gI_mk {pl kd : Nat} {P : xP} (h1 : POk P) (h2 : pl ≤ 4) (h3 : pl = 2 ∨ pl = 3 → P.1 < 4) (h4 : pl = 3 → kd < 4) (h5 : pl = 4 → 1 ≤ P.1) : gI (pl, kd, P) := ⟨h1, h2, h3, h4, h5⟩
theorem gOn_I {r r2 : xR} {c : Nat} (h : gI r) (he : gOn r c = some r2) : gI r2 := by
  obtain ⟨pl, kd, P⟩ := r
  obtain ⟨h1, h2, h3, h4, h5⟩ := h
  have h1 : POk P := h1
  have h2 : pl ≤ 4 := h2
  have h3 : pl = 2 ∨ pl = 3 → P.1 < 4 := h3
  have h4 : pl = 3 → kd < 4 := h4
  have h5 : pl = 4 → 1 ≤ P.1 := h5
  match pl, h2, h3, h4, h5, he with
  | 0, _, _, _, _, he =>
    have he : (if c = 78 then some (1, kd, P) else none) = some r2 := he
    split at he
    · cases he; exact gI_mk h1 (by omega) (fun h => by omega) (fun h => by omega) (fun h => by omega)
    · cases he
  | 1, _, _, _, _, he =>
    have he : (if begQ P c = true then some (2, kd, P) else none) = some r2 := he
    split at he
    next q =>
      cases he
      have : P.1 < 4 := by unfold begQ at q; simp at q; exact q.2
      exact gI_mk h1 (by omega) (fun _ => this) (fun h => by omega) (fun h => by omega)
    · cases he
  | 2, _, h3, _, _, he =>
    have he : (if (decide (48 ≤ c) && decide (c ≤ 51)) = true then some (3, c - 48, P) else none) = some r2 := he
    split at he
    next q =>
      cases he
      simp at q
      exact gI_mk h1 (by omega) (fun _ => h3 (Or.inl rfl)) (fun _ => by omega) (fun h => by omega)
    · cases he
  | 3, _, h3, h4, _, he =>
    have he : (if nlQ c = true then some (4, kd, tieP P kd (c - 97)) else none) = some r2 := he
    split at he
    next q =>
      cases he
      unfold nlQ at q
      simp at q
      exact gI_mk (tie_ok h1 (h3 (Or.inr rfl)) (h4 rfl) (by omega)) (by omega) (fun h => by omega) (fun h => by omega) (fun _ => by show 1 ≤ P.1 + 1; omega)
    · cases he
  | 4, _, _, _, h5, he =>
    have he : (if nlQ c = true then (if (decide (cnt P.2.2.2 (P.1 - 1) + 1 < 9) && mayW P (P.1 - 1) (c - 97)) = true then some (4, kd, wnd P (P.1 - 1) (c - 97)) else none) else if begQ P c = true then some (2, kd, P) else none) = some r2 := he
    split at he
    · split at he
      next q =>
        cases he
        simp only [Bool.and_eq_true] at q
        exact gI_mk (wnd_ok h1 q.2) (by omega) (fun h => by omega) (fun h => by omega) (fun _ => h5 rfl)
      · cases he
    · split at he
      next q =>
        cases he
        have : P.1 < 4 := by unfold begQ at q; simp at q; exact q.2
        exact gI_mk h1 (by omega) (fun _ => this) (fun h => by omega) (fun h => by omega)
      · cases he
  | k + 5, h2, _, _, _, _ => omega
theorem rdT_ok {n : Nat} : ∀ (l : List Nat) (i : Nat) (r : xR), gI r → POk (rdT n l i r).2
  | [], _, r, h => h.1
  | c :: l, i, r, h => by
    show POk (match gOn r c with
      | none => (nI i, r.2.2)
      | some r2 => rdT n l (i + 1) r2).2
    cases e : gOn r c with
    | none => exact h.1
    | some r2 => exact rdT_ok l (i + 1) r2 (gOn_I h e)
theorem gI_0 : gI (0, 0, nilP) := gI_mk nil_ok (by omega) (fun h => by omega) (fun h => by omega) (fun h => by omega)
theorem nail_all : ∀ c, c < 256 → (decide (nI c - nI 97 < nI 0) || !decide (nI c - nI 97 ≤ nI 11)) = !nlQ c := by decide +kernel
theorem kind_all : ∀ c, c < 256 → (decide (nI c - nI 48 < nI 0) || !decide (nI c - nI 48 ≤ nI 3)) = !(decide (48 ≤ c) && decide (c ≤ 51)) := by decide +kernel
/-- cells that reading may change: two of the text's numbers, the board's -/
def Fx (σ t : xS) (B : Nat) : Prop := (∀ c, c ≠ 2 → (c < B ∨ B + 4 < c) → t.1 c = σ.1 c) ∧ t.1 2 1 = σ.1 2 1 ∧ t.2 = σ.2
theorem Fx.rf (σ : xS) (B : Nat) : Fx σ σ B := ⟨fun _ _ _ => rfl, rfl, rfl⟩
theorem Fx.tr {σ t u : xS} {B : Nat} (h1 : Fx σ t B) (h2 : Fx t u B) : Fx σ u B := ⟨fun c hc hd => (h2.1 c hc hd).trans (h1.1 c hc hd), h2.2.1.trans h1.2.1, h2.2.2.trans h1.2.2⟩
theorem Fx.of {σ t : xS} {B : Nat} (hB : IsBd B) (h : Fr σ t B) : Fx σ t B := by
  have := bd_lo hB
  exact ⟨fun c _ hd => h.1 c hd, by rw [h.1 2 (by omega)], h.2⟩
theorem Fx.p2 {σ t : xS} {B k : Nat} {x : Int32} (h : Fx σ t B) (hk : k ≠ 1) : Fx σ (xpi t 2 k x) B := ⟨fun c hc hd => (xpi_ne t k x hc).trans (h.1 c hc hd), by rw [xpi_rd, if_neg (fun z => hk z.2.symm)]; exact h.2.1, h.2.2⟩
theorem Bd.p2 {σ : xS} {B : Nat} {P : xP} (hB : IsBd B) (h : Bd σ B P) (k : Nat) (x : Int32) : Bd (xpi σ 2 k x) B P := by
  have := bd_lo hB
  obtain ⟨h1, ⟨a1, a2, a3⟩, ⟨b1, b2, b3, b4⟩, h4⟩ := h
  refine ⟨h1, ⟨?_, a2, fun y hy => ?_⟩, ⟨?_, b2, fun i s hs => ?_, b4⟩, ?_⟩
  · rw [xpi_ne _ _ _ (by omega)]; exact a1
  · rw [xpi_ne _ _ _ (by omega), xpi_ne _ _ _ (by omega), xpi_ne _ _ _ (by omega)]; exact a3 y hy
  · rw [xpi_ne _ _ _ (by omega)]; exact b1
  · rw [xpi_ne _ _ _ (by omega)]; exact b3 i s hs
  · rw [xpi_ne _ _ _ (by omega)]; exact h4
theorem nI_m9 {j : Nat} (h : j < 2 ^ 31) : ¬ nI j = -9 := fun e => absurd (nI_pos h) (by rw [e]; decide)
section TX
variable {xs : Nat → Int32} {L : Nat} {σ : xS} {B : Nat} {P : xP} {tx : List Nat}
theorem E_tlength (h : Tx σ tx) : Cl xs L mX8_length [.ref 2] GS σ GS (pI σ (nI tx.length)) := by
  show Ev xs L mX8_length 0 [.ref 2] [] GS σ GS _
  refine xe_aload_n dX8_length_0 rfl ?_
  refine e_getI (G := GS) (r := 2) dX8_length_1 fdX8_15 rfl gk_2 h.1 ?_
  exact e_iret dX8_length_4 rfl (by first | rfl | simp [*])
theorem E_tclear : Cl xs L mX8_clear [.ref 2] GS σ GS (fun v t => v = none ∧ t = xpi σ 2 1 (nI 0)) := by
  show Ev xs L mX8_clear 0 [.ref 2] [] GS σ GS _
  refine xe_aload_n dX8_clear_0 rfl ?_
  refine xe_iconst (v := nI 0) dX8_clear_1 (by decide) ?_
  refine xe_putI (G := GS) (r := 2) dX8_clear_2 fdX8_15 rfl gk_2 ?_
  exact xe_vret dX8_clear_5 rfl ⟨rfl, rfl⟩
theorem E_tadd (h : Tx σ tx) {c : Nat} (hc : c < 256) : Cl xs L mX8_add [.ref 2, .int (nI c)] GS σ GS (fun v t => v = some (.int (bI (decide (tx.length < 48)))) ∧ (if tx.length < 48 then Tx t (tx ++ [c]) ∧ (∀ b, b ≠ 2 → b ≠ 3 → t.1 b = σ.1 b) ∧ t.2 = σ.2 else t = σ)) := by
  show Ev xs L mX8_add 0 [.ref 2, .int (nI c)] [] GS σ GS _
  obtain ⟨h1, h2, h3, h4⟩ := id h
  refine xe_aload_n dX8_add_0 rfl ?_
  refine e_getI (G := GS) (r := 2) dX8_add_1 fdX8_15 rfl gk_2 h1 ?_
  refine xe_bipush (v := nI 48) dX8_add_4 (by decide) ?_
  refine xn_icmp_lt 11 dX8_add_6 (by decide) (by omega) (by omega) (fun c6 => ?_) (fun c6 => ?_)
  · refine xe_aload_n dX8_add_11 rfl ?_
    refine e_getA (G := GS) (r := 2) dX8_add_12 fdX8_9 rfl gk_2 gr_2_0 ?_
    refine xe_aload_n dX8_add_15 rfl ?_
    refine e_getI (G := GS) (r := 2) dX8_add_16 fdX8_15 rfl gk_2 h1 ?_
    refine xe_iload_n dX8_add_19 rfl ?_
    refine e_iast (G := GS) (a := 3) dX8_add_20 gk_3 gn_3 (by omega) (by decide) ?_
    refine xe_aload_n dX8_add_21 rfl ?_
    refine xe_dup dX8_add_22 rfl ?_
    refine e_getI (G := GS) (r := 2) dX8_add_23 fdX8_15 rfl gk_2 (show _ = nI tx.length by rw [xpi_rd, if_neg (by omega)]; exact h1) ?_
    refine xe_iconst (v := nI 1) dX8_add_26 (by decide) ?_
    refine xe_iadd dX8_add_27 ?_
    rw [nI_add]
    refine xe_putI (G := GS) (r := 2) dX8_add_28 fdX8_15 rfl gk_2 ?_
    refine xe_iconst (v := nI 1) dX8_add_31 (by decide) ?_
    refine xe_zret dX8_add_32 rfl (by decide) ⟨by rw [decide_eq_true c6]; rfl, ?_⟩
    rw [if_pos c6]
    refine ⟨⟨(by rw [xpi_rd, if_pos (by omega), List.length_append]; rfl), (by rw [List.length_append]; show tx.length + 1 ≤ 48; omega), fun i d hd => ?_, fun d hd => ?_⟩, fun b b2 b3 => (by rw [xpi_ne _ _ _ b2, xpi_ne _ _ _ b3]), rfl⟩
    · rw [xpi_rd, if_neg (by omega)]
      rcases Nat.lt_or_ge i tx.length with e0 | e0
      · rw [List.getElem?_append_left e0] at hd
        rw [xpi_rd, if_neg (by omega)]
        exact h3 i d hd
      · rw [List.getElem?_append_right (by omega)] at hd
        have hz0 : i - tx.length < 1 := (List.getElem?_eq_some_iff.mp hd).1
        rw [show i - tx.length = 0 by omega] at hd
        cases hd
        rw [xpi_rd, if_pos (by omega)]
    · rcases List.mem_append.mp hd with q | q
      · exact h4 d q
      · rw [List.mem_singleton.mp q]; exact hc
  · refine xe_iconst (v := nI 0) dX8_add_9 (by decide) ?_
    refine xe_zret dX8_add_10 rfl (by decide) ⟨by rw [decide_eq_false (by omega)]; rfl, ?_⟩
    rw [if_neg (by omega)]
theorem E_isNail {G : xG} {c : Nat} (hc : c < 256) : Cl xs L mX8_isNail [.int (nI c)] G σ G (pI σ (bI (nlQ c))) := by
  show Ev xs L mX8_isNail 0 [.int (nI c)] [] G σ G _
  refine xe_iload_n dX8_isNail_0 rfl ?_
  refine xe_bipush (v := nI 97) dX8_isNail_1 (by decide) ?_
  refine xe_isub dX8_isNail_3 ?_
  refine xe_iconst (v := nI 0) dX8_isNail_4 (by decide) ?_
  refine xe_bipush (v := nI 11) dX8_isNail_5 (by decide) ?_
  refine e_callSp (E_isOutside) dX8_isNail_7 ksX8_37 rfl ?_
  rw [nail_all c hc]
  refine xz_if_ne 17 dX8_isNail_10 (by decide) (fun d => ?_) (fun d => ?_)
  · refine xe_iconst (v := nI 0) dX8_isNail_17 (by decide) ?_
    exact e_zret dX8_isNail_18 rfl (by simp at d; rw [d]; rfl)
  · refine xe_iconst (v := nI 1) dX8_isNail_13 (by decide) ?_
    refine xe_goto 18 dX8_isNail_14 (by decide) ?_
    exact e_zret dX8_isNail_18 rfl (by simp at d; rw [d]; rfl)
theorem E_begins (hB : IsBd B) (h : Bd σ B P) {c : Nat} (hc : c < 256) : Cl xs L mX8_beginsThread [.ref 2, .int (nI c), .ref B] GS σ GS (fun v t => v = some (.int (bI (begQ P c))) ∧ t = xpi σ 2 2 (nI 2)) := by
  show Ev xs L mX8_beginsThread 0 [.ref 2, .int (nI c), .ref B] [] GS σ GS _
  have h4 := h.2.1.2.1
  refine xe_aload_n dX8_beginsThread_0 rfl ?_
  refine xe_iconst (v := nI 2) dX8_beginsThread_1 (by decide) ?_
  refine xe_putI (G := GS) (r := 2) dX8_beginsThread_2 fdX8_19 rfl gk_2 ?_
  refine xe_iload_n dX8_beginsThread_5 rfl ?_
  refine xe_bipush (v := nI 84) dX8_beginsThread_6 (by decide) ?_
  refine xn_icmp_ne 23 dX8_beginsThread_8 (by decide) (by omega) (by omega) (fun c8 => ?_) (fun c8 => ?_)
  · refine xe_iconst (v := nI 0) dX8_beginsThread_23 (by decide) ?_
    exact xe_zret dX8_beginsThread_24 rfl (by decide) ⟨by unfold begQ; rw [decide_eq_false c8]; rfl, rfl⟩
  · refine xe_aload_n dX8_beginsThread_11 rfl ?_
    refine e_callVp (E_threads hB (h.p2 hB 2 (nI 2)).2.1) dX8_beginsThread_12 kvX8_52 (bd_k hB) rfl ?_
    refine xe_iconst (v := nI 4) dX8_beginsThread_15 (by decide) ?_
    refine xn_icmp_ge 23 dX8_beginsThread_16 (by decide) (by omega) (by omega) (fun c16 => ?_) (fun c16 => ?_)
    · refine xe_iconst (v := nI 0) dX8_beginsThread_23 (by decide) ?_
      exact xe_zret dX8_beginsThread_24 rfl (by decide) ⟨by unfold begQ; rw [decide_eq_false (show ¬ P.1 < 4 by omega), Bool.and_false]; rfl, rfl⟩
    · refine xe_iconst (v := nI 1) dX8_beginsThread_19 (by decide) ?_
      refine xe_goto 24 dX8_beginsThread_20 (by decide) ?_
      exact xe_zret dX8_beginsThread_24 rfl (by decide) ⟨by unfold begQ; rw [decide_eq_true c8, decide_eq_true c16]; rfl, rfl⟩
theorem E_windsOn (hB : IsBd B) (h : Bd σ B P) {n : Nat} (hn : n < 12) (hT : 1 ≤ P.1) : Cl xs L mX8_windsOn [.ref 2, .int (nI n), .ref B] GS σ GS (fun v t => v = some (.int (bI (decide (cnt P.2.2.2 (P.1 - 1) + 1 < 9) && mayW P (P.1 - 1) n))) ∧ ((decide (cnt P.2.2.2 (P.1 - 1) + 1 < 9) && mayW P (P.1 - 1) n) = true → Bd t B (wnd P (P.1 - 1) n)) ∧ Fr σ t B) := by
  show Ev xs L mX8_windsOn 0 [.ref 2, .int (nI n), .ref B, .null] [] GS σ GS _
  have h4 := h.2.1.2.1
  have hcn := (h.2.1.2.2 (P.1 - 1) (by omega)).2.2.2.2.2
  refine xe_aload_n dX8_windsOn_0 rfl ?_
  refine e_callVp (E_threads hB h.2.1) dX8_windsOn_1 kvX8_52 (bd_k hB) rfl ?_
  refine xe_iconst (v := nI 1) dX8_windsOn_4 (by decide) ?_
  refine xe_isub dX8_windsOn_5 ?_
  rw [pk_sub hT]
  refine xe_istore_n dX8_windsOn_6 (by decide) ?_
  refine xe_aload_n dX8_windsOn_7 rfl ?_
  refine xe_iload_n dX8_windsOn_8 rfl ?_
  refine e_callVp (E_stretchesOf hB h.2.1 h.hc0 (by omega)) dX8_windsOn_9 kvX8_56 (bd_k hB) rfl ?_
  refine xe_iconst (v := nI 1) dX8_windsOn_12 (by decide) ?_
  refine xe_iadd dX8_windsOn_13 ?_
  rw [nI_add]
  refine xe_bipush (v := nI 9) dX8_windsOn_14 (by decide) ?_
  refine xn_icmp_ge 28 dX8_windsOn_16 (by decide) (by omega) (by omega) (fun c16 => ?_) (fun c16 => ?_)
  · refine xe_iconst (v := nI 0) dX8_windsOn_28 (by decide) ?_
    exact xe_zret dX8_windsOn_29 rfl (by decide) ⟨by rw [decide_eq_false (by omega)]; rfl, fun q => absurd q (by rw [decide_eq_false (by omega)]; simp), Fr.rf σ B⟩
  · refine xe_aload_n dX8_windsOn_19 rfl ?_
    refine xe_iload_n dX8_windsOn_20 rfl ?_
    refine xe_iload_n dX8_windsOn_21 rfl ?_
    refine e_callVp (E_mayWind hB h.2.1 h.2.2.1 (by omega) (by omega)) dX8_windsOn_22 kvX8_60 (bd_k hB) rfl ?_
    refine xz_if_ne 30 dX8_windsOn_25 (by decide) (fun c25 => ?_) (fun c25 => ?_)
    · refine xe_aload_n dX8_windsOn_30 rfl ?_
      refine xe_iload_n dX8_windsOn_31 rfl ?_
      refine xe_iload_n dX8_windsOn_32 rfl ?_
      refine e_callV (E_windOn hB h c25) dX8_windsOn_33 kvX8_63 (bd_k hB) rfl ?_
      rintro v t ⟨rfl, hb, hf⟩
      refine xe_pop dX8_windsOn_36 rfl ?_
      refine xe_iconst (v := nI 1) dX8_windsOn_37 (by decide) ?_
      exact xe_zret dX8_windsOn_38 rfl (by decide) ⟨by rw [decide_eq_true c16, c25]; rfl, fun _ => hb, hf⟩
    · refine xe_iconst (v := nI 0) dX8_windsOn_28 (by decide) ?_
      exact xe_zret dX8_windsOn_29 rfl (by decide) ⟨by rw [c25, Bool.and_false]; rfl, fun q => absurd q (by rw [c25]; simp), Fr.rf σ B⟩
theorem E_goesOn (hB : IsBd B) {r : xR} (hI : gI r) (h : Bd σ B r.2.2) (hp : σ.1 2 2 = nI r.1) (hkd : r.1 = 3 → σ.1 2 3 = nI r.2.1) {c : Nat} (hc : c < 256) : Cl xs L mX8_goesOn [.ref 2, .int (nI c), .ref B] GS σ GS (fun v t => v = some (.int (bI (gOn r c).isSome)) ∧ (∀ r2, gOn r c = some r2 → Bd t B r2.2.2 ∧ t.1 2 2 = nI r2.1 ∧ (r2.1 = 3 → t.1 2 3 = nI r2.2.1)) ∧ Fx σ t B) := by
  show Ev xs L mX8_goesOn 0 [.ref 2, .int (nI c), .ref B] [] GS σ GS _
  obtain ⟨pl, kd, P⟩ := r
  obtain ⟨i1, i2, i3, i4, i5⟩ := hI
  have lo := bd_lo hB
  have hp : σ.1 2 2 = nI pl := hp
  have hkd : pl = 3 → σ.1 2 3 = nI kd := hkd
  refine xe_aload_n dX8_goesOn_0 rfl ?_
  refine e_getI (G := GS) (r := 2) dX8_goesOn_1 fdX8_19 rfl gk_2 hp ?_
  match pl, i2, i3, i4, i5, hkd with
  | 0, _, _, _, _, _ =>
    refine xe_tableIn 36 dX8_goesOn_4 (by decide) (by decide) rfl (by decide) ?_
    refine xe_aload_n dX8_goesOn_36 rfl ?_
    refine xe_iconst (v := nI 1) dX8_goesOn_37 (by decide) ?_
    refine xe_putI (G := GS) (r := 2) dX8_goesOn_38 fdX8_19 rfl gk_2 ?_
    refine xe_iload_n dX8_goesOn_41 rfl ?_
    refine xe_bipush (v := nI 78) dX8_goesOn_42 (by decide) ?_
    refine xn_icmp_ne 51 dX8_goesOn_44 (by decide) (by omega) (by omega) (fun d => ?_) (fun d => ?_)
    · refine xe_iconst (v := nI 0) dX8_goesOn_51 (by decide) ?_
      have e : gOn (0, kd, P) c = none := if_neg d
      exact xe_zret dX8_goesOn_52 rfl (by decide) ⟨by rw [e]; rfl, fun r2 q => (by rw [e] at q; cases q), (Fx.rf σ B).p2 (by decide)⟩
    · refine xe_iconst (v := nI 1) dX8_goesOn_47 (by decide) ?_
      refine xe_goto 52 dX8_goesOn_48 (by decide) ?_
      have e : gOn (0, kd, P) c = some (1, kd, P) := if_pos d
      exact xe_zret dX8_goesOn_52 rfl (by decide) ⟨by rw [e]; rfl, fun r2 q => (by rw [e] at q; cases q; exact ⟨h.p2 hB _ _, by rw [xpi_rd, if_pos (by omega)], fun h => by dsimp only at h; omega⟩), (Fx.rf σ B).p2 (by decide)⟩
  | 1, _, _, _, _, _ =>
    refine xe_tableIn 53 dX8_goesOn_4 (by decide) (by decide) rfl (by decide) ?_
    refine xe_aload_n dX8_goesOn_53 rfl ?_
    refine xe_iload_n dX8_goesOn_54 rfl ?_
    refine xe_aload_n dX8_goesOn_55 rfl ?_
    refine e_callV (G := GS) (r := 2) (E_begins hB h hc) dX8_goesOn_56 kvX8_34 gk_2 rfl ?_
    rintro v t ⟨rfl, rfl⟩
    refine xe_zret dX8_goesOn_59 rfl (bI_z _) ⟨?_, fun r2 q => ?_, (Fx.rf σ B).p2 (by decide)⟩
    · show some (Value.int (bI (begQ P c))) = some (.int (bI (if begQ P c = true then some (2, kd, P) else none).isSome))
      cases begQ P c <;> rfl
    · have q : (if begQ P c = true then some (2, kd, P) else none) = some r2 := q
      split at q
      · cases q; exact ⟨h.p2 hB _ _, by rw [xpi_rd, if_pos (by omega)], fun h => by dsimp only at h; omega⟩
      · cases q
  | 2, _, _, _, _, _ =>
    refine xe_tableIn 60 dX8_goesOn_4 (by decide) (by decide) rfl (by decide) ?_
    refine xe_aload_n dX8_goesOn_60 rfl ?_
    refine xe_iload_n dX8_goesOn_61 rfl ?_
    refine xe_bipush (v := nI 48) dX8_goesOn_62 (by decide) ?_
    refine xe_isub dX8_goesOn_64 ?_
    refine xe_putI (G := GS) (r := 2) dX8_goesOn_65 fdX8_22 rfl gk_2 ?_
    refine xe_aload_n dX8_goesOn_68 rfl ?_
    refine xe_iconst (v := nI 3) dX8_goesOn_69 (by decide) ?_
    refine xe_putI (G := GS) (r := 2) dX8_goesOn_70 fdX8_19 rfl gk_2 ?_
    refine xe_aload_n dX8_goesOn_73 rfl ?_
    refine e_getI (G := GS) (r := 2) dX8_goesOn_74 fdX8_22 rfl gk_2 (show _ = nI c - nI 48 by rw [xpi_rd, if_neg (by omega), xpi_rd, if_pos (by omega)]) ?_
    refine xe_iconst (v := nI 0) dX8_goesOn_77 (by decide) ?_
    refine xe_iconst (v := nI 3) dX8_goesOn_78 (by decide) ?_
    refine e_callSp (E_isOutside) dX8_goesOn_79 ksX8_37 rfl ?_
    rw [kind_all c hc]
    have fx : Fx σ (xpi (xpi σ 2 3 (nI c - nI 48)) 2 2 (nI 3)) B := ((Fx.rf σ B).p2 (by decide)).p2 (by decide)
    refine xz_if_ne 89 dX8_goesOn_82 (by decide) (fun d => ?_) (fun d => ?_)
    · refine xe_iconst (v := nI 0) dX8_goesOn_89 (by decide) ?_
      have d : (decide (48 ≤ c) && decide (c ≤ 51)) = false := by simpa only [Bool.not_eq_true'] using d
      have e : gOn (2, kd, P) c = none := if_neg (by rw [d]; decide)
      exact xe_zret dX8_goesOn_90 rfl (by decide) ⟨by rw [e]; rfl, fun r2 q => (by rw [e] at q; cases q), fx⟩
    · refine xe_iconst (v := nI 1) dX8_goesOn_85 (by decide) ?_
      refine xe_goto 90 dX8_goesOn_86 (by decide) ?_
      have d : (decide (48 ≤ c) && decide (c ≤ 51)) = true := by simpa only [Bool.not_eq_false'] using d
      have e : gOn (2, kd, P) c = some (3, c - 48, P) := if_pos d
      have d2 : 48 ≤ c := by simp at d; exact d.1
      exact xe_zret dX8_goesOn_90 rfl (by decide) ⟨by rw [e]; rfl, fun r2 q => (by rw [e] at q; cases q; exact ⟨(h.p2 hB _ _).p2 hB _ _, by rw [xpi_rd, if_pos (by omega)], fun _ => by rw [xpi_rd, if_neg (by omega), xpi_rd, if_pos (by omega), pk_sub d2]⟩), fx⟩
  | 3, _, i3, i4, _, hkd =>
    refine xe_tableIn 91 dX8_goesOn_4 (by decide) (by decide) rfl (by decide) ?_
    refine xe_aload_n dX8_goesOn_91 rfl ?_
    refine xe_iconst (v := nI 4) dX8_goesOn_92 (by decide) ?_
    refine xe_putI (G := GS) (r := 2) dX8_goesOn_93 fdX8_19 rfl gk_2 ?_
    refine xe_iload_n dX8_goesOn_96 rfl ?_
    refine e_callSp (E_isNail hc) dX8_goesOn_97 ksX8_41 rfl ?_
    refine xz_if_eq 122 dX8_goesOn_100 (by decide) (fun d => ?_) (fun d => ?_)
    · refine xe_iconst (v := nI 0) dX8_goesOn_122 (by decide) ?_
      have e : gOn (3, kd, P) c = none := if_neg (by rw [d]; decide)
      exact xe_zret dX8_goesOn_123 rfl (by decide) ⟨by rw [e]; rfl, fun r2 q => (by rw [e] at q; cases q), (Fx.rf σ B).p2 (by decide)⟩
    · have d2 : 97 ≤ c ∧ c ≤ 108 := by unfold nlQ at d; simpa using d
      have e : gOn (3, kd, P) c = some (4, kd, tieP P kd (c - 97)) := if_pos d
      refine xe_aload_n dX8_goesOn_103 rfl ?_
      refine xe_aload_n dX8_goesOn_104 rfl ?_
      refine e_getI (G := GS) (r := 2) dX8_goesOn_105 fdX8_22 rfl gk_2 (show _ = nI kd by rw [xpi_rd, if_neg (by omega)]; exact hkd rfl) ?_
      refine xe_iload_n dX8_goesOn_108 rfl ?_
      refine xe_bipush (v := nI 97) dX8_goesOn_109 (by decide) ?_
      refine xe_isub dX8_goesOn_111 ?_
      rw [pk_sub d2.1]
      refine e_callV (E_tie hB (h.p2 hB 2 (nI 4)) (i3 (Or.inr rfl)) (i4 rfl) (show c - 97 < 12 by omega)) dX8_goesOn_112 kvX8_45 (bd_k hB) rfl ?_
      rintro v t ⟨rfl, hb, hf⟩
      have fx : Fx σ t B := ((Fx.rf σ B).p2 (by decide)).tr (Fx.of hB hf)
      refine xe_if_eq 122 dX8_goesOn_115 (by decide) (fun c => absurd c (by decide)) (fun _ => ?_)
      refine xe_iconst (v := nI 1) dX8_goesOn_118 (by decide) ?_
      refine xe_goto 123 dX8_goesOn_119 (by decide) ?_
      exact xe_zret dX8_goesOn_123 rfl (by decide) ⟨by rw [e]; rfl, fun r2 q => (by rw [e] at q; cases q; exact ⟨hb, by rw [hf.1 2 (by omega), xpi_rd, if_pos (by omega)], fun h => by dsimp only at h; omega⟩), fx⟩
  | 4, _, _, _, i5, _ =>
    refine xe_tableOut 124 dX8_goesOn_4 (Or.inr (by decide)) (by decide) ?_
    refine xe_iload_n dX8_goesOn_124 rfl ?_
    refine e_callSp (E_isNail hc) dX8_goesOn_125 ksX8_41 rfl ?_
    have i5 : 1 ≤ P.1 := i5 rfl
    refine xz_if_eq 143 dX8_goesOn_128 (by decide) (fun d => ?_) (fun d => ?_)
    · refine xe_aload_n dX8_goesOn_143 rfl ?_
      refine xe_iload_n dX8_goesOn_144 rfl ?_
      refine xe_aload_n dX8_goesOn_145 rfl ?_
      refine e_callV (G := GS) (r := 2) (E_begins hB h hc) dX8_goesOn_146 kvX8_34 gk_2 rfl ?_
      rintro v t ⟨rfl, rfl⟩
      have e : gOn (4, kd, P) c = if begQ P c = true then some (2, kd, P) else none := if_neg (by rw [d]; decide)
      rw [e]
      refine xe_zret dX8_goesOn_149 rfl (bI_z _) ⟨?_, fun r2 q => ?_, (Fx.rf σ B).p2 (by decide)⟩
      · cases begQ P c <;> rfl
      · split at q
        · cases q; exact ⟨h.p2 hB _ _, by rw [xpi_rd, if_pos (by omega)], fun h => by dsimp only at h; omega⟩
        · cases q
    · have d2 : 97 ≤ c ∧ c ≤ 108 := by unfold nlQ at d; simpa using d
      refine xe_aload_n dX8_goesOn_131 rfl ?_
      refine xe_iload_n dX8_goesOn_132 rfl ?_
      refine xe_bipush (v := nI 97) dX8_goesOn_133 (by decide) ?_
      refine xe_isub dX8_goesOn_135 ?_
      rw [pk_sub d2.1]
      refine xe_aload_n dX8_goesOn_136 rfl ?_
      refine e_callV (G := GS) (r := 2) (E_windsOn hB h (n := c - 97) (by omega) i5) dX8_goesOn_137 kvX8_49 gk_2 rfl ?_
      rintro v t ⟨rfl, hb, hf⟩
      have e : gOn (4, kd, P) c = if (decide (cnt P.2.2.2 (P.1 - 1) + 1 < 9) && mayW P (P.1 - 1) (c - 97)) = true then some (4, kd, wnd P (P.1 - 1) (c - 97)) else none := if_pos d
      rw [e]
      refine xe_goto 149 dX8_goesOn_140 (by decide) ?_
      refine xe_zret dX8_goesOn_149 rfl (bI_z _) ⟨?_, fun r2 q => ?_, Fx.of hB hf⟩
      · cases (decide (cnt P.2.2.2 (P.1 - 1) + 1 < 9) && mayW P (P.1 - 1) (c - 97)) <;> rfl
      · split at q
        next q2 => cases q; exact ⟨hb q2, by rw [hf.1 2 (by omega)]; exact hp, fun h => by dsimp only at h; omega⟩
        · cases q
  | k + 5, i2, _, _, _, _ =>
    have i2 : k + 5 ≤ 4 := i2
    omega
theorem E_readOnto (hB : IsBd B) (h : Tx σ tx) : Cl xs L mX8_readOnto [.ref 2, .ref B] GS σ GS (fun v t => v = some (.int (rdB tx).1) ∧ ((rdB tx).1 = -9 → Bd t B (rdB tx).2) ∧ Fx σ t B) := by
  show Ev xs L mX8_readOnto 0 [.ref 2, .ref B, .null] [] GS σ GS _
  have lo := bd_lo hB
  obtain ⟨h1, h2, h3, h4⟩ := id h
  have key : ∀ k i r (t : xS), i + k = tx.length → gI r → Bd t B r.2.2 → t.1 2 2 = nI r.1 → (r.1 = 3 → t.1 2 3 = nI r.2.1) → Fx σ t B → Ev xs L mX8_readOnto 16 [.ref 2, .ref B, .int (nI i)] [] GS t GS (fun v t => v = some (.int (rdT tx.length (tx.drop i) i r).1) ∧ ((rdT tx.length (tx.drop i) i r).1 = -9 → Bd t B (rdT tx.length (tx.drop i) i r).2) ∧ Fx σ t B) := by
    intro k
    induction k with
    | zero =>
      intro i r t hi hg hb hp hk hf
      have e : i = tx.length := by omega
      subst e
      rw [List.drop_length]
      have g1 : t.1 2 1 = nI tx.length := hf.2.1.trans h1
      have h5 := hg.2.1
      refine xe_iload_n dX8_readOnto_16 rfl ?_
      refine xe_aload_n dX8_readOnto_17 rfl ?_
      refine e_getI (G := GS) (r := 2) dX8_readOnto_18 fdX8_15 rfl gk_2 g1 ?_
      refine xe_icmp_ge 46 dX8_readOnto_21 (by decide) (fun _ => ?_) (fun c => absurd (nI_le (Nat.le_refl _) (by omega)) c)
      refine xe_aload_n dX8_readOnto_46 rfl ?_
      refine e_getI (G := GS) (r := 2) dX8_readOnto_47 fdX8_19 rfl gk_2 hp ?_
      refine xe_iconst (v := nI 1) dX8_readOnto_50 (by decide) ?_
      refine xn_icmp_eq 62 dX8_readOnto_51 (by decide) (by omega) (by omega) (fun d => ?_) (fun d => ?_)
      · refine xe_bipush (v := -9) dX8_readOnto_62 (by decide) ?_
        refine xe_goto 71 dX8_readOnto_64 (by decide) ?_
        have e2 : rdT tx.length [] tx.length r = (-9, r.2.2) := by show (if r.1 = 1 ∨ r.1 = 4 then (-9 : Int32) else _, _) = _; rw [if_pos (Or.inl d)]
        rw [e2]
        exact xe_iret dX8_readOnto_71 rfl ⟨rfl, fun _ => hb, hf⟩
      · refine xe_aload_n dX8_readOnto_54 rfl ?_
        refine e_getI (G := GS) (r := 2) dX8_readOnto_55 fdX8_19 rfl gk_2 hp ?_
        refine xe_iconst (v := nI 4) dX8_readOnto_58 (by decide) ?_
        refine xn_icmp_ne 67 dX8_readOnto_59 (by decide) (by omega) (by omega) (fun d2 => ?_) (fun d2 => ?_)
        · refine xe_aload_n dX8_readOnto_67 rfl ?_
          refine e_getI (G := GS) (r := 2) dX8_readOnto_68 fdX8_15 rfl gk_2 g1 ?_
          have e2 : rdT tx.length [] tx.length r = (nI tx.length, r.2.2) := by show (if r.1 = 1 ∨ r.1 = 4 then (-9 : Int32) else _, _) = _; rw [if_neg (by omega)]
          rw [e2]
          exact xe_iret dX8_readOnto_71 rfl ⟨rfl, fun _ => hb, hf⟩
        · refine xe_bipush (v := -9) dX8_readOnto_62 (by decide) ?_
          refine xe_goto 71 dX8_readOnto_64 (by decide) ?_
          have e2 : rdT tx.length [] tx.length r = (-9, r.2.2) := by show (if r.1 = 1 ∨ r.1 = 4 then (-9 : Int32) else _, _) = _; rw [if_pos (Or.inr d2)]
          rw [e2]
          exact xe_iret dX8_readOnto_71 rfl ⟨rfl, fun _ => hb, hf⟩
    | succ k ih =>
      intro i r t hi hg hb hp hk hf
      have hil : i < tx.length := by omega
      have hs : tx[i]? = some tx[i] := List.getElem?_eq_getElem hil
      rw [List.drop_eq_getElem_cons hil]
      generalize tx[i] = c at hs
      have hc := h4 c (List.mem_of_getElem? hs)
      have g1 : t.1 2 1 = nI tx.length := hf.2.1.trans h1
      refine xe_iload_n dX8_readOnto_16 rfl ?_
      refine xe_aload_n dX8_readOnto_17 rfl ?_
      refine e_getI (G := GS) (r := 2) dX8_readOnto_18 fdX8_15 rfl gk_2 g1 ?_
      refine xe_icmp_ge 46 dX8_readOnto_21 (by decide) (fun c => absurd c (nI_ge hil (by omega))) (fun _ => ?_)
      refine xe_aload_n dX8_readOnto_24 rfl ?_
      refine xe_aload_n dX8_readOnto_25 rfl ?_
      refine e_getA (G := GS) (r := 2) dX8_readOnto_26 fdX8_9 rfl gk_2 gr_2_0 ?_
      refine xe_iload_n dX8_readOnto_29 rfl ?_
      refine e_iald (G := GS) (a := 3) dX8_readOnto_30 gk_3 gn_3 (by omega) (by decide) (show _ = nI c by rw [hf.1 3 (by decide) (by omega)]; exact h3 i c hs) ?_
      refine xe_aload_n dX8_readOnto_31 rfl ?_
      refine e_callV (G := GS) (r := 2) (E_goesOn hB hg hb hp hk hc) dX8_readOnto_32 kvX8_30 gk_2 rfl ?_
      rintro v u ⟨rfl, hg2, hf2⟩
      cases e : gOn r c with
      | none =>
        have e2 : rdT tx.length (c :: tx.drop (i + 1)) i r = (nI i, r.2.2) := by show (match gOn r c with | none => _ | some r2 => _) = _; rw [e]
        rw [e2]
        refine xe_if_ne 40 dX8_readOnto_35 (by decide) (fun c => absurd c (by decide)) (fun _ => ?_)
        refine xe_iload_n dX8_readOnto_38 rfl ?_
        exact xe_iret dX8_readOnto_39 rfl ⟨rfl, fun q => absurd q (nI_m9 (by omega)), hf.tr hf2⟩
      | some r2 =>
        obtain ⟨b1, b2, b3⟩ := hg2 r2 e
        have e2 : rdT tx.length (c :: tx.drop (i + 1)) i r = rdT tx.length (tx.drop (i + 1)) (i + 1) r2 := by show (match gOn r c with | none => _ | some r2 => _) = _; rw [e]
        rw [e2]
        refine xe_if_ne 40 dX8_readOnto_35 (by decide) (fun _ => ?_) (fun c => absurd c (show ¬ bI true = 0 by decide))
        refine xe_inc dX8_readOnto_40 rfl (by decide) ?_
        refine xe_goto 16 dX8_readOnto_43 (by decide) ?_
        rw [nI_1]
        exact ih (i + 1) r2 u (by omega) (gOn_I hg e) b1 b2 b3 (hf.tr hf2)
  refine xe_aload_n dX8_readOnto_0 rfl ?_
  refine e_callV (E_clear hB) dX8_readOnto_1 kvX8_25 (bd_k hB) rfl ?_
  rintro v t ⟨rfl, hb, hf⟩
  refine xe_aload_n dX8_readOnto_4 rfl ?_
  refine xe_iconst (v := nI 0) dX8_readOnto_5 (by decide) ?_
  refine xe_putI (G := GS) (r := 2) dX8_readOnto_6 fdX8_19 rfl gk_2 ?_
  refine xe_aload_n dX8_readOnto_9 rfl ?_
  refine xe_iconst (v := nI 0) dX8_readOnto_10 (by decide) ?_
  refine xe_putI (G := GS) (r := 2) dX8_readOnto_11 fdX8_22 rfl gk_2 ?_
  refine xe_iconst (v := nI 0) dX8_readOnto_14 (by decide) ?_
  refine xe_istore_n dX8_readOnto_15 (by decide) ?_
  exact key tx.length 0 (0, 0, nilP) _ (by omega) gI_0 ((hb.p2 hB _ _).p2 hB _ _) (by rw [xpi_rd, if_neg (by omega), xpi_rd, if_pos (by omega)]) (fun h => by dsimp only at h; omega) (((Fx.of hB hf).p2 (by decide)).p2 (by decide))
end TX
