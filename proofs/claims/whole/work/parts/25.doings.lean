/-! told doings; two who wind or do not -/
def doW (P : xP) (j n : Nat) : Option xP := if mayW P j n then some (wnd P j n) else none
def doU (P : xP) (j : Nat) : Option xP := if mayU P.2.2.2 j then (match las P.2.2.2 j with
  | none => none
  | some i => match P.2.2.2[i]? with
    | none => none
    | some s => some (uwd P j i s)) else none
def doC (P : xP) (j : Nat) : Option xP := if 0 < cnt P.2.2.2 j then some (cutP P j) else none
/-- a told doing; none, where it does not come true -/
def tngQ (P : xP) (d q : Nat) : Option xP := match q with
  | 1 => doW P (d / 100 % 10) (d % 100)
  | 2 => if d < 2010 then doU P (d % 10) else none
  | 3 => if d < 3010 then doC P (d % 10) else none
  | 4 => if d = 4000 then some (trnP P) else none
  | 5 => if d = 5000 then some (ovrP P) else none
  | 6 => if d / 100 % 10 < P.1 ∧ d / 10 % 10 < P.1 ∧ d % 10 ≤ cro P.2.2.2 (d / 100 % 10) (d / 10 % 10) then some P else none
  | 7 => if d < 7100 ∧ d % 100 ≤ prt (jm P.2.2.2) then some P else none
  | _ => none
def tng (P : xP) (d : Nat) : Option xP := tngQ P d (d / 1000)
def jdL (r : Nat) : Nat → Nat → xP → Int32
  | 0, _, _ => -9
  | k + 1, i, P => match tng P (r / 10000 ^ k % 10000) with
    | none => nI i
    | some P2 => jdL r k (i + 1) P2
def FD (σ t : xS) (B : Nat) : Prop := (∀ c, (c < B ∨ B + 4 < c) → c ≠ 104 → t.1 c = σ.1 c) ∧ t.2 = σ.2
theorem FD.rf (σ : xS) (B : Nat) : FD σ σ B := ⟨fun _ _ _ => rfl, rfl⟩
theorem FD.tr {σ t u : xS} {B : Nat} (h1 : FD σ t B) (h2 : FD t u B) : FD σ u B := ⟨fun c hc hd => (h2.1 c hc hd).trans (h1.1 c hc hd), h2.2.trans h1.2⟩
theorem FD.of {σ t : xS} {B : Nat} (h : Fr σ t B) : FD σ t B := ⟨fun c hc _ => h.1 c hc, h.2⟩
theorem FD.ow {σ t : xS} {B : Nat} (h : FW σ t) : FD σ t B := ⟨fun c _ hc => h.1 c hc, h.2⟩
theorem mayU_some {z : List xSt} {j : Nat} (h : mayU z j = true) : ∃ i s, las z j = some i ∧ z[i]? = some s := by
  unfold mayU at h
  cases hl : las z j with
  | none => rw [hl] at h; exact absurd (show false = true from h) (by decide)
  | some i =>
    obtain ⟨s, hs, -⟩ := las_some hl
    exact ⟨i, s, rfl, hs⟩
theorem xpow_n : ∀ k, k < 5 → xpow k = lN (10000 ^ k) := by decide +kernel
/-- pairs of choices -/
def rsP (P : xP) (a b p : Nat) : xP := (wst b 5 (p % 2) (wst a 5 (p / 2) P).1).1
def rs1 (P : xP) (a b p : Nat) : Int32 := wth (rsP P a b p).2.2.2 a
def rs2 (P : xP) (a b p : Nat) : Int32 := wth (rsP P a b p).2.2.2 b
def rsQ (P : xP) (a b p : Nat) : Bool := decide (rs1 P a b (p ^^^ 2) ≤ rs1 P a b p) && decide (rs2 P a b (p ^^^ 1) ≤ rs2 P a b p)
def rsN (P : xP) (a b : Nat) : Nat := foldN (fun c p => if rsQ P a b p then c + 1 else c) 0 4 0
def rsI (P : xP) (a b : Nat) (o : Option Nat) (p : Nat) : Option Nat := if o.isNone && rsQ P a b p then some (10 * (p / 2) + p % 2) else o
def rsF (P : xP) (a b : Nat) : Option Nat := foldN (rsI P a b) 0 4 none
theorem rsI_keep (P : xP) (a b v : Nat) : ∀ k i, foldN (rsI P a b) i k (some v) = some v := by
  intro k
  induction k with
  | zero => intro i; rfl
  | succ k ih => intro i; exact ih (i + 1)
def Rs (σ : xS) (P : xP) (a b : Nat) : Prop := ∀ p, p < 4 → σ.1 106 p = rs1 P a b p ∧ σ.1 107 p = rs2 P a b p
theorem wst_T (j k : Nat) : ∀ n (P : xP), (wst j k n P).1.1 = P.1
  | 0, P => rfl
  | n + 1, P => by
    show (if mayW P j ((P.2.2.1 j + k) % 12) = true then _ else _ : xP × Nat × Nat).1.1 = P.1
    split
    · exact wst_T j k n _
    · rfl
theorem x4_all : ∀ p, p < 4 → nI p ^^^ nI 2 = nI (p ^^^ 2) ∧ nI p ^^^ nI 1 = nI (p ^^^ 1) ∧ p ^^^ 2 < 4 ∧ p ^^^ 1 < 4 := by decide +kernel
section DO
variable {xs : Nat → Int32} {L : Nat} {σ : xS} {B : Nat} {P : xP}
theorem E_winds (hB : IsBd B) (h : Bd σ B P) {j n : Nat} (hj : j < 2 ^ 31) (hn : n < 2 ^ 31) : Cl xs L mX2_winds [.ref B, .int (nI j), .int (nI n)] GS σ GS (fun v t => v = some (.int (bI (doW P j n).isSome)) ∧ Bd t B ((doW P j n).getD P) ∧ Fr σ t B) := by
  show Ev xs L mX2_winds 0 [.ref B, .int (nI j), .int (nI n)] [] GS σ GS _
  refine xe_aload_n dX2_winds_0 rfl ?_
  refine xe_iload_n dX2_winds_1 rfl ?_
  refine xe_iload_n dX2_winds_2 rfl ?_
  refine e_callVp (E_mayWind hB h.2.1 h.2.2.1 hj hn) dX2_winds_3 kvX2_57 (bd_k hB) rfl ?_
  unfold doW
  refine xz_if_ne 11 dX2_winds_6 (by decide) (fun c => ?_) (fun c => ?_)
  · rw [if_pos c]
    refine xe_aload_n dX2_winds_11 rfl ?_
    refine xe_iload_n dX2_winds_12 rfl ?_
    refine xe_iload_n dX2_winds_13 rfl ?_
    refine e_callV (E_windOn hB h c) dX2_winds_14 kvX2_63 (bd_k hB) rfl ?_
    rintro v t ⟨rfl, hb, hf⟩
    refine xe_pop dX2_winds_17 rfl ?_
    refine xe_iconst (v := nI 1) dX2_winds_18 (by decide) ?_
    exact xe_zret dX2_winds_19 rfl (by decide) ⟨rfl, hb, hf⟩
  · rw [if_neg (by rw [c]; decide)]
    refine xe_iconst (v := nI 0) dX2_winds_9 (by decide) ?_
    exact xe_zret dX2_winds_10 rfl (by decide) ⟨rfl, h, Fr.rf σ B⟩
theorem E_unwinds (hB : IsBd B) (h : Bd σ B P) {j : Nat} (hj : j < 2 ^ 31) : Cl xs L mX2_unwinds [.ref B, .int (nI j)] GS σ GS (fun v t => v = some (.int (bI (doU P j).isSome)) ∧ Bd t B ((doU P j).getD P) ∧ Fr σ t B) := by
  show Ev xs L mX2_unwinds 0 [.ref B, .int (nI j)] [] GS σ GS _
  refine xe_aload_n dX2_unwinds_0 rfl ?_
  refine xe_iload_n dX2_unwinds_1 rfl ?_
  refine e_callVp (E_mayUnwind hB h.2.1 h.2.2.1 h.hc0 hj) dX2_unwinds_2 kvX2_67 (bd_k hB) rfl ?_
  refine xz_if_ne 10 dX2_unwinds_5 (by decide) (fun c => ?_) (fun c => ?_)
  · obtain ⟨i, s, hl, hs⟩ := mayU_some c
    have e : doU P j = some (uwd P j i s) := by unfold doU; rw [if_pos c, hl]; dsimp only; rw [hs]
    rw [e]
    refine xe_aload_n dX2_unwinds_10 rfl ?_
    refine xe_iload_n dX2_unwinds_11 rfl ?_
    refine e_callV (E_unwindLast hB h hl hs) dX2_unwinds_12 kvX2_71 (bd_k hB) rfl ?_
    rintro v t ⟨rfl, hb, hf⟩
    refine xe_pop dX2_unwinds_15 rfl ?_
    refine xe_iconst (v := nI 1) dX2_unwinds_16 (by decide) ?_
    exact xe_zret dX2_unwinds_17 rfl (by decide) ⟨rfl, hb, hf⟩
  · have e : doU P j = none := by unfold doU; rw [if_neg (by rw [c]; decide)]
    rw [e]
    refine xe_iconst (v := nI 0) dX2_unwinds_8 (by decide) ?_
    exact xe_zret dX2_unwinds_9 rfl (by decide) ⟨rfl, h, Fr.rf σ B⟩
theorem E_cuts (hB : IsBd B) (h : Bd σ B P) {j : Nat} (hj : j < 2 ^ 31) : Cl xs L mX2_cuts [.ref B, .int (nI j)] GS σ GS (fun v t => v = some (.int (bI (doC P j).isSome)) ∧ Bd t B ((doC P j).getD P) ∧ Fr σ t B) := by
  show Ev xs L mX2_cuts 0 [.ref B, .int (nI j)] [] GS σ GS _
  refine xe_aload_n dX2_cuts_0 rfl ?_
  refine xe_iload_n dX2_cuts_1 rfl ?_
  refine e_callVp (E_mayCut hB h.2.1 h.hc0 h.2.2.1.2.1 hj) dX2_cuts_2 kvX2_75 (bd_k hB) rfl ?_
  unfold doC
  refine xz_if_ne 10 dX2_cuts_5 (by decide) (fun c => ?_) (fun c => ?_)
  · have c : 0 < cnt P.2.2.2 j := by simpa using c
    rw [if_pos c]
    obtain ⟨s, hs, hsj⟩ := List.countP_pos_iff.mp c
    have hjT : j < P.1 := by
      have := h.hc0 s hs
      simp only [beq_iff_eq] at hsj
      omega
    refine xe_aload_n dX2_cuts_10 rfl ?_
    refine xe_iload_n dX2_cuts_11 rfl ?_
    refine e_callV (E_cutOff hB h hjT) dX2_cuts_12 kvX2_78 (bd_k hB) rfl ?_
    rintro v t ⟨rfl, hb, hf⟩
    refine xe_pop dX2_cuts_15 rfl ?_
    refine xe_iconst (v := nI 1) dX2_cuts_16 (by decide) ?_
    exact xe_zret dX2_cuts_17 rfl (by decide) ⟨rfl, hb, hf⟩
  · have c : ¬ 0 < cnt P.2.2.2 j := by simpa using c
    rw [if_neg c]
    refine xe_iconst (v := nI 0) dX2_cuts_8 (by decide) ?_
    exact xe_zret dX2_cuts_9 rfl (by decide) ⟨rfl, h, Fr.rf σ B⟩
theorem E_turns (hB : IsBd B) (h : Bd σ B P) : Cl xs L mX2_turns [.ref B] GS σ GS (fun v t => v = some (.int (bI true)) ∧ Bd t B (trnP P) ∧ Fr σ t B) := by
  show Ev xs L mX2_turns 0 [.ref B] [] GS σ GS _
  refine xe_aload_n dX2_turns_0 rfl ?_
  refine e_callV (E_turnByOne hB h) dX2_turns_1 kvX2_81 (bd_k hB) rfl ?_
  rintro v t ⟨rfl, hb, hf⟩
  refine xe_iconst (v := nI 1) dX2_turns_4 (by decide) ?_
  exact xe_zret dX2_turns_5 rfl (by decide) ⟨rfl, hb, hf⟩
theorem E_turnsOver (hB : IsBd B) (h : Bd σ B P) : Cl xs L mX2_turnsOver [.ref B] GS σ GS (fun v t => v = some (.int (bI true)) ∧ Bd t B (ovrP P) ∧ Fr σ t B) := by
  show Ev xs L mX2_turnsOver 0 [.ref B] [] GS σ GS _
  refine xe_aload_n dX2_turnsOver_0 rfl ?_
  refine e_callV (E_turnOver hB h) dX2_turnsOver_1 kvX2_84 (bd_k hB) rfl ?_
  rintro v t ⟨rfl, hb, hf⟩
  refine xe_iconst (v := nI 1) dX2_turnsOver_4 (by decide) ?_
  exact xe_zret dX2_turnsOver_5 rfl (by decide) ⟨rfl, hb, hf⟩
theorem cro_le (z : List xSt) (a b : Nat) : cro z a b ≤ z.length * z.length := by
  have : ∀ (r : List xSt) i, croS z a b i r ≤ r.length * z.length := by
    intro r
    induction r with
    | nil => intro i; exact Nat.zero_le _
    | cons s r ih =>
      intro i
      have h1 := ih (i + 1)
      show (if s.1 = a then crc (fun t => t == b) s.2.1 s.2.2.1 (z.drop (if a = b then i + 1 else 0)) else 0) + croS z a b (i + 1) r ≤ (r.length + 1) * z.length
      have h2 : (if s.1 = a then crc (fun t => t == b) s.2.1 s.2.2.1 (z.drop (if a = b then i + 1 else 0)) else 0) ≤ z.length := by
        split
        · have := crc_le (fun t => t == b) s.2.1 s.2.2.1 (z.drop (if a = b then i + 1 else 0))
          rw [List.length_drop] at this
          omega
        · exact Nat.zero_le _
      rw [Nat.add_mul, Nat.one_mul]
      omega
  exact this z 0
theorem cro_lt {z : List xSt} (h : z.length ≤ 48) (a b : Nat) : cro z a b ≤ 2304 := by
  have h1 := cro_le z a b
  have h2 : z.length * z.length ≤ 48 * 48 := Nat.mul_le_mul h h
  omega
theorem prt_lt (J : Nat → Nat) : prt J ≤ 30000 := by
  have hI : ∀ a, a < 12 → ∀ k b c, b + k = 12 → foldN (prI J a) b k c ≤ c + 145 * k := by
    intro a ha k
    induction k with
    | zero => intro b c _; exact Nat.le_add_right _ _
    | succ k ih =>
      intro b c hb
      have h1 := ih (b + 1) (prI J a c b) (by omega)
      have h2 : prI J a c b ≤ c + 145 := by
        unfold prI
        have := cup_le J (a := a) (b := b) (by omega)
        split <;> omega
      show foldN (prI J a) (b + 1) k (prI J a c b) ≤ _
      omega
  have hO : ∀ k a c, a + k = 12 → foldN (prO J) a k c ≤ c + 1740 * k := by
    intro k
    induction k with
    | zero => intro a c _; exact Nat.le_add_right _ _
    | succ k ih =>
      intro a c ha
      have h1 := ih (a + 1) (prO J c a) (by omega)
      have h2 := hI a (by omega) (11 - a) (a + 1) c (by omega)
      have h3 : prO J c a ≤ c + 145 * (11 - a) := h2
      show foldN (prO J) (a + 1) k (prO J c a) ≤ _
      omega
  have := hO 12 0 1 (by omega)
  unfold prt
  omega
theorem E_dCross (hB : IsBd B) (h : Bd σ B P) {a b k : Nat} (ha : a < 10) (hb : b < 10) (hk : k < 10) : Cl xs L mX2_doCross [.ref B, .int (nI a), .int (nI b), .int (nI k)] GS σ GS (pI σ (bI (decide (a < P.1 ∧ b < P.1 ∧ k ≤ cro P.2.2.2 a b)))) := by
  show Ev xs L mX2_doCross 0 [.ref B, .int (nI a), .int (nI b), .int (nI k)] [] GS σ GS _
  have hc := cro_lt h.2.2.1.2.1 a b
  have no : ∀ lv : List Value, ¬ (a < P.1 ∧ b < P.1 ∧ k ≤ cro P.2.2.2 a b) → Ev xs L mX2_doCross 30 lv [] GS σ GS (pI σ (bI (decide (a < P.1 ∧ b < P.1 ∧ k ≤ cro P.2.2.2 a b)))) := by
    intro lv hn
    refine xe_iconst (v := nI 0) dX2_doCross_30 (by decide) ?_
    exact e_zret dX2_doCross_31 rfl (by rw [decide_eq_false hn]; rfl)
  refine xe_aload_n dX2_doCross_0 rfl ?_
  refine xe_iload_n dX2_doCross_1 rfl ?_
  refine e_callVp (E_hasThreadN hB h.2.1 (by omega)) dX2_doCross_2 kvX2_87 (bd_k hB) rfl ?_
  refine xz_if_eq 30 dX2_doCross_5 (by decide) (fun c5 => ?_) (fun c5 => ?_)
  · exact no _ (fun q => by simp at c5; omega)
  refine xe_aload_n dX2_doCross_8 rfl ?_
  refine xe_iload_n dX2_doCross_9 rfl ?_
  refine e_callVp (E_hasThreadN hB h.2.1 (by omega)) dX2_doCross_10 kvX2_87 (bd_k hB) rfl ?_
  refine xz_if_eq 30 dX2_doCross_13 (by decide) (fun c13 => ?_) (fun c13 => ?_)
  · exact no _ (fun q => by simp at c13; omega)
  refine xe_aload_n dX2_doCross_16 rfl ?_
  refine xe_iload_n dX2_doCross_17 rfl ?_
  refine xe_iload_n dX2_doCross_18 rfl ?_
  refine e_callVp (E_crossingsOf hB h.2.2.1 (by omega) (by omega)) dX2_doCross_19 kvX2_90 (bd_k hB) rfl ?_
  refine xe_iload_n dX2_doCross_22 rfl ?_
  refine xn_icmp_lt 30 dX2_doCross_23 (by decide) (by omega) (by omega) (fun c23 => ?_) (fun c23 => ?_)
  · exact no _ (fun q => by omega)
  · refine xe_iconst (v := nI 1) dX2_doCross_26 (by decide) ?_
    refine xe_goto 31 dX2_doCross_27 (by decide) ?_
    exact e_zret dX2_doCross_31 rfl (by rw [decide_eq_true ⟨by simpa using c5, by simpa using c13, c23⟩]; rfl)
theorem E_comesTrue (hB : IsBd B) (h : Bd σ B P) {d : Nat} (hd : d < 10000) : Cl xs L mX2_comesTrue [.int (nI d), .ref B, .ref 103] GS σ GS (fun v t => v = some (.int (bI (tng P d).isSome)) ∧ Bd t B ((tng P d).getD P) ∧ FD σ t B) := by
  show Ev xs L mX2_comesTrue 0 [.int (nI d), .ref B, .ref 103] [] GS σ GS _
  refine xe_iload_n dX2_comesTrue_0 rfl ?_
  refine xe_sipush (v := nI 1000) dX2_comesTrue_1 (by decide) ?_
  refine xe_idiv dX2_comesTrue_4 (by decide) ?_
  rw [pk_div (by omega) (by decide) (by decide)]
  have q10 : d / 1000 < 10 := by omega
  have r10 : nI d - nI d / nI 10 * nI 10 = nI (d % 10) := pk_rem (by omega) (by decide) (by decide)
  have r100 : nI d - nI d / nI 100 * nI 100 = nI (d % 100) := pk_rem (by omega) (by decide) (by decide)
  generalize hq : d / 1000 = q at q10 ⊢
  have et : tng P d = tngQ P d q := by rw [← hq]; rfl
  have no : ∀ lv : List Value, tng P d = none → Ev xs L mX2_comesTrue 200 lv [] GS σ GS (fun v t => v = some (.int (bI (tng P d).isSome)) ∧ Bd t B ((tng P d).getD P) ∧ FD σ t B) := by
    intro lv hn
    rw [hn]
    refine xe_iconst (v := nI 0) dX2_comesTrue_200 (by decide) ?_
    exact xe_zret dX2_comesTrue_201 rfl (by decide) ⟨rfl, h, FD.rf σ B⟩
  match q, q10, hq, et with
  | 0, _, _, et =>
    refine xe_tableOut 200 dX2_comesTrue_5 (Or.inl (by decide)) (by decide) ?_
    exact no _ et
  | 1, _, _, et =>
    have et : tng P d = doW P (d / 100 % 10) (d % 100) := et
    rw [et]
    refine xe_tableIn 48 dX2_comesTrue_5 (by decide) (by decide) rfl (by decide) ?_
    refine xe_aload_n dX2_comesTrue_48 rfl ?_
    refine xe_iload_n dX2_comesTrue_49 rfl ?_
    refine xe_bipush (v := nI 100) dX2_comesTrue_50 (by decide) ?_
    refine xe_idiv dX2_comesTrue_52 (by decide) ?_
    rw [pk_div (by omega) (by decide) (by decide)]
    refine xe_bipush (v := nI 10) dX2_comesTrue_53 (by decide) ?_
    refine xe_irem dX2_comesTrue_55 (by decide) ?_
    rw [pk_rem (by omega) (by decide) (by decide)]
    refine xe_iload_n dX2_comesTrue_56 rfl ?_
    refine xe_bipush (v := nI 100) dX2_comesTrue_57 (by decide) ?_
    refine xe_irem dX2_comesTrue_59 (by decide) ?_
    rw [r100]
    refine e_callS (E_winds hB h (by omega) (by omega)) dX2_comesTrue_60 ksX2_29 rfl ?_
    rintro v t ⟨rfl, hb, hf⟩
    exact xe_zret dX2_comesTrue_63 rfl (bI_z _) ⟨rfl, hb, FD.of hf⟩
  | 2, _, _, et =>
    have et : tng P d = if d < 2010 then doU P (d % 10) else none := et
    refine xe_tableIn 64 dX2_comesTrue_5 (by decide) (by decide) rfl (by decide) ?_
    refine xe_iload_n dX2_comesTrue_64 rfl ?_
    refine xe_sipush (v := nI 2010) dX2_comesTrue_65 (by decide) ?_
    refine xn_icmp_ge 86 dX2_comesTrue_68 (by decide) (by omega) (by omega) (fun c => ?_) (fun c => ?_)
    · rw [if_neg (by omega)] at et
      rw [et]
      refine xe_iconst (v := nI 0) dX2_comesTrue_86 (by decide) ?_
      exact xe_zret dX2_comesTrue_87 rfl (by decide) ⟨rfl, h, FD.rf σ B⟩
    · rw [if_pos c] at et
      rw [et]
      refine xe_aload_n dX2_comesTrue_71 rfl ?_
      refine xe_iload_n dX2_comesTrue_72 rfl ?_
      refine xe_bipush (v := nI 10) dX2_comesTrue_73 (by decide) ?_
      refine xe_irem dX2_comesTrue_75 (by decide) ?_
      rw [r10]
      refine e_callS (E_unwinds hB h (by omega)) dX2_comesTrue_76 ksX2_33 rfl ?_
      rintro v t ⟨rfl, hb, hf⟩
      cases ho : doU P (d % 10) with
      | none =>
        rw [ho] at hb
        refine xe_if_eq 86 dX2_comesTrue_79 (by decide) (fun _ => ?_) (fun c => absurd rfl c)
        refine xe_iconst (v := nI 0) dX2_comesTrue_86 (by decide) ?_
        exact xe_zret dX2_comesTrue_87 rfl (by decide) ⟨rfl, hb, FD.of hf⟩
      | some P2 =>
        rw [ho] at hb
        refine xe_if_eq 86 dX2_comesTrue_79 (by decide) (fun c => absurd c (show ¬ bI true = 0 by decide)) (fun _ => ?_)
        refine xe_iconst (v := nI 1) dX2_comesTrue_82 (by decide) ?_
        refine xe_goto 87 dX2_comesTrue_83 (by decide) ?_
        exact xe_zret dX2_comesTrue_87 rfl (by decide) ⟨rfl, hb, FD.of hf⟩
  | 3, _, _, et =>
    have et : tng P d = if d < 3010 then doC P (d % 10) else none := et
    refine xe_tableIn 88 dX2_comesTrue_5 (by decide) (by decide) rfl (by decide) ?_
    refine xe_iload_n dX2_comesTrue_88 rfl ?_
    refine xe_sipush (v := nI 3010) dX2_comesTrue_89 (by decide) ?_
    refine xn_icmp_ge 110 dX2_comesTrue_92 (by decide) (by omega) (by omega) (fun c => ?_) (fun c => ?_)
    · rw [if_neg (by omega)] at et
      rw [et]
      refine xe_iconst (v := nI 0) dX2_comesTrue_110 (by decide) ?_
      exact xe_zret dX2_comesTrue_111 rfl (by decide) ⟨rfl, h, FD.rf σ B⟩
    · rw [if_pos c] at et
      rw [et]
      refine xe_aload_n dX2_comesTrue_95 rfl ?_
      refine xe_iload_n dX2_comesTrue_96 rfl ?_
      refine xe_bipush (v := nI 10) dX2_comesTrue_97 (by decide) ?_
      refine xe_irem dX2_comesTrue_99 (by decide) ?_
      rw [r10]
      refine e_callS (E_cuts hB h (by omega)) dX2_comesTrue_100 ksX2_37 rfl ?_
      rintro v t ⟨rfl, hb, hf⟩
      cases ho : doC P (d % 10) with
      | none =>
        rw [ho] at hb
        refine xe_if_eq 110 dX2_comesTrue_103 (by decide) (fun _ => ?_) (fun c => absurd rfl c)
        refine xe_iconst (v := nI 0) dX2_comesTrue_110 (by decide) ?_
        exact xe_zret dX2_comesTrue_111 rfl (by decide) ⟨rfl, hb, FD.of hf⟩
      | some P2 =>
        rw [ho] at hb
        refine xe_if_eq 110 dX2_comesTrue_103 (by decide) (fun c => absurd c (show ¬ bI true = 0 by decide)) (fun _ => ?_)
        refine xe_iconst (v := nI 1) dX2_comesTrue_106 (by decide) ?_
        refine xe_goto 111 dX2_comesTrue_107 (by decide) ?_
        exact xe_zret dX2_comesTrue_111 rfl (by decide) ⟨rfl, hb, FD.of hf⟩
  | 4, _, _, et =>
    have et : tng P d = if d = 4000 then some (trnP P) else none := et
    refine xe_tableIn 112 dX2_comesTrue_5 (by decide) (by decide) rfl (by decide) ?_
    refine xe_iload_n dX2_comesTrue_112 rfl ?_
    refine xe_sipush (v := nI 4000) dX2_comesTrue_113 (by decide) ?_
    refine xn_icmp_ne 130 dX2_comesTrue_116 (by decide) (by omega) (by omega) (fun c => ?_) (fun c => ?_)
    · rw [if_neg c] at et
      rw [et]
      refine xe_iconst (v := nI 0) dX2_comesTrue_130 (by decide) ?_
      exact xe_zret dX2_comesTrue_131 rfl (by decide) ⟨rfl, h, FD.rf σ B⟩
    · rw [if_pos c] at et
      rw [et]
      refine xe_aload_n dX2_comesTrue_119 rfl ?_
      refine e_callS (E_turns hB h) dX2_comesTrue_120 ksX2_40 rfl ?_
      rintro v t ⟨rfl, hb, hf⟩
      refine xe_if_eq 130 dX2_comesTrue_123 (by decide) (fun c => absurd c (show ¬ bI true = 0 by decide)) (fun _ => ?_)
      refine xe_iconst (v := nI 1) dX2_comesTrue_126 (by decide) ?_
      refine xe_goto 131 dX2_comesTrue_127 (by decide) ?_
      exact xe_zret dX2_comesTrue_131 rfl (by decide) ⟨rfl, hb, FD.of hf⟩
  | 5, _, _, et =>
    have et : tng P d = if d = 5000 then some (ovrP P) else none := et
    refine xe_tableIn 132 dX2_comesTrue_5 (by decide) (by decide) rfl (by decide) ?_
    refine xe_iload_n dX2_comesTrue_132 rfl ?_
    refine xe_sipush (v := nI 5000) dX2_comesTrue_133 (by decide) ?_
    refine xn_icmp_ne 150 dX2_comesTrue_136 (by decide) (by omega) (by omega) (fun c => ?_) (fun c => ?_)
    · rw [if_neg c] at et
      rw [et]
      refine xe_iconst (v := nI 0) dX2_comesTrue_150 (by decide) ?_
      exact xe_zret dX2_comesTrue_151 rfl (by decide) ⟨rfl, h, FD.rf σ B⟩
    · rw [if_pos c] at et
      rw [et]
      refine xe_aload_n dX2_comesTrue_139 rfl ?_
      refine e_callS (E_turnsOver hB h) dX2_comesTrue_140 ksX2_44 rfl ?_
      rintro v t ⟨rfl, hb, hf⟩
      refine xe_if_eq 150 dX2_comesTrue_143 (by decide) (fun c => absurd c (show ¬ bI true = 0 by decide)) (fun _ => ?_)
      refine xe_iconst (v := nI 1) dX2_comesTrue_146 (by decide) ?_
      refine xe_goto 151 dX2_comesTrue_147 (by decide) ?_
      exact xe_zret dX2_comesTrue_151 rfl (by decide) ⟨rfl, hb, FD.of hf⟩
  | 6, _, _, et =>
    have et : tng P d = if d / 100 % 10 < P.1 ∧ d / 10 % 10 < P.1 ∧ d % 10 ≤ cro P.2.2.2 (d / 100 % 10) (d / 10 % 10) then some P else none := et
    refine xe_tableIn 152 dX2_comesTrue_5 (by decide) (by decide) rfl (by decide) ?_
    refine xe_aload_n dX2_comesTrue_152 rfl ?_
    refine xe_iload_n dX2_comesTrue_153 rfl ?_
    refine xe_bipush (v := nI 100) dX2_comesTrue_154 (by decide) ?_
    refine xe_idiv dX2_comesTrue_156 (by decide) ?_
    rw [pk_div (by omega) (by decide) (by decide)]
    refine xe_bipush (v := nI 10) dX2_comesTrue_157 (by decide) ?_
    refine xe_irem dX2_comesTrue_159 (by decide) ?_
    rw [pk_rem (by omega) (by decide) (by decide)]
    refine xe_iload_n dX2_comesTrue_160 rfl ?_
    refine xe_bipush (v := nI 10) dX2_comesTrue_161 (by decide) ?_
    refine xe_idiv dX2_comesTrue_163 (by decide) ?_
    rw [pk_div (by omega) (by decide) (by decide)]
    refine xe_bipush (v := nI 10) dX2_comesTrue_164 (by decide) ?_
    refine xe_irem dX2_comesTrue_166 (by decide) ?_
    rw [pk_rem (by omega) (by decide) (by decide)]
    refine xe_iload_n dX2_comesTrue_167 rfl ?_
    refine xe_bipush (v := nI 10) dX2_comesTrue_168 (by decide) ?_
    refine xe_irem dX2_comesTrue_170 (by decide) ?_
    rw [r10]
    refine e_callSp (E_dCross hB h (by omega) (by omega) (by omega)) dX2_comesTrue_171 ksX2_47 rfl ?_
    by_cases c : d / 100 % 10 < P.1 ∧ d / 10 % 10 < P.1 ∧ d % 10 ≤ cro P.2.2.2 (d / 100 % 10) (d / 10 % 10)
    · rw [if_pos c] at et
      rw [et, decide_eq_true c]
      exact xe_zret dX2_comesTrue_174 rfl (by decide) ⟨rfl, h, FD.rf σ B⟩
    · rw [if_neg c] at et
      rw [et, decide_eq_false c]
      exact xe_zret dX2_comesTrue_174 rfl (by decide) ⟨rfl, h, FD.rf σ B⟩
  | 7, _, _, et =>
    have et : tng P d = if d < 7100 ∧ d % 100 ≤ prt (jm P.2.2.2) then some P else none := et
    refine xe_tableIn 175 dX2_comesTrue_5 (by decide) (by decide) rfl (by decide) ?_
    refine xe_iload_n dX2_comesTrue_175 rfl ?_
    refine xe_sipush (v := nI 7100) dX2_comesTrue_176 (by decide) ?_
    refine xn_icmp_ge 198 dX2_comesTrue_179 (by decide) (by omega) (by omega) (fun c => ?_) (fun c => ?_)
    · rw [if_neg (by omega)] at et
      rw [et]
      refine xe_iconst (v := nI 0) dX2_comesTrue_198 (by decide) ?_
      exact xe_zret dX2_comesTrue_199 rfl (by decide) ⟨rfl, h, FD.rf σ B⟩
    · refine xe_aload_n dX2_comesTrue_182 rfl ?_
      refine xe_aload_n dX2_comesTrue_183 rfl ?_
      refine e_callV (G := GS) (r := 103) (E_partsOf hB h.2.2.1) dX2_comesTrue_184 kvX2_51 gk_103 rfl ?_
      rintro v t ⟨rfl, hf⟩
      have hpl := prt_lt (jm P.2.2.2)
      refine xe_iload_n dX2_comesTrue_187 rfl ?_
      refine xe_bipush (v := nI 100) dX2_comesTrue_188 (by decide) ?_
      refine xe_irem dX2_comesTrue_190 (by decide) ?_
      rw [r100]
      refine xn_icmp_lt 198 dX2_comesTrue_191 (by decide) (by omega) (by omega) (fun c2 => ?_) (fun c2 => ?_)
      · rw [if_neg (by omega)] at et
        rw [et]
        refine xe_iconst (v := nI 0) dX2_comesTrue_198 (by decide) ?_
        exact xe_zret dX2_comesTrue_199 rfl (by decide) ⟨rfl, h.fw hB hf, FD.ow hf⟩
      · rw [if_pos ⟨c, c2⟩] at et
        rw [et]
        refine xe_iconst (v := nI 1) dX2_comesTrue_194 (by decide) ?_
        refine xe_goto 199 dX2_comesTrue_195 (by decide) ?_
        exact xe_zret dX2_comesTrue_199 rfl (by decide) ⟨rfl, h.fw hB hf, FD.ow hf⟩
  | 8, _, _, et =>
    refine xe_tableOut 200 dX2_comesTrue_5 (Or.inr (by decide)) (by decide) ?_
    exact no _ et
  | 9, _, _, et =>
    refine xe_tableOut 200 dX2_comesTrue_5 (Or.inr (by decide)) (by decide) ?_
    exact no _ et
  | k + 10, hk, _, _ => omega
theorem E_powerAt {G : xG} {k : Nat} (hk : k < 5) : Cl xs L mX2_powerAt [.int (nI k)] G σ G (pL σ (lN (10000 ^ k))) := by
  show Ev xs L mX2_powerAt 0 [.int (nI k)] [] G σ G _
  refine xe_iload_n dX2_powerAt_0 rfl ?_
  refine xe_iconst (v := nI 0) dX2_powerAt_1 (by decide) ?_
  refine xe_iconst (v := nI 4) dX2_powerAt_2 (by decide) ?_
  refine e_callSp (E_isOutside) dX2_powerAt_3 ksX2_9 rfl ?_
  rw [out_n (by omega) (by omega)]
  refine xe_if_eq 13 dX2_powerAt_6 (by decide) (fun _ => ?_) (fun c => absurd (by rw [decide_eq_true (show k ≤ 4 by omega)]; rfl) c)
  refine xe_gets2 dX2_powerAt_13 gw599 ?_
  refine xe_iload_n dX2_powerAt_16 rfl ?_
  refine xe_pald dX2_powerAt_17 (vp_in_nI hk (by omega)) ?_
  rw [nI_clamp (by omega), xpow_n k hk]
  exact xe_lret dX2_powerAt_18 rfl ⟨rfl, rfl⟩
theorem E_isTooLong {G : xG} {k : Nat} {x : Int64} (hk : k < 5) : Cl xs L mX2_isTooLong [.int (nI k), .long x] G σ G (pI σ (bI (decide (x < 0) || decide (lN (10000 ^ k) ≤ x)))) := by
  show Ev xs L mX2_isTooLong 0 [.int (nI k), .long x, .null] [] G σ G _
  refine xe_iload_n dX2_isTooLong_0 rfl ?_
  refine xe_iconst (v := nI 0) dX2_isTooLong_1 (by decide) ?_
  refine xe_iconst (v := nI 4) dX2_isTooLong_2 (by decide) ?_
  refine e_callSp (E_isOutside) dX2_isTooLong_3 ksX2_9 rfl ?_
  rw [out_n (by omega) (by omega)]
  refine xe_if_ne 25 dX2_isTooLong_6 (by decide) (fun c => absurd c (by rw [decide_eq_true (show k ≤ 4 by omega)]; decide)) (fun _ => ?_)
  refine xe_lload_n dX2_isTooLong_9 rfl ?_
  refine xe_lconst (v := 0) dX2_isTooLong_10 (by decide) ?_
  refine xe_lcmp dX2_isTooLong_11 ?_
  refine xe_if_lt 25 dX2_isTooLong_12 (by decide) (fun c12 => ?_) (fun c12 => ?_)
  · rw [lg_cmp_lt] at c12
    refine xe_iconst (v := nI 1) dX2_isTooLong_25 (by decide) ?_
    refine xe_goto 30 dX2_isTooLong_26 (by decide) ?_
    exact e_zret dX2_isTooLong_30 rfl (by rw [decide_eq_true c12]; rfl)
  · rw [lg_cmp_lt] at c12
    rw [decide_eq_false c12, Bool.false_or]
    refine xe_lload_n dX2_isTooLong_15 rfl ?_
    refine xe_gets2 dX2_isTooLong_16 gw599 ?_
    refine xe_iload_n dX2_isTooLong_19 rfl ?_
    refine xe_pald dX2_isTooLong_20 (vp_in_nI hk (by omega)) ?_
    rw [nI_clamp (by omega), xpow_n k hk]
    refine xe_lcmp dX2_isTooLong_21 ?_
    refine xe_if_lt 29 dX2_isTooLong_22 (by decide) (fun c22 => ?_) (fun c22 => ?_)
    · rw [lg_cmp_lt] at c22
      refine xe_iconst (v := nI 0) dX2_isTooLong_29 (by decide) ?_
      exact e_zret dX2_isTooLong_30 rfl (by rw [decide_eq_false (Int64.not_le.mpr c22)]; rfl)
    · rw [lg_cmp_lt] at c22
      refine xe_iconst (v := nI 1) dX2_isTooLong_25 (by decide) ?_
      refine xe_goto 30 dX2_isTooLong_26 (by decide) ?_
      exact e_zret dX2_isTooLong_30 rfl (by rw [decide_eq_true (Int64.not_lt.mp c22)]; rfl)
theorem E_firstWrong (hB : IsBd B) (h : Bd σ B P) {n r : Nat} (hn : n ≤ 4) (hr : r < 2 ^ 63) : Cl xs L mX2_firstWrong [.int (nI n), .long (lN r), .ref B, .ref 103] GS σ GS (fun v t => v = some (.int (jdL r n 0 P)) ∧ FD σ t B) := by
  show Ev xs L mX2_firstWrong 0 [.int (nI n), .long (lN r), .null, .ref B, .ref 103, .null, .null] [] GS σ GS _
  have key : ∀ k i (P : xP) (t : xS) (w : Value), i + k = n → Bd t B P → FD σ t B → jdL r n 0 P = jdL r n 0 P → Ev xs L mX2_firstWrong 3 [.int (nI n), .long (lN r), .null, .ref B, .ref 103, .int (nI i), w] [] GS t GS (fun v t => v = some (.int (jdL r k i P)) ∧ FD σ t B) := by
    intro k
    induction k with
    | zero =>
      intro i P t w hi hb hf _
      refine xe_iload dX2_firstWrong_3 rfl ?_
      refine xe_iload_n dX2_firstWrong_5 rfl ?_
      refine xe_icmp_ge 53 dX2_firstWrong_6 (by decide) (fun _ => ?_) (fun c => absurd (nI_le (by omega) (by omega)) c)
      refine xe_bipush (v := -9) dX2_firstWrong_53 (by decide) ?_
      exact xe_iret dX2_firstWrong_55 rfl ⟨rfl, hf⟩
    | succ k ih =>
      intro i P t w hi hb hf _
      refine xe_iload dX2_firstWrong_3 rfl ?_
      refine xe_iload_n dX2_firstWrong_5 rfl ?_
      refine xe_icmp_ge 53 dX2_firstWrong_6 (by decide) (fun c => absurd c (nI_ge (by omega) (by omega))) (fun _ => ?_)
      refine xe_iload dX2_firstWrong_9 rfl ?_
      refine xe_iconst (v := nI 4) dX2_firstWrong_11 (by decide) ?_
      refine xe_icmp_ge 53 dX2_firstWrong_12 (by decide) (fun c => absurd c (nI_ge (by omega) (by omega))) (fun _ => ?_)
      refine xe_lload_n dX2_firstWrong_15 rfl ?_
      refine xe_iload_n dX2_firstWrong_16 rfl ?_
      refine xe_iconst (v := nI 1) dX2_firstWrong_17 (by decide) ?_
      refine xe_isub dX2_firstWrong_18 ?_
      rw [pk_sub (by omega)]
      refine xe_iload dX2_firstWrong_19 rfl ?_
      refine xe_isub dX2_firstWrong_21 ?_
      rw [pk_sub (by omega), show n - 1 - i = k by omega]
      refine e_callSl (E_powerAt (show k < 5 by omega)) dX2_firstWrong_22 ksX2_19 rfl ?_
      have p0 : 0 < 10000 ^ k := Nat.pow_pos (by decide)
      have p4 : 10000 ^ k ≤ 10000 ^ 4 := Nat.pow_le_pow_right (by decide) (by omega)
      have pd : r / 10000 ^ k ≤ r := Nat.div_le_self _ _
      refine xe_ldiv dX2_firstWrong_25 (fun e => absurd ((pk_lEQ (a := 10000 ^ k) (b := 0) (by omega) (by omega)).mp e) (by omega)) ?_
      rw [pk_lDiv hr p0 (by omega)]
      refine xe_ldc2 dX2_firstWrong_26 gw607 ?_
      refine xe_lrem dX2_firstWrong_29 (by decide) ?_
      rw [show (10000 : Int64) = lN 10000 by decide, pk_lRem (by omega) (by decide) (by decide)]
      refine xe_l2i dX2_firstWrong_30 ?_
      rw [lN_i]
      refine xe_istore dX2_firstWrong_31 (by decide) ?_
      refine xe_iload dX2_firstWrong_33 rfl ?_
      refine xe_aload_n dX2_firstWrong_35 rfl ?_
      refine xe_aload dX2_firstWrong_36 rfl ?_
      have hd : r / 10000 ^ k % 10000 < 10000 := Nat.mod_lt _ (by decide)
      refine e_callS (E_comesTrue hB hb hd) dX2_firstWrong_38 ksX2_25 rfl ?_
      rintro v u ⟨rfl, hbu, hfu⟩
      cases ho : tng P (r / 10000 ^ k % 10000) with
      | none =>
        have e : jdL r (k + 1) i P = nI i := by
          show (match tng P (r / 10000 ^ k % 10000) with
            | none => nI i
            | some P2 => jdL r k (i + 1) P2) = nI i
          rw [ho]
        rw [e]
        refine xe_if_ne 47 dX2_firstWrong_41 (by decide) (fun c => absurd c (show ¬ ¬ bI false = 0 by decide)) (fun _ => ?_)
        refine xe_iload dX2_firstWrong_44 rfl ?_
        exact xe_iret dX2_firstWrong_46 rfl ⟨rfl, hf.tr hfu⟩
      | some P2 =>
        have e : jdL r (k + 1) i P = jdL r k (i + 1) P2 := by
          show (match tng P (r / 10000 ^ k % 10000) with
            | none => nI i
            | some P2 => jdL r k (i + 1) P2) = _
          rw [ho]
        rw [e]
        rw [ho] at hbu
        refine xe_if_ne 47 dX2_firstWrong_41 (by decide) (fun _ => ?_) (fun c => absurd c (show ¬ bI true = 0 by decide))
        refine xe_inc dX2_firstWrong_47 rfl (by decide) ?_
        refine xe_goto 3 dX2_firstWrong_50 (by decide) ?_
        rw [nI_1]
        exact ih (i + 1) P2 u _ (by omega) hbu (hf.tr hfu) rfl
  refine xe_iconst (v := nI 0) dX2_firstWrong_0 (by decide) ?_
  refine xe_istore dX2_firstWrong_1 (by decide) ?_
  exact key n 0 P σ .null (by omega) h (FD.rf σ B) rfl
theorem E_tryAll (h : Bd σ 4 P) {a b : Nat} (ha : a < P.1) (hb : b < P.1) : Cl xs L mX4_tryAll [.ref 105, .ref 4, .ref 9, .int (nI a), .int (nI b)] GS σ GS (fun v t => v = none ∧ Rs t P a b ∧ (∀ c, (c < 9 ∨ 13 < c) → c ≠ 106 → c ≠ 107 → t.1 c = σ.1 c) ∧ t.2 = σ.2) := by
  show Ev xs L mX4_tryAll 0 [.ref 105, .ref 4, .ref 9, .int (nI a), .int (nI b), .null] [] GS σ GS _
  have h4 := h.1.1
  have key : ∀ k p (t : xS), p + k = 4 → (∀ q, q < p → t.1 106 q = rs1 P a b q ∧ t.1 107 q = rs2 P a b q) → (∀ c, (c < 9 ∨ 13 < c) → c ≠ 106 → c ≠ 107 → t.1 c = σ.1 c) → t.2 = σ.2 → Ev xs L mX4_tryAll 3 [.ref 105, .ref 4, .ref 9, .int (nI a), .int (nI b), .int (nI p)] [] GS t GS (fun v t => v = none ∧ Rs t P a b ∧ (∀ c, (c < 9 ∨ 13 < c) → c ≠ 106 → c ≠ 107 → t.1 c = σ.1 c) ∧ t.2 = σ.2) := by
    intro k
    induction k with
    | zero =>
      intro p t hp hq hc h2
      refine xe_iload dX4_tryAll_3 rfl ?_
      refine xe_iconst (v := nI 4) dX4_tryAll_5 (by decide) ?_
      refine xe_icmp_ge 68 dX4_tryAll_6 (by decide) (fun _ => ?_) (fun c => absurd (nI_le (by omega) (by omega)) c)
      exact xe_vret dX4_tryAll_68 rfl ⟨rfl, fun q hq4 => hq q (by omega), hc, h2⟩
    | succ k ih =>
      intro p t hp hq hc h2
      have ht : Bd t 4 P := by
        obtain ⟨b1, ⟨a1, a2, a3⟩, ⟨c1, c2, c3, c4⟩, b4⟩ := h
        have e : ∀ c, 4 ≤ c → c ≤ 8 → t.1 c = σ.1 c := fun c _ _ => hc c (by omega) (by omega) (by omega)
        exact ⟨b1, ⟨by rw [e 4 (by omega) (by omega)]; exact a1, a2, by rw [e (4 + 1) (by omega) (by omega), e (4 + 2) (by omega) (by omega), e (4 + 3) (by omega) (by omega)]; exact a3⟩, ⟨by rw [e 4 (by omega) (by omega)]; exact c1, c2, by rw [e (4 + 4) (by omega) (by omega)]; exact c3, c4⟩, by rw [e 4 (by omega) (by omega)]; exact b4⟩
      refine xe_iload dX4_tryAll_3 rfl ?_
      refine xe_iconst (v := nI 4) dX4_tryAll_5 (by decide) ?_
      refine xe_icmp_ge 68 dX4_tryAll_6 (by decide) (fun c => absurd c (nI_ge (by omega) (by omega))) (fun _ => ?_)
      refine xe_aload_n dX4_tryAll_9 rfl ?_
      refine xe_aload_n dX4_tryAll_10 rfl ?_
      refine e_callV (E_becomeLike bd_9 bd_4 (by decide) ht) dX4_tryAll_11 kvX4_18 (bd_k bd_9) rfl ?_
      rintro v u ⟨rfl, hu, fu⟩
      refine xe_aload_n dX4_tryAll_14 rfl ?_
      refine xe_iload_n dX4_tryAll_15 rfl ?_
      refine xe_iconst (v := nI 5) dX4_tryAll_16 (by decide) ?_
      refine xe_iload dX4_tryAll_17 rfl ?_
      refine xe_iconst (v := nI 2) dX4_tryAll_19 (by decide) ?_
      refine xe_idiv dX4_tryAll_20 (by decide) ?_
      rw [pk_div (by omega) (by decide) (by decide)]
      refine e_callV (E_windStar0 bd_9 hu ha (k := 5) (n := p / 2) (by decide) (by omega)) dX4_tryAll_21 kvX4_24 (bd_k bd_9) rfl ?_
      rintro v w ⟨rfl, hw, fw⟩
      refine xe_pop dX4_tryAll_24 rfl ?_
      refine xe_aload_n dX4_tryAll_25 rfl ?_
      refine xe_iload dX4_tryAll_26 rfl ?_
      refine xe_iconst (v := nI 5) dX4_tryAll_28 (by decide) ?_
      refine xe_iload dX4_tryAll_29 rfl ?_
      refine xe_iconst (v := nI 2) dX4_tryAll_31 (by decide) ?_
      refine xe_irem dX4_tryAll_32 (by decide) ?_
      rw [pk_rem (by omega) (by decide) (by decide)]
      refine e_callV (E_windStar0 bd_9 hw (j := b) (by rw [wst_T]; exact hb) (k := 5) (n := p % 2) (by decide) (by omega)) dX4_tryAll_33 kvX4_24 (bd_k bd_9) rfl ?_
      rintro v y ⟨rfl, hy, fy⟩
      have hy : Bd y 9 (rsP P a b p) := hy
      refine xe_pop dX4_tryAll_36 rfl ?_
      refine xe_aload_n dX4_tryAll_37 rfl ?_
      refine e_getA (G := GS) (r := 105) dX4_tryAll_38 fdX4_11 rfl gk_105 gr_105_0 ?_
      refine xe_iload dX4_tryAll_41 rfl ?_
      refine xe_aload_n dX4_tryAll_43 rfl ?_
      refine xe_iload_n dX4_tryAll_44 rfl ?_
      refine e_callVp (E_worthOf bd_9 hy.2.1 hy.2.2.1 hy.hc0 (by omega)) dX4_tryAll_45 kvX4_28 (bd_k bd_9) rfl ?_
      refine e_iast (G := GS) (a := 106) dX4_tryAll_48 gk_106 gn_106 (by omega) (by decide) ?_
      refine xe_aload_n dX4_tryAll_49 rfl ?_
      refine e_getA (G := GS) (r := 105) dX4_tryAll_50 fdX4_15 rfl gk_105 gr_105_1 ?_
      refine xe_iload dX4_tryAll_53 rfl ?_
      refine xe_aload_n dX4_tryAll_55 rfl ?_
      refine xe_iload dX4_tryAll_56 rfl ?_
      have fy2 : FD y (xpi y 106 p (rs1 P a b p)) 106 := ⟨fun c hc _ => xpi_ne _ _ _ (by omega), rfl⟩
      have hy2 : Bd (xpi y 106 p (rs1 P a b p)) 9 (rsP P a b p) := by
        have e : ∀ c, 9 ≤ c → c ≤ 13 → (xpi y 106 p (rs1 P a b p)).1 c = y.1 c := fun c _ _ => xpi_ne _ _ _ (by omega)
        obtain ⟨b1, ⟨a1, a2, a3⟩, ⟨c1, c2, c3, c4⟩, b4⟩ := hy
        exact ⟨b1, ⟨by rw [e 9 (by omega) (by omega)]; exact a1, a2, by rw [e (9 + 1) (by omega) (by omega), e (9 + 2) (by omega) (by omega), e (9 + 3) (by omega) (by omega)]; exact a3⟩, ⟨by rw [e 9 (by omega) (by omega)]; exact c1, c2, by rw [e (9 + 4) (by omega) (by omega)]; exact c3, c4⟩, by rw [e 9 (by omega) (by omega)]; exact b4⟩
      refine e_callVp (E_worthOf bd_9 hy2.2.1 hy2.2.2.1 hy2.hc0 (by omega)) dX4_tryAll_58 kvX4_28 (bd_k bd_9) rfl ?_
      refine e_iast (G := GS) (a := 107) dX4_tryAll_61 gk_107 gn_107 (by omega) (by decide) ?_
      refine xe_inc dX4_tryAll_62 rfl (by decide) ?_
      refine xe_goto 3 dX4_tryAll_65 (by decide) ?_
      rw [nI_1]
      have fr : ∀ c, (c < 9 ∨ 13 < c) → y.1 c = t.1 c := fun c hcc => (fy.1 c hcc).trans ((fw.1 c hcc).trans (fu.1 c hcc))
      refine ih (p + 1) _ (by omega) (fun q hqp => ?_) (fun c c1 c2 c3 => ?_) ?_
      · by_cases e : q = p
        · rw [xpi_rd, if_neg (by omega), xpi_rd, if_pos (by omega)]
          rw [xpi_rd, if_pos (by omega), e]
          exact ⟨rfl, rfl⟩
        · rw [xpi_rd, if_neg (by omega), xpi_rd, if_neg (by omega)]
          rw [xpi_rd, if_neg (by omega), xpi_rd, if_neg (by omega), fr 106 (by omega), fr 107 (by omega)]
          exact hq q (by omega)
      · rw [xpi_ne _ _ _ c3, xpi_ne _ _ _ c2, fr c c1]
        exact hc c c1 c2 c3
      · show y.2 = σ.2
        rw [fy.2, fw.2, fu.2, h2]
  refine xe_iconst (v := nI 0) dX4_tryAll_0 (by decide) ?_
  refine xe_istore dX4_tryAll_1 (by decide) ?_
  exact key 4 0 σ (by omega) (fun q hq => absurd hq (Nat.not_lt_zero _)) (fun _ _ _ _ => rfl) rfl
theorem E_isAtRest {a b p : Nat} (h : Rs σ P a b) (hp : p < 4) : Cl xs L mX4_isAtRest [.ref 105, .int (nI p)] GS σ GS (pI σ (bI (rsQ P a b p))) := by
  show Ev xs L mX4_isAtRest 0 [.ref 105, .int (nI p)] [] GS σ GS _
  obtain ⟨x1, x2, x3, x4⟩ := x4_all p hp
  refine xe_aload_n dX4_isAtRest_0 rfl ?_
  refine e_getA (G := GS) (r := 105) dX4_isAtRest_1 fdX4_11 rfl gk_105 gr_105_0 ?_
  refine xe_iload_n dX4_isAtRest_4 rfl ?_
  refine e_iald (G := GS) (a := 106) dX4_isAtRest_5 gk_106 gn_106 hp (by decide) (h p hp).1 ?_
  refine xe_aload_n dX4_isAtRest_6 rfl ?_
  refine e_getA (G := GS) (r := 105) dX4_isAtRest_7 fdX4_11 rfl gk_105 gr_105_0 ?_
  refine xe_iload_n dX4_isAtRest_10 rfl ?_
  refine xe_iconst (v := nI 2) dX4_isAtRest_11 (by decide) ?_
  refine xe_ixor dX4_isAtRest_12 ?_
  rw [x1]
  refine e_iald (G := GS) (a := 106) dX4_isAtRest_13 gk_106 gn_106 x3 (by decide) (h _ x3).1 ?_
  refine xe_icmp_lt 38 dX4_isAtRest_14 (by decide) (fun c14 => ?_) (fun c14 => ?_)
  · refine xe_iconst (v := nI 0) dX4_isAtRest_38 (by decide) ?_
    exact e_zret dX4_isAtRest_39 rfl (by unfold rsQ; rw [decide_eq_false (Int32.not_le.mpr c14)]; rfl)
  · refine xe_aload_n dX4_isAtRest_17 rfl ?_
    refine e_getA (G := GS) (r := 105) dX4_isAtRest_18 fdX4_15 rfl gk_105 gr_105_1 ?_
    refine xe_iload_n dX4_isAtRest_21 rfl ?_
    refine e_iald (G := GS) (a := 107) dX4_isAtRest_22 gk_107 gn_107 hp (by decide) (h p hp).2 ?_
    refine xe_aload_n dX4_isAtRest_23 rfl ?_
    refine e_getA (G := GS) (r := 105) dX4_isAtRest_24 fdX4_15 rfl gk_105 gr_105_1 ?_
    refine xe_iload_n dX4_isAtRest_27 rfl ?_
    refine xe_iconst (v := nI 1) dX4_isAtRest_28 (by decide) ?_
    refine xe_ixor dX4_isAtRest_29 ?_
    rw [x2]
    refine e_iald (G := GS) (a := 107) dX4_isAtRest_30 gk_107 gn_107 x4 (by decide) (h _ x4).2 ?_
    refine xe_icmp_lt 38 dX4_isAtRest_31 (by decide) (fun c31 => ?_) (fun c31 => ?_)
    · refine xe_iconst (v := nI 0) dX4_isAtRest_38 (by decide) ?_
      exact e_zret dX4_isAtRest_39 rfl (by unfold rsQ; rw [decide_eq_false (Int32.not_le.mpr c31), Bool.and_false]; rfl)
    · refine xe_iconst (v := nI 1) dX4_isAtRest_34 (by decide) ?_
      refine xe_goto 39 dX4_isAtRest_35 (by decide) ?_
      exact e_zret dX4_isAtRest_39 rfl (by unfold rsQ; rw [decide_eq_true (Int32.not_lt.mp c14), decide_eq_true (Int32.not_lt.mp c31)]; rfl)
theorem E_rsN {a b : Nat} (h : Rs σ P a b) : Cl xs L mX4_howMany [.ref 105] GS σ GS (pI σ (nI (rsN P a b))) := by
  show Ev xs L mX4_howMany 0 [.ref 105, .null, .null] [] GS σ GS _
  have key := goN 4 (fun c p => if rsQ P a b p then c + 1 else c) (fun p c => Ev xs L mX4_howMany 4 [.ref 105, .int (nI c), .int (nI p)] [] GS σ GS (pI σ (nI (rsN P a b)))) (rsN P a b) (by
      refine xe_iload_n dX4_howMany_4 rfl ?_
      refine xe_iconst (v := nI 4) dX4_howMany_5 (by decide) ?_
      refine xe_icmp_ge 26 dX4_howMany_6 (by decide) (fun _ => ?_) (fun c => absurd (by decide) c)
      refine xe_iload_n dX4_howMany_26 rfl ?_
      exact e_iret dX4_howMany_27 rfl rfl) (by
      intro p c hp k
      refine xe_iload_n dX4_howMany_4 rfl ?_
      refine xe_iconst (v := nI 4) dX4_howMany_5 (by decide) ?_
      refine xe_icmp_ge 26 dX4_howMany_6 (by decide) (fun c => absurd c (nI_ge hp (by omega))) (fun _ => ?_)
      refine xe_aload_n dX4_howMany_9 rfl ?_
      refine xe_iload_n dX4_howMany_10 rfl ?_
      refine e_callVp (G := GS) (r := 105) (E_isAtRest h hp) dX4_howMany_11 kvX4_32 gk_105 rfl ?_
      refine xz_if_eq 20 dX4_howMany_14 (by decide) (fun d => ?_) (fun d => ?_)
      · rw [d] at k
        refine xe_inc dX4_howMany_20 rfl (by decide) ?_
        refine xe_goto 4 dX4_howMany_23 (by decide) ?_
        rw [nI_1]
        exact k
      · rw [d] at k
        refine xe_inc dX4_howMany_17 rfl (by decide) ?_
        refine xe_inc dX4_howMany_20 rfl (by decide) ?_
        refine xe_goto 4 dX4_howMany_23 (by decide) ?_
        rw [nI_1, nI_1]
        exact k) 4 0 0 (by omega) rfl
  refine xe_iconst (v := nI 0) dX4_howMany_0 (by decide) ?_
  refine xe_istore_n dX4_howMany_1 (by decide) ?_
  refine xe_iconst (v := nI 0) dX4_howMany_2 (by decide) ?_
  refine xe_istore_n dX4_howMany_3 (by decide) ?_
  exact key
theorem E_rsF {a b : Nat} (h : Rs σ P a b) : Cl xs L mX4_firstPair [.ref 105] GS σ GS (pI σ (o9 (rsF P a b))) := by
  show Ev xs L mX4_firstPair 0 [.ref 105, .null] [] GS σ GS _
  have key : ∀ m p, p + m = 4 → foldN (rsI P a b) p m none = rsF P a b → Ev xs L mX4_firstPair 2 [.ref 105, .int (nI p)] [] GS σ GS (pI σ (o9 (rsF P a b))) := by
    intro m
    induction m with
    | zero =>
      intro p hp he
      have he : none = rsF P a b := he
      refine xe_iload_n dX4_firstPair_2 rfl ?_
      refine xe_iconst (v := nI 4) dX4_firstPair_3 (by decide) ?_
      refine xe_icmp_ge 32 dX4_firstPair_4 (by decide) (fun _ => ?_) (fun c => absurd (nI_le (by omega) (by omega)) c)
      refine xe_bipush (v := -9) dX4_firstPair_32 (by decide) ?_
      exact e_iret dX4_firstPair_34 rfl (by rw [← he]; rfl)
    | succ m ih =>
      intro p hp he
      have he : foldN (rsI P a b) (p + 1) m (rsI P a b none p) = rsF P a b := he
      refine xe_iload_n dX4_firstPair_2 rfl ?_
      refine xe_iconst (v := nI 4) dX4_firstPair_3 (by decide) ?_
      refine xe_icmp_ge 32 dX4_firstPair_4 (by decide) (fun c => absurd c (nI_ge (by omega) (by omega))) (fun _ => ?_)
      refine xe_aload_n dX4_firstPair_7 rfl ?_
      refine xe_iload_n dX4_firstPair_8 rfl ?_
      refine e_callVp (G := GS) (r := 105) (E_isAtRest h (show p < 4 by omega)) dX4_firstPair_9 kvX4_32 gk_105 rfl ?_
      refine xz_if_eq 26 dX4_firstPair_12 (by decide) (fun d => ?_) (fun d => ?_)
      · have e : rsI P a b none p = none := by unfold rsI; rw [d]; rfl
        rw [e] at he
        refine xe_inc dX4_firstPair_26 rfl (by decide) ?_
        refine xe_goto 2 dX4_firstPair_29 (by decide) ?_
        rw [nI_1]
        exact ih (p + 1) (by omega) he
      · have e : rsI P a b none p = some (10 * (p / 2) + p % 2) := by unfold rsI; rw [d]; rfl
        rw [e, rsI_keep] at he
        refine xe_bipush (v := nI 10) dX4_firstPair_15 (by decide) ?_
        refine xe_iload_n dX4_firstPair_17 rfl ?_
        refine xe_iconst (v := nI 2) dX4_firstPair_18 (by decide) ?_
        refine xe_idiv dX4_firstPair_19 (by decide) ?_
        rw [pk_div (by omega) (by decide) (by decide)]
        refine xe_imul dX4_firstPair_20 ?_
        rw [pk_mul]
        refine xe_iload_n dX4_firstPair_21 rfl ?_
        refine xe_iconst (v := nI 2) dX4_firstPair_22 (by decide) ?_
        refine xe_irem dX4_firstPair_23 (by decide) ?_
        rw [pk_rem (by omega) (by decide) (by decide)]
        refine xe_iadd dX4_firstPair_24 ?_
        exact e_iret dX4_firstPair_25 rfl (by rw [← he, nI_add]; rfl)
  refine xe_iconst (v := nI 0) dX4_firstPair_0 (by decide) ?_
  refine xe_istore_n dX4_firstPair_1 (by decide) ?_
  exact key 4 0 (by omega) rfl
end DO
