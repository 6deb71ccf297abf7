/-! what a call answers, and what is there behind it -/
/-- letters, the board, the acts, the slots, what is seen, the seed -/
abbrev yA : Type := List Nat × xP × List xP × (Nat → Option xP) × List xSn × Int64
def outQ (x : Int32) (a b : Nat) : Bool := decide (x < nI a) || !decide (x ≤ nI b)
theorem outQ_of {x : Int32} {a b : Nat} (hb : b < 2 ^ 31) (hab : a ≤ b) (h : outQ x a b = false) : ∃ j : Nat, a ≤ j ∧ j ≤ b ∧ x = nI j := by
  unfold outQ at h
  simp only [Bool.or_eq_false_iff, decide_eq_false_iff_not, Bool.not_eq_false', decide_eq_true_eq] at h
  obtain ⟨h1, h2⟩ := h
  have h0 : ¬ x < 0 := fun q => h1 (by
    have : (0 : Int32) ≤ nI a := nI_pos' (by omega)
    exact Int32.lt_of_lt_of_le q this)
  obtain ⟨j, hj, rfl⟩ := nI_of2 (nI_toInt hb) h0 h2
  refine ⟨j, ?_, hj, rfl⟩
  rcases Nat.lt_or_ge j a with q | q
  · exact absurd (nI_lt q (by omega)) h1
  · exact q
theorem outQ_n {j a b : Nat} (hb : b < 2 ^ 31) (h1 : a ≤ j) (h2 : j ≤ b) : outQ (nI j) a b = false := by
  unfold outQ
  rw [decide_eq_false (nI_nlt h1 (by omega)), decide_eq_true (nI_le h2 hb)]
  rfl
/-- a number that is told, one of the first n + 1 -/
def sel (x : Int32) (n : Nat) : Option Nat := if 0 ≤ x.toInt ∧ x.toInt ≤ n then some x.toNatClampNeg else none
theorem sel_n {k n : Nat} (h : k ≤ n) (hn : n < 2 ^ 31) : sel (nI k) n = some k := by
  unfold sel
  rw [nI_toInt (by omega), if_pos (by omega), nI_clamp (by omega)]
theorem sel_some {x : Int32} {n k : Nat} (hn : n < 2 ^ 31) (h : sel x n = some k) : k ≤ n ∧ x = nI k := by
  unfold sel at h
  split at h
  next q =>
    cases h
    have h0 : ¬ x < 0 := fun q2 => by
      have := Int32.lt_iff_toInt_lt.mp q2
      rw [show (0 : Int32).toInt = 0 by decide] at this
      omega
    obtain ⟨j, hj, rfl⟩ := nI_of h0
    rw [nI_clamp hj]
    rw [nI_toInt hj] at q
    exact ⟨by omega, rfl⟩
  · cases h
theorem sel_none {x : Int32} {n : Nat} (h : sel x n = none) : x.toInt < 0 ∨ (n : Int) < x.toInt := by
  unfold sel at h
  split at h
  · cases h
  · omega
/-- a thread that is told -/
def thQ (T : Nat) (x : Int32) : Option Nat := if hasT T x then some x.toNatClampNeg else none
theorem thQ_some {T j : Nat} {x : Int32} (hT : T < 2 ^ 31) (h : thQ T x = some j) : j < T ∧ x = nI j := by
  unfold thQ at h
  split at h
  next q =>
    obtain ⟨i, hi, rfl⟩ := hasT_of hT q
    rw [nI_clamp (by omega)] at h
    cases h
    exact ⟨hi, rfl⟩
  · cases h
theorem thQ_none {T : Nat} {x : Int32} (h : thQ T x = none) : hasT T x = false := by
  unfold thQ at h
  split at h
  · cases h
  next q => simpa using q
theorem thQ_hasT {T : Nat} {x : Int32} : (thQ T x).isSome = hasT T x := by
  unfold thQ
  cases hasT T x <;> rfl
def aWrite (A : yA) (x : Int32) : Int32 × yA := if outQ x 0 255 then (-2, A) else if A.1.length < 48 then (nI (A.1.length + 1), (A.1 ++ [x.toNatClampNeg], A.2)) else (-4, A)
def aWipe (A : yA) : Int32 × yA := (nI A.1.length, ([], A.2))
def aFault (A : yA) : Int32 := (rdB A.1).1
def aBoard (A : yA) : Int32 × yA := if (rdB A.1).1 = -9 then (nI (rdB A.1).2.1, (A.1, (rdB A.1).2, [], fun _ => none, A.2.2.2.2)) else (-3, A)
def thR (P : xP) (j : Nat) (w : Int32) : Int32 := match sel w 5 with
  | some 0 => nI (P.2.2.1 j)
  | some 1 => nI (P.2.1 j)
  | some 2 => nI (cnt P.2.2.2 j)
  | some 3 => nI (lenT P.2.2.2 j)
  | some 4 => opn P j
  | some 5 => bI (mayU P.2.2.2 j)
  | _ => -2
def aThread (A : yA) (x w : Int32) : Int32 := match thQ A.2.1.1 x with
  | none => -1
  | some j => thR A.2.1 j w
def stR (z : List xSt) (i : Nat) (s : xSt) (w : Int32) : Int32 := match sel w 5 with
  | some 0 => nI s.1
  | some 1 => nI s.2.1
  | some 2 => nI s.2.2.1
  | some 3 => nI (crA s.2.1 s.2.2.1 z)
  | some 4 => nI (crA s.2.1 s.2.2.1 (z.drop (i + 1)))
  | some 5 => nI (abv z i)
  | _ => -2
def aStretch (A : yA) (x w : Int32) : Int32 := match thQ A.2.1.2.2.2.length x with
  | none => -1
  | some i => match A.2.1.2.2.2[i]? with
    | none => -1
    | some s => stR A.2.1.2.2.2 i s w
def acQ (A : yA) (Q : xP) : yA := (A.1, Q, (A.2.1 :: A.2.2.1).take 14, A.2.2.2)
def aWind (A : yA) (x y : Int32) : Int32 × yA := match thQ A.2.1.1 x with
  | none => (-1, A)
  | some j => if outQ y 0 11 then (-1, A) else if mayW A.2.1 j y.toNatClampNeg then (nI (crA (A.2.1.2.2.1 j) y.toNatClampNeg A.2.1.2.2.2), acQ A (wnd A.2.1 j y.toNatClampNeg)) else (-3, A)
def aUnwind (A : yA) (x : Int32) : Int32 × yA := match thQ A.2.1.1 x with
  | none => (-1, A)
  | some j => match doU A.2.1 j with
    | none => (-3, A)
    | some Q => (nI (Q.2.2.1 j), acQ A Q)
def aCut (A : yA) (x : Int32) : Int32 × yA := match thQ A.2.1.1 x with
  | none => (-1, A)
  | some j => match doC A.2.1 j with
    | none => (-3, A)
    | some Q => (nI (cnt A.2.1.2.2.2 j), acQ A Q)
def aTurn (A : yA) : Int32 × yA := (nI A.2.1.2.2.2.length, acQ A (trnP A.2.1))
def aBehind (A : yA) : Int32 × yA := (nI A.2.1.2.2.2.length, acQ A (ovrP A.2.1))
def aUndo (A : yA) : Int32 × yA := match A.2.2.1 with
  | [] => (-3, A)
  | Q :: r => (nI r.length, (A.1, Q, r, A.2.2.2))
def aCrossings (A : yA) (x y : Int32) : Int32 := match thQ A.2.1.1 x, thQ A.2.1.1 y with
  | some i, some j => nI (cro A.2.1.2.2.2 i j)
  | _, _ => -1
def aParts (A : yA) : Int32 := nI (prt (jm A.2.1.2.2.2))
def aStrokes (A : yA) : Int32 := nI (stk (jm A.2.1.2.2.2))
def aNext (A : yA) (x w : Int32) : Int32 := match thQ A.2.1.1 x with
  | none => -1
  | some j => match sel w 1 with
    | none => -2
    | some k => match bst A.2.1 j with
      | none => -9
      | some (b, m) => if k = 0 then nI b else nI m
def aStar (A : yA) (x k n w : Int32) : Int32 := match thQ A.2.1.1 x with
  | none => -1
  | some j => if outQ k 1 11 || outQ n 0 12 || outQ w 0 2 then -2 else
    if w = 0 then nI (wst j k.toNatClampNeg n.toNatClampNeg A.2.1).2.2 else if w = 1 then nI ((wst j k.toNatClampNeg n.toNatClampNeg A.2.1).1.2.2.1 j) else nI (wst j k.toNatClampNeg n.toNatClampNeg A.2.1).2.1
def lgQ (n : Nat) (x : Int64) : Bool := decide (x < 0) || decide (lN (10000 ^ n) ≤ x)
def aJudge (A : yA) (n : Int32) (x : Int64) : Int32 := if outQ n 1 4 then -2 else if lgQ n.toNatClampNeg x then -2 else jdL x.toBitVec.toNat n.toNatClampNeg 0 A.2.1
def aSee (A : yA) (x y w : Int32) : Int32 × yA := if outQ y 0 11 then (-1, A) else if outQ x 0 12 || outQ w 0 1 then (-2, A) else if A.2.2.2.2.1.length < 6 then (nI (A.2.2.2.2.1.length + 1), (A.1, A.2.1, A.2.2.1, A.2.2.2.1, A.2.2.2.2.1 ++ [(x.toNatClampNeg, y.toNatClampNeg, w.toNatClampNeg)], A.2.2.2.2.2)) else (-4, A)
def aUnsee (A : yA) : Int32 × yA := (nI A.2.2.2.2.1.length, (A.1, A.2.1, A.2.2.1, A.2.2.2.1, [], A.2.2.2.2.2))
def aStars (A : yA) (w : Int32) : Int32 := match sel w 1 with
  | some 0 => nI (hwm A.2.2.2.2.1)
  | some _ => o9 (fstS A.2.2.2.2.1)
  | none => -2
def aShare (A : yA) (x : Int32) (u : Bool) : Int32 := match thQ A.2.1.1 x with
  | none => -1
  | some j => nI (tld u (tws A.2.1.2.2.2 A.2.1.1 j) 2)
def aRests (A : yA) (x y w : Int32) : Int32 := match thQ A.2.1.1 x, thQ A.2.1.1 y with
  | some i, some j => if i = j then -2 else match sel w 1 with
    | none => -2
    | some 0 => nI (rsN A.2.1 i j)
    | some _ => o9 (rsF A.2.1 i j)
  | _, _ => -1
def aSnaps (A : yA) (v x : Int32) (u : Bool) : Int32 := if outQ v 0 99 || outQ x 0 10 then -2 else nI (tld u (wsn A.2.1.2.2.2 A.2.1.1 v.toNatClampNeg x.toNatClampNeg) (10 ^ A.2.1.1))
def aSeed (A : yA) (x : Int64) : yA := (A.1, A.2.1, A.2.2.1, A.2.2.2.1, A.2.2.2.2.1, x)
/-- so many years: the seed behind them, what was crossed together -/
def yrG (f : Int64 → Int64) (g : xP → Int64 → xP) : Nat → Int64 → xP → Nat → Int64 × Nat
  | 0, x, _, c => (x, c)
  | k + 1, x, P, c => yrG f g k (f x) (g P (f x)) (c + crz (g P (f x)).2.2.2)
theorem yrG_s (f : Int64 → Int64) (g : xP → Int64 → xP) (k : Nat) (x : Int64) (P : xP) (c : Nat) : yrG f g (k + 1) x P c = yrG f g k (f x) (g P (f x)) (c + crz (g P (f x)).2.2.2) := rfl
def lvX (P : xP) (x : Int64) : xP := lvy P (drw x)
def yrs (k : Nat) (x : Int64) (P : xP) (c : Nat) : Int64 × Nat := yrG nxs lvX k x P c
theorem yrs_s (k : Nat) (x : Int64) (P : xP) (c : Nat) : yrs (k + 1) x P c = yrs k (nxs x) (lvX P (nxs x)) (c + crz (lvX P (nxs x)).2.2.2) := yrG_s nxs lvX k x P c
def aYears (A : yA) (m : Int32) : Int32 × yA := if outQ m 1 30 then (-2, A) else (nI (yrs m.toNatClampNeg A.2.2.2.2.2 A.2.1 0).2, (A.1, A.2.1, A.2.2.1, A.2.2.2.1, A.2.2.2.2.1, (yrs m.toNatClampNeg A.2.2.2.2.2 A.2.1 0).1))
def aKeep (A : yA) (s : Int32) : Int32 × yA := match sel s 1 with
  | none => (-1, A)
  | some k => (nI A.2.1.2.2.2.length, (A.1, A.2.1, A.2.2.1, kpS A.2.2.2.1 k A.2.1, A.2.2.2.2))
def aAgain (A : yA) (s : Int32) : Int32 × yA := match sel s 1 with
  | none => (-1, A)
  | some k => match A.2.2.2.1 k with
    | none => (-3, A)
    | some Q => (nI Q.2.2.2.length, (A.1, Q, [], A.2.2.2))
def aCount (A : yA) (w : Int32) : Int32 := match sel w 7 with
  | some 0 => nI A.1.length
  | some 1 => nI A.2.1.1
  | some 2 => nI A.2.1.2.2.2.length
  | some 3 => nI (crz A.2.1.2.2.2)
  | some 4 => ends A.2.1.2.2.2
  | some 5 => nI (lenA A.2.1.2.2.2)
  | some 6 => nI A.2.2.1.length
  | some 7 => nI A.2.2.2.2.1.length
  | _ => -2
/-- the object's cells hold it -/
def IC (σ : xS) (A : yA) : Prop := Tx σ A.1 ∧ Bd σ 4 A.2.1 ∧ Hs σ A.2.2.1 ∧ Sh σ A.2.2.2.1 ∧ Sn σ A.2.2.2.2.1 ∧ σ.2 1 9 = A.2.2.2.2.2
def FC (σ t : xS) : Prop := (∀ c, 110 ≤ c → t.1 c = σ.1 c) ∧ ∀ c, c ≠ 1 → t.2 c = σ.2 c
theorem FC.rf (σ : xS) : FC σ σ := ⟨fun _ _ => rfl, fun _ _ => rfl⟩
theorem FC.of {σ t : xS} (h1 : ∀ c, 110 ≤ c → t.1 c = σ.1 c) (h2 : t.2 = σ.2) : FC σ t := ⟨h1, fun _ _ => by rw [h2]⟩
theorem FC.tr {σ t u : xS} (h1 : FC σ t) (h2 : FC t u) : FC σ u := ⟨fun c hc => (h2.1 c hc).trans (h1.1 c hc), fun c hc => (h2.2 c hc).trans (h1.2 c hc)⟩
theorem Tx.to {σ t : xS} {tx : List Nat} (h : Tx σ tx) (e1 : t.1 2 1 = σ.1 2 1) (e2 : t.1 3 = σ.1 3) : Tx t tx := ⟨by rw [e1]; exact h.1, h.2.1, by rw [e2]; exact h.2.2.1, h.2.2.2⟩
theorem Bd.to {σ t : xS} {B : Nat} {P : xP} (h : Bd σ B P) (e : ∀ c, B ≤ c → c ≤ B + 4 → t.1 c = σ.1 c) : Bd t B P := by
  obtain ⟨h1, ⟨a1, a2, a3⟩, ⟨b1, b2, b3, b4⟩, h4⟩ := h
  refine ⟨h1, ⟨?_, a2, fun x hx => ?_⟩, ⟨?_, b2, fun i s hs => ?_, b4⟩, ?_⟩
  · rw [e B (by omega) (by omega)]; exact a1
  · rw [e (B + 1) (by omega) (by omega), e (B + 2) (by omega) (by omega), e (B + 3) (by omega) (by omega)]; exact a3 x hx
  · rw [e B (by omega) (by omega)]; exact b1
  · rw [e (B + 4) (by omega) (by omega)]; exact b3 i s hs
  · rw [e B (by omega) (by omega)]; exact h4
theorem Hs.to {σ t : xS} {ac : List xP} (h : Hs σ ac) (e1 : t.1 14 = σ.1 14) (e2 : ∀ c, 16 ≤ c → c ≤ 85 → t.1 c = σ.1 c) : Hs t ac := by
  obtain ⟨f, hf, g1, g2, g3, g4⟩ := h
  refine ⟨f, hf, by rw [e1]; exact g1, by rw [e1]; exact g2, g3, fun i P hP => (g4 i P hP).to (fun c c1 c2 => e2 c ?_ ?_)⟩
  · have := hps_rng f (ac.length - 1 - i)
    omega
  · have := hps_rng f (ac.length - 1 - i)
    omega
theorem Sh.to {σ t : xS} {kp : Nat → Option xP} (h : Sh σ kp) (e : ∀ c, 88 ≤ c → c ≤ 98 → t.1 c = σ.1 c) : Sh t kp := by
  intro s hs
  obtain ⟨h1, h2⟩ := h s hs
  exact ⟨by rw [e 88 (by omega) (by omega)]; exact h1, fun P hP => (h2 P hP).to (fun c c1 c2 => e c (by omega) (by omega))⟩
theorem Sn.to {σ t : xS} {sn : List xSn} (h : Sn σ sn) (e : ∀ c, 99 ≤ c → c ≤ 102 → t.1 c = σ.1 c) : Sn t sn := by
  obtain ⟨h1, h2, h3⟩ := h
  refine ⟨by rw [e 99 (by omega) (by omega)]; exact h1, h2, fun i q hq => ?_⟩
  rw [e 100 (by omega) (by omega), e 101 (by omega) (by omega), e 102 (by omega) (by omega)]
  exact h3 i q hq
/-- only what is tried on has changed -/
theorem IC.q {σ t : xS} {A : yA} (h : IC σ A) (h2 : t.1 2 1 = σ.1 2 1) (hc : ∀ c, c ≠ 2 → (c < 9 ∨ 13 < c) → c < 103 → t.1 c = σ.1 c) (e : t.2 1 9 = σ.2 1 9) : IC t A := by
  obtain ⟨a1, a2, a3, a4, a5, a6⟩ := h
  exact ⟨a1.to h2 (hc 3 (by omega) (by omega) (by omega)), a2.to (fun c c1 c2 => hc c (by omega) (by omega) (by omega)), a3.to (hc 14 (by omega) (by omega) (by omega)) (fun c c1 c2 => hc c (by omega) (by omega) (by omega)), a4.to (fun c c1 c2 => hc c (by omega) (by omega) (by omega)), a5.to (fun c c1 c2 => hc c (by omega) (by omega) (by omega)), e.trans a6⟩
