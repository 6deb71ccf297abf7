/-! a board is read, further -/
def foldN {α : Type} (step : α → Nat → α) : Nat → Nat → α → α
  | _, 0, a => a
  | i, k + 1, a => foldN step (i + 1) k (step a i)
theorem goN {α : Type} (N : Nat) (step : α → Nat → α) (E : Nat → α → Prop) (R : α) (hend : E N R) (hstep : ∀ i a, i < N → E (i + 1) (step a i) → E i a) : ∀ k i a, i + k = N → foldN step i k a = R → E i a := by
  intro k
  induction k with
  | zero =>
    intro i a hi hR
    have e : i = N := by omega
    subst e
    have hR : a = R := hR
    rw [hR]
    exact hend
  | succ k ih =>
    intro i a hi hR
    exact hstep i a (by omega) (ih (i + 1) (step a i) (by omega) hR)
/-- nails to which it may go, as bits -/
def opn (P : xP) (j : Nat) : Int32 := foldN (fun a n => if mayW P j n then a ||| (nI 1 <<< (nI n &&& 31)) else a) 0 12 (nI 0)
/-- nails at which any ends, as bits -/
def ends (z : List xSt) : Int32 := z.foldl (fun a s => a ||| (nI 1 <<< (nI s.2.1 &&& 31) ||| nI 1 <<< (nI s.2.2.1 &&& 31))) (nI 0)
abbrev crA (f o : Nat) (z : List xSt) : Nat := crc (fun _ => true) f o z
/-- the nail by which most are crossed, and how many -/
def bstS (P : xP) (j : Nat) (a : Option (Nat × Nat)) (n : Nat) : Option (Nat × Nat) := if mayW P j n then (match a with
  | none => some (n, crA (P.2.2.1 j) n P.2.2.2)
  | some (b, m) => if m < crA (P.2.2.1 j) n P.2.2.2 then some (n, crA (P.2.2.1 j) n P.2.2.2) else some (b, m)) else a
def bst (P : xP) (j : Nat) : Option (Nat × Nat) := foldN (bstS P j) 0 12 none
def oI (a : Option Nat) : Int32 := match a with
  | none => -1
  | some n => nI n
theorem foldN_inv {α : Type} {step : α → Nat → α} (I : α → Prop) (hs : ∀ a i, I a → I (step a i)) : ∀ k i a, I a → I (foldN step i k a) := by
  intro k
  induction k with
  | zero => intro i a h; exact h
  | succ k ih => intro i a h; exact ih (i + 1) (step a i) (hs a i h)
theorem bst_ok {P : xP} {j b m : Nat} (h : bst P j = some (b, m)) : mayW P j b = true ∧ m = crA (P.2.2.1 j) b P.2.2.2 := by
  have : ∀ b m, bst P j = some (b, m) → mayW P j b = true ∧ m = crA (P.2.2.1 j) b P.2.2.2 := by
    refine foldN_inv (fun a : Option (Nat × Nat) => ∀ b m, a = some (b, m) → mayW P j b = true ∧ m = crA (P.2.2.1 j) b P.2.2.2) ?_ 12 0 none (fun b m h => by cases h)
    intro a i ih b m h
    unfold bstS at h
    by_cases hm : mayW P j i = true
    · rw [if_pos hm] at h
      match a, ih, h with
      | none, ih, h => cases h; exact ⟨hm, rfl⟩
      | some (b', m'), ih, h =>
        dsimp only at h
        split at h
        · cases h; exact ⟨hm, rfl⟩
        · cases h; exact ih _ _ rfl
    · rw [if_neg hm] at h
      exact ih b m h
  exact this b m h
theorem mayW_lt {P : xP} {j n : Nat} (h : mayW P j n = true) : j < P.1 ∧ n < 12 ∧ n ≠ P.2.2.1 j ∧ cnt P.2.2.2 j < 12 := by
  unfold mayW at h
  simp only [Bool.and_eq_true, decide_eq_true_eq, Bool.not_eq_true', decide_eq_false_iff_not] at h
  exact ⟨h.1.1.1.1, by omega, h.1.1.2, h.1.2⟩
/-- where the last stretch of a thread lies -/
def las (z : List xSt) (j : Nat) : Option Nat := z.findIdx? (fun s => s.1 == j && s.2.2.2 + 1 == cnt z j)
theorem las_some {z : List xSt} {j i : Nat} (h : las z j = some i) : ∃ s, z[i]? = some s ∧ s.1 = j ∧ s.2.2.2 + 1 = cnt z j := by
  unfold las at h
  obtain ⟨hl, hp, -⟩ := List.findIdx?_eq_some_iff_getElem.mp h
  refine ⟨z[i], List.getElem?_eq_getElem hl, ?_⟩
  simpa using hp
def wth (z : List xSt) (j : Nat) : Int32 := match las z j with
  | none => nI 0
  | some i => match z[i]? with
    | none => nI 0
    | some s => nI 3 * nI (crA s.2.1 s.2.2.1 z) - nI (lnb s.2.1 s.2.2.1) / nI 5
def mayU (z : List xSt) (j : Nat) : Bool := match las z j with
  | none => false
  | some i => match z[i]? with
    | none => false
    | some s => decide (crA s.2.1 s.2.2.1 (z.drop (i + 1)) = 0)
/-- how many times stretches of two threads cross; of one with itself each two once -/
def croS (z : List xSt) (a b : Nat) : Nat → List xSt → Nat
  | _, [] => 0
  | i, s :: r => (if s.1 = a then crc (fun t => t == b) s.2.1 s.2.2.1 (z.drop (if a = b then i + 1 else 0)) else 0) + croS z a b (i + 1) r
def cro (z : List xSt) (a b : Nat) : Nat := croS z a b 0 z
theorem nI_nm1 {n : Nat} (h : n < 2 ^ 31) : ¬ nI n ≤ -1 := fun q => by
  have q2 := Int32.le_iff_toInt_le.mp q
  rw [nI_toInt h, show (-1 : Int32).toInt = -1 by decide] at q2
  omega
section R2
variable {xs : Nat → Int32} {L : Nat} {σ : xS} {B : Nat} {P : xP}
theorem E_openNails (hB : IsBd B) (h : Th σ B P) (hz : Ls σ B P.2.2.2) {j : Nat} (hj : j < 2 ^ 31) : Cl xs L mX0_openNails [.ref B, .int (nI j)] GS σ GS (pI σ (opn P j)) := by
  show Ev xs L mX0_openNails 0 [.ref B, .int (nI j), .null, .null] [] GS σ GS _
  have key := goN 12 (fun a n => if mayW P j n then a ||| (nI 1 <<< (nI n &&& 31)) else a) (fun i a => Ev xs L mX0_openNails 4 [.ref B, .int (nI j), .int a, .int (nI i)] [] GS σ GS (pI σ (opn P j))) (opn P j) (by
      refine xe_iload_n dX0_openNails_4 rfl ?_
      refine xe_bipush (v := nI 12) dX0_openNails_5 (by decide) ?_
      refine xe_icmp_ge 31 dX0_openNails_7 (by decide) (fun _ => ?_) (fun c => absurd (by decide) c)
      refine xe_iload_n dX0_openNails_31 rfl ?_
      exact e_iret dX0_openNails_32 rfl rfl) (by
      intro i a hi k
      refine xe_iload_n dX0_openNails_4 rfl ?_
      refine xe_bipush (v := nI 12) dX0_openNails_5 (by decide) ?_
      refine xe_icmp_ge 31 dX0_openNails_7 (by decide) (fun c => absurd c (nI_ge hi (by omega))) (fun _ => ?_)
      refine xe_aload_n dX0_openNails_10 rfl ?_
      refine xe_iload_n dX0_openNails_11 rfl ?_
      refine xe_iload_n dX0_openNails_12 rfl ?_
      refine e_callVp (E_mayWind hB h hz hj (by omega)) dX0_openNails_13 kvX0_74 (bd_k hB) rfl ?_
      refine xz_if_eq 25 dX0_openNails_16 (by decide) (fun c => ?_) (fun c => ?_)
      · rw [c] at k
        refine xe_inc dX0_openNails_25 rfl (by decide) ?_
        refine xe_goto 4 dX0_openNails_28 (by decide) ?_
        rw [nI_1]
        exact k
      · rw [c] at k
        refine xe_iload_n dX0_openNails_19 rfl ?_
        refine xe_iconst (v := nI 1) dX0_openNails_20 (by decide) ?_
        refine xe_iload_n dX0_openNails_21 rfl ?_
        refine xe_ishl dX0_openNails_22 ?_
        refine xe_ior dX0_openNails_23 ?_
        refine xe_istore_n dX0_openNails_24 (by decide) ?_
        refine xe_inc dX0_openNails_25 rfl (by decide) ?_
        refine xe_goto 4 dX0_openNails_28 (by decide) ?_
        rw [nI_1]
        exact k) 12 0 (nI 0) rfl rfl
  refine xe_iconst (v := nI 0) dX0_openNails_0 (by decide) ?_
  refine xe_istore_n dX0_openNails_1 (by decide) ?_
  refine xe_iconst (v := nI 0) dX0_openNails_2 (by decide) ?_
  refine xe_istore_n dX0_openNails_3 (by decide) ?_
  exact key
theorem E_endNails (hB : IsBd B) {z : List xSt} (hz : Ls σ B z) : Cl xs L mX0_endNails [.ref B] GS σ GS (pI σ (ends z)) := by
  show Ev xs L mX0_endNails 0 [.ref B, .null, .null] [] GS σ GS _
  have h48 := hz.2.1
  have key := goZ z (fun a s => a ||| (nI 1 <<< (nI s.2.1 &&& 31) ||| nI 1 <<< (nI s.2.2.1 &&& 31))) (fun i a => Ev xs L mX0_endNails 4 [.ref B, .int a, .int (nI i)] [] GS σ GS (pI σ (ends z))) (ends z) (by
      refine xe_iload_n dX0_endNails_4 rfl ?_
      refine xe_aload_n dX0_endNails_5 rfl ?_
      refine e_getI dX0_endNails_6 fdX0_28 rfl (bd_k hB) hz.1 ?_
      refine xe_icmp_ge 36 dX0_endNails_9 (by decide) (fun _ => ?_) (fun c => absurd (nI_le (Nat.le_refl _) (by omega)) c)
      refine xe_iload_n dX0_endNails_36 rfl ?_
      exact e_iret dX0_endNails_37 rfl rfl) (by
      intro i s a hs k
      have hl := Ls.lt hs
      refine xe_iload_n dX0_endNails_4 rfl ?_
      refine xe_aload_n dX0_endNails_5 rfl ?_
      refine e_getI dX0_endNails_6 fdX0_28 rfl (bd_k hB) hz.1 ?_
      refine xe_icmp_ge 36 dX0_endNails_9 (by decide) (fun c => absurd c (nI_ge hl (by omega))) (fun _ => ?_)
      refine xe_iload_n dX0_endNails_12 rfl ?_
      refine xe_iconst (v := nI 1) dX0_endNails_13 (by decide) ?_
      refine xe_aload_n dX0_endNails_14 rfl ?_
      refine xe_iload_n dX0_endNails_15 rfl ?_
      refine e_callVp (E_fromAt hB hz hs) dX0_endNails_16 kvX0_48 (bd_k hB) rfl ?_
      refine xe_ishl dX0_endNails_19 ?_
      refine xe_iconst (v := nI 1) dX0_endNails_20 (by decide) ?_
      refine xe_aload_n dX0_endNails_21 rfl ?_
      refine xe_iload_n dX0_endNails_22 rfl ?_
      refine e_callVp (E_toAt hB hz hs) dX0_endNails_23 kvX0_51 (bd_k hB) rfl ?_
      refine xe_ishl dX0_endNails_26 ?_
      refine xe_ior dX0_endNails_27 ?_
      refine xe_ior dX0_endNails_28 ?_
      refine xe_istore_n dX0_endNails_29 (by decide) ?_
      refine xe_inc dX0_endNails_30 rfl (by decide) ?_
      refine xe_goto 4 dX0_endNails_33 (by decide) ?_
      rw [nI_1]
      exact k) z.length 0 (nI 0) (by omega) rfl
  refine xe_iconst (v := nI 0) dX0_endNails_0 (by decide) ?_
  refine xe_istore_n dX0_endNails_1 (by decide) ?_
  refine xe_iconst (v := nI 0) dX0_endNails_2 (by decide) ?_
  refine xe_istore_n dX0_endNails_3 (by decide) ?_
  exact key
theorem E_bestNail (hB : IsBd B) (h : Th σ B P) (hz : Ls σ B P.2.2.2) {j : Nat} (hj : j < P.1) : Cl xs L mX0_bestNail [.ref B, .int (nI j)] GS σ GS (pI σ (oI ((bst P j).map (fun q => q.1)))) := by
  show Ev xs L mX0_bestNail 0 [.ref B, .int (nI j), .null, .null, .null, .null] [] GS σ GS _
  have h4 := h.2.1
  have h48 := hz.2.1
  have key := goN 12 (bstS P j) (fun i a => (∀ b m, a = some (b, m) → b < 12 ∧ m ≤ 48) → ∀ w : Value, Ev xs L mX0_bestNail 7 [.ref B, .int (nI j), .int (oI (a.map (fun q => q.1))), .int (oI (a.map (fun q => q.2))), .int (nI i), w] [] GS σ GS (pI σ (oI ((bst P j).map (fun q => q.1))))) (bst P j) (by
      intro _ w
      refine xe_iload dX0_bestNail_7 rfl ?_
      refine xe_bipush (v := nI 12) dX0_bestNail_9 (by decide) ?_
      refine xe_icmp_ge 55 dX0_bestNail_11 (by decide) (fun _ => ?_) (fun c => absurd (by decide) c)
      refine xe_iload_n dX0_bestNail_55 rfl ?_
      exact e_iret dX0_bestNail_56 rfl rfl) (by
      intro i a hi k hI w
      refine xe_iload dX0_bestNail_7 rfl ?_
      refine xe_bipush (v := nI 12) dX0_bestNail_9 (by decide) ?_
      refine xe_icmp_ge 55 dX0_bestNail_11 (by decide) (fun c => absurd c (nI_ge hi (by omega))) (fun _ => ?_)
      refine xe_aload_n dX0_bestNail_14 rfl ?_
      refine xe_iload_n dX0_bestNail_15 rfl ?_
      refine xe_iload dX0_bestNail_16 rfl ?_
      refine e_callVp (E_mayWind hB h hz (by omega) (by omega)) dX0_bestNail_18 kvX0_74 (bd_k hB) rfl ?_
      refine xz_if_eq 49 dX0_bestNail_21 (by decide) (fun c => ?_) (fun c => ?_)
      · have e : bstS P j a i = a := by unfold bstS; rw [c]; rfl
        rw [e] at k
        refine xe_inc dX0_bestNail_49 rfl (by decide) ?_
        refine xe_goto 7 dX0_bestNail_52 (by decide) ?_
        rw [nI_1]
        exact k hI w
      · refine xe_aload_n dX0_bestNail_24 rfl ?_
        refine xe_aload_n dX0_bestNail_25 rfl ?_
        refine xe_iload_n dX0_bestNail_26 rfl ?_
        refine e_callVp (E_nailOf hB h hj) dX0_bestNail_27 kvX0_78 (bd_k hB) rfl ?_
        refine xe_iload dX0_bestNail_30 rfl ?_
        refine e_callVp (E_crossedBetween hB hz (h.2.2 j hj).2.2.2.2.1 hi) dX0_bestNail_32 kvX0_81 (bd_k hB) rfl ?_
        have hcl := crc_le (fun _ => true) (P.2.2.1 j) i P.2.2.2
        have hcA : crA (P.2.2.1 j) i P.2.2.2 ≤ P.2.2.2.length := hcl
        refine xe_istore dX0_bestNail_35 (by decide) ?_
        refine xe_iload dX0_bestNail_37 rfl ?_
        refine xe_iload_n dX0_bestNail_39 rfl ?_
        match a, hI, k with
        | none, hI, k =>
          have e : bstS P j none i = some (i, crA (P.2.2.1 j) i P.2.2.2) := by unfold bstS; rw [c]; rfl
          rw [e] at k
          refine xe_icmp_le 49 dX0_bestNail_40 (by decide) (fun c => absurd c (nI_nm1 (by omega))) (fun _ => ?_)
          refine xe_iload dX0_bestNail_43 rfl ?_
          refine xe_istore_n dX0_bestNail_45 (by decide) ?_
          refine xe_iload dX0_bestNail_46 rfl ?_
          refine xe_istore_n dX0_bestNail_48 (by decide) ?_
          refine xe_inc dX0_bestNail_49 rfl (by decide) ?_
          refine xe_goto 7 dX0_bestNail_52 (by decide) ?_
          rw [nI_1]
          exact k (fun b m hh => by cases hh; exact ⟨hi, by omega⟩) _
        | some (b, m), hI, k =>
          obtain ⟨hb12, hm48⟩ := hI b m rfl
          have e : bstS P j (some (b, m)) i = if m < crA (P.2.2.1 j) i P.2.2.2 then some (i, crA (P.2.2.1 j) i P.2.2.2) else some (b, m) := by unfold bstS; rw [c]; rfl
          rw [e] at k
          show Ev xs L mX0_bestNail 40 _ [.int (nI m), .int (nI (crA (P.2.2.1 j) i P.2.2.2))] GS σ GS _
          refine xn_icmp_le 49 dX0_bestNail_40 (by decide) (by omega) (by omega) (fun c2 => ?_) (fun c2 => ?_)
          · rw [if_neg (by omega)] at k
            refine xe_inc dX0_bestNail_49 rfl (by decide) ?_
            refine xe_goto 7 dX0_bestNail_52 (by decide) ?_
            rw [nI_1]
            exact k hI _
          · rw [if_pos c2] at k
            refine xe_iload dX0_bestNail_43 rfl ?_
            refine xe_istore_n dX0_bestNail_45 (by decide) ?_
            refine xe_iload dX0_bestNail_46 rfl ?_
            refine xe_istore_n dX0_bestNail_48 (by decide) ?_
            refine xe_inc dX0_bestNail_49 rfl (by decide) ?_
            refine xe_goto 7 dX0_bestNail_52 (by decide) ?_
            rw [nI_1]
            exact k (fun b m hh => by cases hh; exact ⟨hi, by omega⟩) _) 12 0 none rfl rfl (fun b m hh => by cases hh) .null
  refine xe_iconst (v := -1) dX0_bestNail_0 (by decide) ?_
  refine xe_istore_n dX0_bestNail_1 (by decide) ?_
  refine xe_iconst (v := -1) dX0_bestNail_2 (by decide) ?_
  refine xe_istore_n dX0_bestNail_3 (by decide) ?_
  refine xe_iconst (v := nI 0) dX0_bestNail_4 (by decide) ?_
  refine xe_istore dX0_bestNail_5 (by decide) ?_
  exact key
theorem E_lastOf (hB : IsBd B) (h : Th σ B P) (hz : Ls σ B P.2.2.2) (hc0 : ∀ s ∈ P.2.2.2, s.1 < P.1) {j : Nat} (hj : j < 2 ^ 31) : Cl xs L mX0_lastOf [.ref B, .int (nI j)] GS σ GS (pI σ (oI (las P.2.2.2 j))) := by
  show Ev xs L mX0_lastOf 0 [.ref B, .int (nI j), .null] [] GS σ GS _
  have h4 := h.2.1
  have h48 := hz.2.1
  refine xe_aload_n dX0_lastOf_0 rfl ?_
  refine xe_iload_n dX0_lastOf_1 rfl ?_
  refine e_callVp (E_hasThreadN hB h hj) dX0_lastOf_2 kvX0_40 (bd_k hB) rfl ?_
  refine xz_if_ne 10 dX0_lastOf_5 (by decide) (fun c5 => ?_) (fun c5 => ?_)
  · have hjT : j < P.1 := by simpa using c5
    obtain ⟨t1, t2, t3, t4, t5, t6⟩ := h.2.2 j hjT
    have key : ∀ k i, i + k = P.2.2.2.length → (∀ q s, q < i → P.2.2.2[q]? = some s → ¬ (s.1 = j ∧ s.2.2.2 + 1 = cnt P.2.2.2 j)) → Ev xs L mX0_lastOf 12 [.ref B, .int (nI j), .int (nI i)] [] GS σ GS (pI σ (oI (las P.2.2.2 j))) := by
      intro k
      induction k with
      | zero =>
        intro i hi hno
        have e : las P.2.2.2 j = none := by
          refine List.findIdx?_eq_none_iff.mpr (fun s hs => ?_)
          obtain ⟨q, hq⟩ := List.getElem?_of_mem hs
          have := hno q s (by have := Ls.lt hq; omega) hq
          simp only [Bool.and_eq_false_iff, beq_eq_false_iff_ne]
          by_cases h1 : s.1 = j
          · exact Or.inr (fun h2 => this ⟨h1, h2⟩)
          · exact Or.inl h1
        rw [e]
        refine xe_iload_n dX0_lastOf_12 rfl ?_
        refine xe_aload_n dX0_lastOf_13 rfl ?_
        refine e_getI dX0_lastOf_14 fdX0_28 rfl (bd_k hB) hz.1 ?_
        refine xe_icmp_ge 53 dX0_lastOf_17 (by decide) (fun _ => ?_) (fun c => absurd (nI_le (by omega) (by omega)) c)
        refine xe_iconst (v := -1) dX0_lastOf_53 (by decide) ?_
        exact e_iret dX0_lastOf_54 rfl rfl
      | succ k ih =>
        intro i hi hno
        have hl : i < P.2.2.2.length := by omega
        have hs : P.2.2.2[i]? = some P.2.2.2[i] := List.getElem?_eq_getElem hl
        generalize P.2.2.2[i] = s at hs
        obtain ⟨o1, o2, o3, o4⟩ := hz.so hs
        have go : ¬ (s.1 = j ∧ s.2.2.2 + 1 = cnt P.2.2.2 j) → Ev xs L mX0_lastOf 47 [.ref B, .int (nI j), .int (nI i)] [] GS σ GS (pI σ (oI (las P.2.2.2 j))) := by
          intro hn
          refine xe_inc dX0_lastOf_47 rfl (by decide) ?_
          refine xe_goto 12 dX0_lastOf_50 (by decide) ?_
          rw [nI_1]
          refine ih (i + 1) (by omega) (fun q u hq hu => ?_)
          by_cases e : q = i
          · subst e
            rw [hs] at hu
            cases hu
            exact hn
          · exact hno q u (by omega) hu
        refine xe_iload_n dX0_lastOf_12 rfl ?_
        refine xe_aload_n dX0_lastOf_13 rfl ?_
        refine e_getI dX0_lastOf_14 fdX0_28 rfl (bd_k hB) hz.1 ?_
        refine xe_icmp_ge 53 dX0_lastOf_17 (by decide) (fun c => absurd c (nI_ge hl (by omega))) (fun _ => ?_)
        refine xe_aload_n dX0_lastOf_20 rfl ?_
        refine xe_iload_n dX0_lastOf_21 rfl ?_
        refine e_callVp (E_threadAt hB hz hs) dX0_lastOf_22 kvX0_44 (bd_k hB) rfl ?_
        refine xe_iload_n dX0_lastOf_25 rfl ?_
        refine xn_icmp_ne 47 dX0_lastOf_26 (by decide) (by omega) (by omega) (fun c26 => ?_) (fun c26 => ?_)
        · exact go (fun q => c26 q.1)
        refine xe_aload_n dX0_lastOf_29 rfl ?_
        refine xe_iload_n dX0_lastOf_30 rfl ?_
        refine e_callVp (E_placeAt hB hz hs) dX0_lastOf_31 kvX0_101 (bd_k hB) rfl ?_
        refine xe_aload_n dX0_lastOf_34 rfl ?_
        refine e_getA dX0_lastOf_35 fdX0_18 rfl (bd_k hB) (bd_r2 hB) ?_
        refine xe_iload_n dX0_lastOf_38 rfl ?_
        refine e_iald dX0_lastOf_39 (bd_k3 hB) (bd_n3 hB) (by omega) (by decide) t3 ?_
        refine xe_iconst (v := nI 1) dX0_lastOf_40 (by decide) ?_
        have hpos : 0 < cnt P.2.2.2 j := List.countP_pos_iff.mpr ⟨s, List.mem_of_getElem? hs, by simp [c26]⟩
        refine xe_isub dX0_lastOf_41 ?_
        rw [pk_sub (by omega)]
        refine xn_icmp_ne 47 dX0_lastOf_42 (by decide) (by omega) (by omega) (fun c42 => ?_) (fun c42 => ?_)
        · exact go (fun q => c42 (by omega))
        refine xe_iload_n dX0_lastOf_45 rfl ?_
        refine e_iret dX0_lastOf_46 rfl ?_
        have e : las P.2.2.2 j = some i := by
          refine List.findIdx?_eq_some_iff_getElem.mpr ⟨hl, ?_, fun q hq => ?_⟩
          · have : P.2.2.2[i] = s := Option.some.inj ((List.getElem?_eq_getElem hl).symm.trans hs)
            rw [this]
            simp only [Bool.and_eq_true, beq_iff_eq]
            exact ⟨c26, by omega⟩
          · have hq2 : P.2.2.2[q]? = some P.2.2.2[q] := List.getElem?_eq_getElem (by omega)
            have := hno q _ hq hq2
            simp only [Bool.and_eq_true, beq_iff_eq]
            exact this
        rw [e]
        rfl
    refine xe_iconst (v := nI 0) dX0_lastOf_10 (by decide) ?_
    refine xe_istore_n dX0_lastOf_11 (by decide) ?_
    exact key P.2.2.2.length 0 (by omega) (fun q s hq => absurd hq (Nat.not_lt_zero _))
  · have hjT : ¬ j < P.1 := by simpa using c5
    refine xe_iconst (v := -1) dX0_lastOf_8 (by decide) ?_
    refine e_iret dX0_lastOf_9 rfl ?_
    have e : las P.2.2.2 j = none := by
      refine List.findIdx?_eq_none_iff.mpr (fun s hs => ?_)
      have := hc0 s hs
      have h1 : ¬ s.1 = j := by omega
      simp [h1]
    rw [e]
    rfl
theorem E_worthOf (hB : IsBd B) (h : Th σ B P) (hz : Ls σ B P.2.2.2) (hc0 : ∀ s ∈ P.2.2.2, s.1 < P.1) {j : Nat} (hj : j < 2 ^ 31) : Cl xs L mX0_worthOf [.ref B, .int (nI j)] GS σ GS (pI σ (wth P.2.2.2 j)) := by
  show Ev xs L mX0_worthOf 0 [.ref B, .int (nI j), .null] [] GS σ GS _
  have h48 := hz.2.1
  refine xe_aload_n dX0_worthOf_0 rfl ?_
  refine xe_iload_n dX0_worthOf_1 rfl ?_
  refine e_callVp (E_lastOf hB h hz hc0 hj) dX0_worthOf_2 kvX0_104 (bd_k hB) rfl ?_
  cases hl : las P.2.2.2 j with
  | none =>
    refine xe_istore_n dX0_worthOf_5 (by decide) ?_
    refine xe_iload_n dX0_worthOf_6 rfl ?_
    refine xe_iconst (v := -1) dX0_worthOf_7 (by decide) ?_
    refine xe_icmp_ne 13 dX0_worthOf_8 (by decide) (fun c => absurd c (fun q => q rfl)) (fun _ => ?_)
    refine xe_iconst (v := nI 0) dX0_worthOf_11 (by decide) ?_
    exact e_iret dX0_worthOf_12 rfl (by unfold wth; rw [hl])
  | some i =>
    obtain ⟨s, hs, -⟩ := las_some hl
    have hil := Ls.lt hs
    obtain ⟨o1, o2, o3, o4⟩ := hz.so hs
    refine xe_istore_n dX0_worthOf_5 (by decide) ?_
    refine xe_iload_n dX0_worthOf_6 rfl ?_
    refine xe_iconst (v := -1) dX0_worthOf_7 (by decide) ?_
    refine xe_icmp_ne 13 dX0_worthOf_8 (by decide) (fun _ => ?_) (fun c => absurd c (nI_m1 (by omega)))
    refine xe_iconst (v := nI 3) dX0_worthOf_13 (by decide) ?_
    refine xe_aload_n dX0_worthOf_14 rfl ?_
    refine xe_iconst (v := nI 0) dX0_worthOf_15 (by decide) ?_
    refine xe_iload_n dX0_worthOf_16 rfl ?_
    refine e_callVp (E_crossingFrom hB hz hs (l := 0) (Nat.zero_le _)) dX0_worthOf_17 kvX0_107 (bd_k hB) rfl ?_
    refine xe_imul dX0_worthOf_20 ?_
    refine xe_aload_n dX0_worthOf_21 rfl ?_
    refine xe_iload_n dX0_worthOf_22 rfl ?_
    refine e_callVp (E_fromAt hB hz hs) dX0_worthOf_23 kvX0_48 (bd_k hB) rfl ?_
    refine xe_aload_n dX0_worthOf_26 rfl ?_
    refine xe_iload_n dX0_worthOf_27 rfl ?_
    refine e_callVp (E_toAt hB hz hs) dX0_worthOf_28 kvX0_51 (bd_k hB) rfl ?_
    refine e_callSp (E_lengthBetween o2 o3) dX0_worthOf_31 ksX0_54 rfl ?_
    refine xe_iconst (v := nI 5) dX0_worthOf_34 (by decide) ?_
    refine xe_idiv dX0_worthOf_35 (by decide) ?_
    refine xe_isub dX0_worthOf_36 ?_
    exact e_iret dX0_worthOf_37 rfl (by unfold wth; rw [hl]; dsimp only; rw [hs]; rfl)
theorem E_mayUnwind (hB : IsBd B) (h : Th σ B P) (hz : Ls σ B P.2.2.2) (hc0 : ∀ s ∈ P.2.2.2, s.1 < P.1) {j : Nat} (hj : j < 2 ^ 31) : Cl xs L mX0_mayUnwind [.ref B, .int (nI j)] GS σ GS (pI σ (bI (mayU P.2.2.2 j))) := by
  show Ev xs L mX0_mayUnwind 0 [.ref B, .int (nI j), .null] [] GS σ GS _
  have h48 := hz.2.1
  refine xe_aload_n dX0_mayUnwind_0 rfl ?_
  refine xe_iload_n dX0_mayUnwind_1 rfl ?_
  refine e_callVp (E_lastOf hB h hz hc0 hj) dX0_mayUnwind_2 kvX0_104 (bd_k hB) rfl ?_
  cases hl : las P.2.2.2 j with
  | none =>
    refine xe_istore_n dX0_mayUnwind_5 (by decide) ?_
    refine xe_iload_n dX0_mayUnwind_6 rfl ?_
    refine xe_iconst (v := -1) dX0_mayUnwind_7 (by decide) ?_
    refine xe_icmp_eq 36 dX0_mayUnwind_8 (by decide) (fun _ => ?_) (fun c => absurd rfl c)
    refine xe_iconst (v := nI 0) dX0_mayUnwind_36 (by decide) ?_
    exact e_zret dX0_mayUnwind_37 rfl (by unfold mayU; rw [hl]; rfl)
  | some i =>
    obtain ⟨s, hs, -⟩ := las_some hl
    have hil := Ls.lt hs
    obtain ⟨o1, o2, o3, o4⟩ := hz.so hs
    have e : mayU P.2.2.2 j = decide (crA s.2.1 s.2.2.1 (P.2.2.2.drop (i + 1)) = 0) := by unfold mayU; rw [hl]; dsimp only; rw [hs]
    refine xe_istore_n dX0_mayUnwind_5 (by decide) ?_
    refine xe_iload_n dX0_mayUnwind_6 rfl ?_
    refine xe_iconst (v := -1) dX0_mayUnwind_7 (by decide) ?_
    refine xe_icmp_eq 36 dX0_mayUnwind_8 (by decide) (fun c => absurd c (nI_m1 (by omega))) (fun _ => ?_)
    refine xe_aload_n dX0_mayUnwind_11 rfl ?_
    refine xe_iload_n dX0_mayUnwind_12 rfl ?_
    refine xe_iconst (v := nI 1) dX0_mayUnwind_13 (by decide) ?_
    refine xe_iadd dX0_mayUnwind_14 ?_
    refine (show Ev xs L mX0_mayUnwind 15 _ [.int (nI i + nI 1), .ref B] GS σ GS _ from ?_)
    rw [nI_add]
    refine xe_iconst (v := -1) dX0_mayUnwind_15 (by decide) ?_
    refine xe_aload_n dX0_mayUnwind_16 rfl ?_
    refine xe_iload_n dX0_mayUnwind_17 rfl ?_
    refine e_callVp (E_fromAt hB hz hs) dX0_mayUnwind_18 kvX0_48 (bd_k hB) rfl ?_
    refine xe_aload_n dX0_mayUnwind_21 rfl ?_
    refine xe_iload_n dX0_mayUnwind_22 rfl ?_
    refine e_callVp (E_toAt hB hz hs) dX0_mayUnwind_23 kvX0_51 (bd_k hB) rfl ?_
    refine e_callVp (E_crossed hB hz (l := i + 1) (p := fun _ => true) (by omega) o2 o3 (Or.inl ⟨rfl, fun _ => rfl⟩)) dX0_mayUnwind_26 kvX0_67 (bd_k hB) rfl ?_
    have hcl := crc_le (fun _ => true) s.2.1 s.2.2.1 (P.2.2.2.drop (i + 1))
    rw [List.length_drop] at hcl
    refine xn_if_ne 36 dX0_mayUnwind_29 (by decide) (by omega) (fun c => ?_) (fun c => ?_)
    · refine xe_iconst (v := nI 0) dX0_mayUnwind_36 (by decide) ?_
      exact e_zret dX0_mayUnwind_37 rfl (by rw [e]; simp [Nat.ne_of_gt c, bI, nI_0])
    · refine xe_iconst (v := nI 1) dX0_mayUnwind_32 (by decide) ?_
      refine xe_goto 37 dX0_mayUnwind_33 (by decide) ?_
      exact e_zret dX0_mayUnwind_37 rfl (by rw [e]; simp [c, bI, nI_one])
theorem E_crossingsOf (hB : IsBd B) {z : List xSt} (hz : Ls σ B z) {a b : Nat} (ha : a < 2 ^ 31) (hb : b < 2 ^ 31) : Cl xs L mX0_crossingsOf [.ref B, .int (nI a), .int (nI b)] GS σ GS (pI σ (nI (cro z a b))) := by
  show Ev xs L mX0_crossingsOf 0 [.ref B, .int (nI a), .int (nI b), .null, .null] [] GS σ GS _
  have h48 := hz.2.1
  have key : ∀ k i c, i + k = z.length → c + croS z a b i (z.drop i) = cro z a b → Ev xs L mX0_crossingsOf 5 [.ref B, .int (nI a), .int (nI b), .int (nI c), .int (nI i)] [] GS σ GS (pI σ (nI (cro z a b))) := by
    intro k
    induction k with
    | zero =>
      intro i c hi hc
      have e : i = z.length := by omega
      subst e
      rw [List.drop_length] at hc
      have hc : c + 0 = cro z a b := hc
      refine xe_iload dX0_crossingsOf_5 rfl ?_
      refine xe_aload_n dX0_crossingsOf_7 rfl ?_
      refine e_getI dX0_crossingsOf_8 fdX0_28 rfl (bd_k hB) hz.1 ?_
      refine xe_icmp_ge 63 dX0_crossingsOf_11 (by decide) (fun _ => ?_) (fun c => absurd (nI_le (Nat.le_refl _) (by omega)) c)
      refine xe_iload_n dX0_crossingsOf_63 rfl ?_
      exact e_iret dX0_crossingsOf_64 rfl (by rw [← hc]; rfl)
    | succ k ih =>
      intro i c hi hc
      have hl : i < z.length := by omega
      have hs : z[i]? = some z[i] := List.getElem?_eq_getElem hl
      rw [List.drop_eq_getElem_cons hl] at hc
      generalize z[i] = s at hs hc
      obtain ⟨o1, o2, o3, o4⟩ := hz.so hs
      have hc : c + ((if s.1 = a then crc (fun t => t == b) s.2.1 s.2.2.1 (z.drop (if a = b then i + 1 else 0)) else 0) + croS z a b (i + 1) (z.drop (i + 1))) = cro z a b := hc
      refine xe_iload dX0_crossingsOf_5 rfl ?_
      refine xe_aload_n dX0_crossingsOf_7 rfl ?_
      refine e_getI dX0_crossingsOf_8 fdX0_28 rfl (bd_k hB) hz.1 ?_
      refine xe_icmp_ge 63 dX0_crossingsOf_11 (by decide) (fun c => absurd c (nI_ge hl (by omega))) (fun _ => ?_)
      refine xe_aload_n dX0_crossingsOf_14 rfl ?_
      refine xe_iload dX0_crossingsOf_15 rfl ?_
      refine e_callVp (E_threadAt hB hz hs) dX0_crossingsOf_17 kvX0_44 (bd_k hB) rfl ?_
      refine xe_iload_n dX0_crossingsOf_20 rfl ?_
      refine xn_icmp_ne 57 dX0_crossingsOf_21 (by decide) (by omega) (by omega) (fun c21 => ?_) (fun c21 => ?_)
      · rw [if_neg c21] at hc
        refine xe_inc dX0_crossingsOf_57 rfl (by decide) ?_
        refine xe_goto 5 dX0_crossingsOf_60 (by decide) ?_
        rw [nI_1]
        exact ih (i + 1) c (by omega) (by omega)
      · rw [if_pos c21] at hc
        have go : ∀ l, l ≤ z.length → l = (if a = b then i + 1 else 0) → Ev xs L mX0_crossingsOf 39 [.ref B, .int (nI a), .int (nI b), .int (nI c), .int (nI i)] [.int (nI l), .ref B, .int (nI c)] GS σ GS (pI σ (nI (cro z a b))) := by
          intro l hlz hle
          rw [← hle] at hc
          refine xe_iload_n dX0_crossingsOf_39 rfl ?_
          refine xe_aload_n dX0_crossingsOf_40 rfl ?_
          refine xe_iload dX0_crossingsOf_41 rfl ?_
          refine e_callVp (E_fromAt hB hz hs) dX0_crossingsOf_43 kvX0_48 (bd_k hB) rfl ?_
          refine xe_aload_n dX0_crossingsOf_46 rfl ?_
          refine xe_iload dX0_crossingsOf_47 rfl ?_
          refine e_callVp (E_toAt hB hz hs) dX0_crossingsOf_49 kvX0_51 (bd_k hB) rfl ?_
          refine e_callVp (E_crossed hB hz (l := l) (p := fun t => t == b) hlz o2 o3 (Or.inr ⟨b, hb, rfl, nI_m1 hb, fun _ => rfl⟩)) dX0_crossingsOf_52 kvX0_67 (bd_k hB) rfl ?_
          refine xe_iadd dX0_crossingsOf_55 ?_
          refine xe_istore_n dX0_crossingsOf_56 (by decide) ?_
          refine xe_inc dX0_crossingsOf_57 rfl (by decide) ?_
          refine xe_goto 5 dX0_crossingsOf_60 (by decide) ?_
          rw [nI_add, nI_1]
          exact ih (i + 1) _ (by omega) (by omega)
        refine xe_iload_n dX0_crossingsOf_24 rfl ?_
        refine xe_aload_n dX0_crossingsOf_25 rfl ?_
        refine xe_iload_n dX0_crossingsOf_26 rfl ?_
        refine xe_iload_n dX0_crossingsOf_27 rfl ?_
        refine xn_icmp_ne 38 dX0_crossingsOf_28 (by decide) (by omega) (by omega) (fun c28 => ?_) (fun c28 => ?_)
        · refine xe_iconst (v := nI 0) dX0_crossingsOf_38 (by decide) ?_
          exact go 0 (Nat.zero_le _) (by rw [if_neg c28])
        · refine xe_iload dX0_crossingsOf_31 rfl ?_
          refine xe_iconst (v := nI 1) dX0_crossingsOf_33 (by decide) ?_
          refine xe_iadd dX0_crossingsOf_34 ?_
          refine xe_goto 39 dX0_crossingsOf_35 (by decide) ?_
          rw [nI_add]
          exact go (i + 1) (by omega) (by rw [if_pos c28])
  refine xe_iconst (v := nI 0) dX0_crossingsOf_0 (by decide) ?_
  refine xe_istore_n dX0_crossingsOf_1 (by decide) ?_
  refine xe_iconst (v := nI 0) dX0_crossingsOf_2 (by decide) ?_
  refine xe_istore dX0_crossingsOf_3 (by decide) ?_
  exact key z.length 0 0 (by omega) (by rw [Nat.zero_add]; rfl)
end R2
