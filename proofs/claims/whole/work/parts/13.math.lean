/-! pictures of boards -/
/-- a stretch: its thread, from where, to where, which of its thread -/
abbrev xSt : Type := Nat × Nat × Nat × Nat
def pkC (s : xSt) : Nat := s.1 + 16 * s.2.1 + 256 * s.2.2.1 + 4096 * s.2.2.2
def SO (s : xSt) : Prop := s.1 < 4 ∧ s.2.1 < 12 ∧ s.2.2.1 < 12 ∧ s.2.2.2 < 12
theorem pkC_all : ∀ t, t < 4 → ∀ f, f < 12 → ∀ o, o < 12 → ∀ p, p < 12 → nI t ||| nI f <<< (nI 4 &&& 31) ||| nI o <<< (nI 8 &&& 31) ||| nI p <<< (nI 12 &&& 31) = nI (pkC (t, f, o, p)) := by decide +kernel
theorem pkC_lt {s : xSt} (h : SO s) : pkC s < 65536 := by
  obtain ⟨h1, h2, h3, h4⟩ := h
  unfold pkC
  omega
theorem pkC_t {s : xSt} (h : SO s) : nI (pkC s) &&& nI 15 = nI s.1 := by
  have := pkC_lt h
  rw [pk_andN (by omega) 4 (by decide)]
  obtain ⟨h1, h2, h3, h4⟩ := h
  congr 1
  unfold pkC
  omega
theorem pkC_f {s : xSt} (h : SO s) : nI (pkC s) >>> (nI 4 &&& 31) &&& nI 15 = nI s.2.1 := by
  have := pkC_lt h
  rw [pk_shrN (by omega) _ 4 (by decide), pk_andN (by omega) 4 (by decide)]
  obtain ⟨h1, h2, h3, h4⟩ := h
  congr 1
  unfold pkC
  omega
theorem pkC_o {s : xSt} (h : SO s) : nI (pkC s) >>> (nI 8 &&& 31) &&& nI 15 = nI s.2.2.1 := by
  have := pkC_lt h
  rw [pk_shrN (by omega) _ 8 (by decide), pk_andN (by omega) 4 (by decide)]
  obtain ⟨h1, h2, h3, h4⟩ := h
  congr 1
  unfold pkC
  omega
theorem pkC_p {s : xSt} (h : SO s) : nI (pkC s) >>> (nI 12 &&& 31) &&& nI 15 = nI s.2.2.2 := by
  have := pkC_lt h
  rw [pk_shrN (by omega) _ 12 (by decide), pk_andN (by omega) 4 (by decide)]
  obtain ⟨h1, h2, h3, h4⟩ := h
  congr 1
  unfold pkC
  omega
def cnt (z : List xSt) (t : Nat) : Nat := z.countP (fun s => s.1 == t)
/-- how many of a row one between two nails crosses -/
def crc (p : Nat → Bool) (f o : Nat) (z : List xSt) : Nat := z.countP (fun s => p s.1 && crs4 s.2.1 s.2.2.1 f o)
def lsm (f : xSt → Nat) : List xSt → Nat
  | [] => 0
  | s :: r => f s + lsm f r
def lenT (z : List xSt) (t : Nat) : Nat := lsm (fun s => if s.1 = t then lnb s.2.1 s.2.2.1 else 0) z
def lenA (z : List xSt) : Nat := lsm (fun s => lnb s.2.1 s.2.2.1) z
/-- a row is gone through from a place on -/
theorem goZ {α : Type} (z : List xSt) (step : α → xSt → α) (E : Nat → α → Prop) (R : α) (hend : E z.length R) (hstep : ∀ i s a, z[i]? = some s → E (i + 1) (step a s) → E i a) : ∀ k i a, i + k = z.length → (z.drop i).foldl step a = R → E i a := by
  intro k
  induction k with
  | zero =>
    intro i a hi hR
    have e : i = z.length := by omega
    subst e
    rw [List.drop_length] at hR
    have hR : a = R := hR
    rw [hR]
    exact hend
  | succ k ih =>
    intro i a hi hR
    have hl : i < z.length := by omega
    have hs : z[i]? = some z[i] := List.getElem?_eq_getElem hl
    refine hstep i z[i] a hs (ih (i + 1) (step a z[i]) (by omega) ?_)
    rw [List.drop_eq_getElem_cons hl] at hR
    exact hR
theorem fold_cnt (p : xSt → Bool) : ∀ (z : List xSt) (a : Nat), z.foldl (fun a s => if p s then a + 1 else a) a = a + z.countP p
  | [], a => rfl
  | s :: r, a => by
    rw [List.foldl_cons, fold_cnt p r, List.countP_cons]
    cases p s <;> simp <;> omega
theorem fold_sum (f : xSt → Nat) : ∀ (z : List xSt) (a : Nat), z.foldl (fun a s => a + f s) a = a + lsm f z
  | [], a => rfl
  | s :: r, a => by
    rw [List.foldl_cons, fold_sum f r]
    show _ = a + (f s + lsm f r)
    omega
theorem lnb_le (a b : Nat) : lnb a b ≤ 20 := by
  unfold lnb
  generalize (if a < b then b - a else a - b) = j
  match j with
  | 0 => decide
  | 1 => decide
  | 2 => decide
  | 3 => decide
  | 4 => decide
  | 5 => decide
  | 6 => decide
  | 7 => decide
  | 8 => decide
  | 9 => decide
  | 10 => decide
  | 11 => decide
  | j + 12 => simp
theorem lsm_le {f : xSt → Nat} {c : Nat} (h : ∀ s, f s ≤ c) : ∀ z : List xSt, lsm f z ≤ c * z.length
  | [] => Nat.zero_le _
  | s :: r => by
    have h1 := h s
    have h2 := lsm_le h r
    show f s + lsm f r ≤ c * (r.length + 1)
    rw [Nat.mul_succ]
    omega
theorem lenT_le (z : List xSt) (t : Nat) : lenT z t ≤ 20 * z.length := lsm_le (fun s => by split; exact lnb_le _ _; omega) z
theorem lenA_le (z : List xSt) : lenA z ≤ 20 * z.length := lsm_le (fun s => lnb_le _ _) z
/-- the stretches as a board's cells hold them -/
def Ls (σ : xS) (B : Nat) (z : List xSt) : Prop := σ.1 B 5 = nI z.length ∧ z.length ≤ 48 ∧ (∀ i s, z[i]? = some s → σ.1 (B + 4) i = nI (pkC s)) ∧ ∀ s ∈ z, SO s
theorem Ls.so {σ : xS} {B : Nat} {z : List xSt} (h : Ls σ B z) {i : Nat} {s : xSt} (hs : z[i]? = some s) : SO s := h.2.2.2 s (List.mem_of_getElem? hs)
theorem Ls.lt {z : List xSt} {i : Nat} {s : xSt} (hs : z[i]? = some s) : i < z.length := (List.getElem?_eq_some_iff.mp hs).1
