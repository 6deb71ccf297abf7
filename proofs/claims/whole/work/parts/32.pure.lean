/-! pure rows: sums; what crosses, by threads -/
def rS (f : Nat → Nat) : Nat → Nat → Nat
  | _, 0 => 0
  | i, k + 1 => f i + rS f (i + 1) k
theorem rS_cong {f g : Nat → Nat} : ∀ k i, (∀ j, i ≤ j → j < i + k → f j = g j) → rS f i k = rS g i k
  | 0, _, _ => rfl
  | k + 1, i, h => by
    show f i + rS f (i + 1) k = g i + rS g (i + 1) k
    rw [h i (by omega) (by omega), rS_cong k (i + 1) (fun j h1 h2 => h j (by omega) (by omega))]
theorem rS_add (f : Nat → Nat) : ∀ a b i, rS f i (a + b) = rS f i a + rS f (i + a) b
  | 0, b, i => by rw [Nat.zero_add, Nat.add_zero]; show _ = 0 + _; omega
  | a + 1, b, i => by
    rw [show a + 1 + b = (a + b) + 1 by omega]
    show f i + rS f (i + 1) (a + b) = f i + rS f (i + 1) a + _
    rw [rS_add f a b (i + 1), show i + 1 + a = i + (a + 1) by omega]
    omega
theorem rS_0 {f : Nat → Nat} {k i : Nat} (h : ∀ j, i ≤ j → j < i + k → f j = 0) : rS f i k = 0 := by
  rw [rS_cong (g := fun _ => 0) k i h]
  clear h
  induction k generalizing i with
  | zero => rfl
  | succ k ih => show 0 + rS _ (i + 1) k = 0; rw [ih]
theorem rS_sh (f : Nat → Nat) (d : Nat) : ∀ k i, rS (fun j => f (j + d)) i k = rS f (i + d) k
  | 0, _ => rfl
  | k + 1, i => by
    show f (i + d) + rS _ (i + 1) k = f (i + d) + rS f (i + d + 1) k
    rw [rS_sh f d k (i + 1), show i + 1 + d = i + d + 1 by omega]
theorem rS_mul (c : Nat) (f : Nat → Nat) : ∀ k i, rS (fun j => c * f j) i k = c * rS f i k
  | 0, _ => rfl
  | k + 1, i => by
    show c * f i + rS _ (i + 1) k = c * (f i + rS f (i + 1) k)
    rw [rS_mul c f k (i + 1), Nat.mul_add]
theorem rS_pl (f g : Nat → Nat) : ∀ k i, rS (fun j => f j + g j) i k = rS f i k + rS g i k
  | 0, _ => rfl
  | k + 1, i => by
    show f i + g i + rS _ (i + 1) k = f i + rS f (i + 1) k + (g i + rS g (i + 1) k)
    rw [rS_pl f g k (i + 1)]
    omega
/-- a piece of a sum, as a sum over all -/
theorem rS_gd {f : Nat → Nat} {i k n : Nat} (h : i + k ≤ n) : rS f i k = rS (fun j => if i ≤ j ∧ j < i + k then f j else 0) 0 n := by
  have e : n = i + (k + (n - (i + k))) := by omega
  rw [e, rS_add, rS_add, Nat.zero_add]
  have z1 : rS (fun j => if i ≤ j ∧ j < i + k then f j else 0) 0 i = 0 := rS_0 (fun j h1 h2 => if_neg (by omega))
  have z2 : rS (fun j => if i ≤ j ∧ j < i + k then f j else 0) (i + k) (n - (i + k)) = 0 := rS_0 (fun j h1 h2 => if_neg (by omega))
  have z3 : rS (fun j => if i ≤ j ∧ j < i + k then f j else 0) i k = rS f i k := rS_cong k i (fun j h1 h2 => if_pos ⟨h1, h2⟩)
  rw [z1, z2, z3]
  omega
theorem foldN_rS {f : Nat → Nat} {st : Nat → Nat → Nat} (h : ∀ c i, st c i = c + f i) : ∀ k i c, foldN st i k c = c + rS f i k
  | 0, _, c => rfl
  | k + 1, i, c => by
    show foldN st (i + 1) k (st c i) = c + (f i + rS f (i + 1) k)
    rw [foldN_rS h k (i + 1), h]
    omega
theorem rS_blk (f : Nat → Nat) (m : Nat) : ∀ n a, rS f (m * a) (m * n) = rS (fun x => rS (fun y => f (m * x + y)) 0 m) a n
  | 0, a => rfl
  | n + 1, a => by
    rw [show m * (n + 1) = m + m * n by rw [Nat.mul_succ]; omega, rS_add, show m * a + m = m * (a + 1) by rw [Nat.mul_succ], rS_blk f m n (a + 1)]
    have := rS_sh f (m * a) m 0
    rw [Nat.zero_add] at this
    show _ = rS (fun y => f (m * a + y)) 0 m + _
    rw [← this, rS_cong (f := fun j => f (j + m * a)) (g := fun y => f (m * a + y)) m 0 (fun j _ _ => by rw [Nat.add_comm])]
theorem rS_le {f g : Nat → Nat} : ∀ k i, (∀ j, i ≤ j → j < i + k → f j ≤ g j) → rS f i k ≤ rS g i k
  | 0, _, _ => Nat.le_refl _
  | k + 1, i, h => by
    have h1 := h i (by omega) (by omega)
    have h2 := rS_le (f := f) (g := g) k (i + 1) (fun j a b => h j (by omega) (by omega))
    show f i + rS f (i + 1) k ≤ g i + rS g (i + 1) k
    omega
theorem rS_lt {f g : Nat → Nat} : ∀ k i, (∀ j, i ≤ j → j < i + k → f j ≤ g j) → (∃ j, i ≤ j ∧ j < i + k ∧ f j < g j) → rS f i k < rS g i k
  | 0, _, _, ⟨j, h1, h2, _⟩ => by omega
  | k + 1, i, h, ⟨j, h1, h2, h3⟩ => by
    have q1 := h i (by omega) (by omega)
    have q2 := rS_le (f := f) (g := g) k (i + 1) (fun j a b => h j (by omega) (by omega))
    show f i + rS f (i + 1) k < g i + rS g (i + 1) k
    by_cases e : j = i
    · subst e
      omega
    · have := rS_lt (f := f) (g := g) k (i + 1) (fun j a b => h j (by omega) (by omega)) ⟨j, by omega, by omega, h3⟩
      omega
/-- how many times stretches of some threads cross -/
def csz (u : Nat) : List xSt → Nat
  | [] => 0
  | s :: r => (if u.testBit s.1 then r.countP (fun w => u.testBit w.1 && crS s w) else 0) + csz u r
/-- .. of two threads -/
def cr2 (a b : Nat) : List xSt → Nat
  | [] => 0
  | s :: r => ((if s.1 = a then r.countP (fun w => w.1 == b && crS s w) else 0) + (if s.1 = b ∧ a ≠ b then r.countP (fun w => w.1 == a && crS s w) else 0)) + cr2 a b r
def qB (s : xSt) (r : List xSt) (b : Nat) : Nat := r.countP (fun w => w.1 == b && crS s w)
theorem qB_split (u : Nat) (s : xSt) : ∀ r : List xSt, (∀ w ∈ r, w.1 < 4) → r.countP (fun w => u.testBit w.1 && crS s w) = (if u.testBit 0 then qB s r 0 else 0) + (if u.testBit 1 then qB s r 1 else 0) + (if u.testBit 2 then qB s r 2 else 0) + (if u.testBit 3 then qB s r 3 else 0)
  | [], _ => by simp [qB]
  | w :: r, h => by
    have ih := qB_split u s r (fun x hx => h x (List.mem_cons_of_mem _ hx))
    have hw := h w (List.mem_cons_self ..)
    have e : ∀ b, qB s (w :: r) b = qB s r b + if (w.1 == b && crS s w) = true then 1 else 0 := fun b => List.countP_cons
    rw [List.countP_cons, ih, e, e, e, e]
    have : w.1 = 0 ∨ w.1 = 1 ∨ w.1 = 2 ∨ w.1 = 3 := by omega
    generalize crS s w = c at *
    rcases this with q | q | q | q <;> rw [q] <;> cases c <;> cases u.testBit 0 <;> cases u.testBit 1 <;> cases u.testBit 2 <;> cases u.testBit 3 <;> simp <;> omega
def t10 (u : Nat) (X : Nat → Nat → Nat) : Nat := (if u.testBit 0 then X 0 0 else 0) + (if u.testBit 1 then X 1 1 else 0) + (if u.testBit 2 then X 2 2 else 0) + (if u.testBit 3 then X 3 3 else 0) + (if u.testBit 0 && u.testBit 1 then X 0 1 else 0) + (if u.testBit 0 && u.testBit 2 then X 0 2 else 0) + (if u.testBit 0 && u.testBit 3 then X 0 3 else 0) + (if u.testBit 1 && u.testBit 2 then X 1 2 else 0) + (if u.testBit 1 && u.testBit 3 then X 1 3 else 0) + (if u.testBit 2 && u.testBit 3 then X 2 3 else 0)
theorem csz_t10 (u : Nat) : ∀ z : List xSt, (∀ w ∈ z, w.1 < 4) → csz u z = t10 u (fun a b => cr2 a b z)
  | [], _ => by simp [csz, t10, cr2]
  | s :: r, h => by
    have ih := csz_t10 u r (fun x hx => h x (List.mem_cons_of_mem _ hx))
    have hs := h s (List.mem_cons_self ..)
    have sp := qB_split u s r (fun x hx => h x (List.mem_cons_of_mem _ hx))
    have e : ∀ a b, cr2 a b (s :: r) = ((if s.1 = a then qB s r b else 0) + (if s.1 = b ∧ a ≠ b then qB s r a else 0)) + cr2 a b r := fun a b => rfl
    show (if u.testBit s.1 then r.countP (fun w => u.testBit w.1 && crS s w) else 0) + csz u r = _
    rw [ih, sp]
    unfold t10
    simp only [e]
    generalize qB s r 0 = q0 at *
    generalize qB s r 1 = q1 at *
    generalize qB s r 2 = q2 at *
    generalize qB s r 3 = q3 at *
    generalize cr2 0 0 r = x00 at *
    generalize cr2 1 1 r = x11 at *
    generalize cr2 2 2 r = x22 at *
    generalize cr2 3 3 r = x33 at *
    generalize cr2 0 1 r = x01 at *
    generalize cr2 0 2 r = x02 at *
    generalize cr2 0 3 r = x03 at *
    generalize cr2 1 2 r = x12 at *
    generalize cr2 1 3 r = x13 at *
    generalize cr2 2 3 r = x23 at *
    have : s.1 = 0 ∨ s.1 = 1 ∨ s.1 = 2 ∨ s.1 = 3 := by omega
    clear sp ih e h hs
    rcases this with q | q | q | q <;> rw [q] <;> cases u.testBit 0 <;> cases u.testBit 1 <;> cases u.testBit 2 <;> cases u.testBit 3 <;> simp <;> omega
theorem cr2_sym (a b : Nat) : ∀ z, cr2 a b z = cr2 b a z
  | [] => rfl
  | s :: r => by
    have ih := cr2_sym a b r
    show ((if s.1 = a then qB s r b else 0) + (if s.1 = b ∧ a ≠ b then qB s r a else 0)) + cr2 a b r = ((if s.1 = b then qB s r a else 0) + (if s.1 = a ∧ b ≠ a then qB s r b else 0)) + cr2 b a r
    rw [ih]
    by_cases e : a = b
    · subst e
      simp
    · by_cases e1 : s.1 = a
      · have e2 : ¬ s.1 = b := fun q => e (e1.symm.trans q)
        have e3 : ¬ b = a := fun q => e q.symm
        simp [e1, e2, e3, e]
      · by_cases e2 : s.1 = b
        · have e3 : ¬ b = a := fun q => e q.symm
          simp [e1, e2, e]
          intro q
          exact absurd q e3
        · simp [e1, e2]
theorem crc_q {s : xSt} (hs : SO s) (b : Nat) {l : List xSt} (hl : ∀ u ∈ l, SO u) : crc (fun t => t == b) s.2.1 s.2.2.1 l = qB s l b := by
  unfold crc qB
  refine List.countP_congr (fun u hu => ?_)
  have := hl u hu
  show (_ && crs4 _ _ _ _) = true ↔ (_ && crs4 _ _ _ _) = true
  rw [crs4_sym _ this.2.1 _ this.2.2.1 _ hs.2.1 _ hs.2.2.1]
theorem cro_same (a : Nat) (z : List xSt) (hz : ∀ u ∈ z, SO u) : cro z a a = cr2 a a z := by
  have key : ∀ (k i : Nat), i + k = z.length → croS z a a i (z.drop i) = cr2 a a (z.drop i) := by
    intro k
    induction k with
    | zero =>
      intro i hi
      rw [show i = z.length by omega, List.drop_length]
      rfl
    | succ k ih =>
      intro i hi
      have hl : i < z.length := by omega
      have h2 := ih (i + 1) (by omega)
      have hs : z[i] ∈ z := List.getElem_mem hl
      rw [List.drop_eq_getElem_cons hl]
      generalize z[i] = s at hs
      show (if s.1 = a then crc (fun t => t == a) s.2.1 s.2.2.1 (z.drop (if a = a then i + 1 else 0)) else 0) + croS z a a (i + 1) (z.drop (i + 1)) = ((if s.1 = a then qB s (z.drop (i + 1)) a else 0) + (if s.1 = a ∧ a ≠ a then qB s (z.drop (i + 1)) a else 0)) + cr2 a a (z.drop (i + 1))
      rw [h2, if_pos rfl, crc_q (hz s hs) a (fun u hu => hz u (List.mem_of_mem_drop hu))]
      simp
  have := key z.length 0 (by omega)
  rw [List.drop_zero] at this
  exact this
def dX (a b : Nat) (m : List xSt) : List xSt → Nat
  | [] => 0
  | s :: r => (if s.1 = a then qB s m b else 0) + dX a b m r
theorem dX_cons {a b : Nat} (s : xSt) (hs : SO s) (m : List xSt) : ∀ l : List xSt, (∀ u ∈ l, SO u) → dX a b (s :: m) l = dX a b m l + if s.1 = b then qB s l a else 0
  | [], _ => by simp [dX, qB]
  | u :: r, h => by
    have ih := dX_cons (a := a) (b := b) s hs m r (fun x hx => h x (List.mem_cons_of_mem _ hx))
    have hu := h u (List.mem_cons_self ..)
    have e1 : qB u (s :: m) b = qB u m b + if (s.1 == b && crS u s) = true then 1 else 0 := List.countP_cons
    have e2 : qB s (u :: r) a = qB s r a + if (u.1 == a && crS s u) = true then 1 else 0 := List.countP_cons
    have e3 : crS u s = crS s u := crs4_sym _ hu.2.1 _ hu.2.2.1 _ hs.2.1 _ hs.2.2.1
    show (if u.1 = a then qB u (s :: m) b else 0) + dX a b (s :: m) r = (if u.1 = a then qB u m b else 0) + dX a b m r + _
    rw [ih, e1, e2, e3]
    by_cases q1 : u.1 = a <;> by_cases q2 : s.1 = b <;> simp [q1, q2] <;> omega
theorem cro_diff {a b : Nat} (hab : a ≠ b) (z : List xSt) (hz : ∀ u ∈ z, SO u) : cro z a b = cr2 a b z := by
  have k1 : ∀ (l : List xSt) i, (∀ u ∈ l, SO u) → croS z a b i l = dX a b z l := by
    intro l
    induction l with
    | nil => intro i _; rfl
    | cons s r ih =>
      intro i h
      show (if s.1 = a then crc (fun t => t == b) s.2.1 s.2.2.1 (z.drop (if a = b then i + 1 else 0)) else 0) + croS z a b (i + 1) r = (if s.1 = a then qB s z b else 0) + dX a b z r
      rw [ih (i + 1) (fun x hx => h x (List.mem_cons_of_mem _ hx)), if_neg hab, List.drop_zero, crc_q (h s (List.mem_cons_self ..)) b hz]
  have k2 : ∀ l : List xSt, (∀ u ∈ l, SO u) → dX a b l l = cr2 a b l := by
    intro l
    induction l with
    | nil => intro _; rfl
    | cons s r ih =>
      intro h
      have hr : ∀ u ∈ r, SO u := fun x hx => h x (List.mem_cons_of_mem _ hx)
      have hs := h s (List.mem_cons_self ..)
      have e1 : qB s (s :: r) b = qB s r b := by
        have : qB s (s :: r) b = qB s r b + if (s.1 == b && crS s s) = true then 1 else 0 := List.countP_cons
        rw [this, crS_self]
        simp
      show (if s.1 = a then qB s (s :: r) b else 0) + dX a b (s :: r) r = ((if s.1 = a then qB s r b else 0) + (if s.1 = b ∧ a ≠ b then qB s r a else 0)) + cr2 a b r
      rw [dX_cons s hs r r hr, ih hr, e1]
      simp [hab]
      omega
  have := k1 z 0 hz
  rw [k2 z hz] at this
  exact this
theorem cro_cr2 {a b : Nat} {z : List xSt} (hz : ∀ u ∈ z, SO u) : cro z a b = cr2 a b z := by
  by_cases e : a = b
  · subst e
    exact cro_same a z hz
  · exact cro_diff e z hz
theorem cam_csz {z : List xSt} (hz : ∀ u ∈ z, SO u) (u : Nat) : cam z u = csz u z := by
  rw [csz_t10 u z (fun w hw => (hz w hw).1)]
  have e : ∀ a b, cro z a b = cr2 a b z := fun a b => cro_cr2 hz
  unfold cam camO camI t10
  simp only [foldN, e]
  cases u.testBit 0 <;> cases u.testBit 1 <;> cases u.testBit 2 <;> cases u.testBit 3 <;> simp <;> omega
theorem csz_all : ∀ z : List xSt, (∀ u ∈ z, SO u) → csz 15 z = crz z
  | [], _ => rfl
  | s :: r, h => by
    have ih := csz_all r (fun x hx => h x (List.mem_cons_of_mem _ hx))
    have hb : ∀ n, n < 4 → Nat.testBit 15 n = true := by decide
    show (if Nat.testBit 15 s.1 then r.countP (fun w => Nat.testBit 15 w.1 && crS s w) else 0) + csz 15 r = r.countP (crS s) + crz r
    rw [ih, if_pos (hb _ (h s (List.mem_cons_self ..)).1)]
    congr 1
    refine List.countP_congr (fun w hw => ?_)
    rw [hb _ (h w (List.mem_cons_of_mem _ hw)).1, Bool.true_and]
theorem two_bit : ∀ a, a < 4 → ∀ b, b < 4 → ∀ k, k < 4 → (2 ^ a ||| 2 ^ b).testBit k = (k == a || k == b) ∧ (2 ^ a).testBit k = (k == a) ∧ 2 ^ a ||| 2 ^ b < 16 := by decide
theorem csz_two {z : List xSt} (hz : ∀ u ∈ z, SO u) {a b : Nat} (ha : a < 4) (hb : b < 4) : csz (2 ^ a ||| 2 ^ b) z = (if a = b then cro z a b else csz (2 ^ a) z + csz (2 ^ b) z + cro z a b) := by
  have h4 : ∀ w ∈ z, w.1 < 4 := fun w hw => (hz w hw).1
  rw [csz_t10 _ z h4, csz_t10 _ z h4, csz_t10 _ z h4, cro_cr2 hz]
  unfold t10
  have s10 := cr2_sym 1 0 z
  have s20 := cr2_sym 2 0 z
  have s30 := cr2_sym 3 0 z
  have s21 := cr2_sym 2 1 z
  have s31 := cr2_sym 3 1 z
  have s32 := cr2_sym 3 2 z
  simp only [(two_bit a ha b hb 0 (by decide)).1, (two_bit a ha b hb 1 (by decide)).1, (two_bit a ha b hb 2 (by decide)).1, (two_bit a ha b hb 3 (by decide)).1, (two_bit a ha b hb 0 (by decide)).2.1, (two_bit a ha b hb 1 (by decide)).2.1, (two_bit a ha b hb 2 (by decide)).2.1, (two_bit a ha b hb 3 (by decide)).2.1, (two_bit b hb a ha 0 (by decide)).2.1, (two_bit b hb a ha 1 (by decide)).2.1, (two_bit b hb a ha 2 (by decide)).2.1, (two_bit b hb a ha 3 (by decide)).2.1]
  have ca : a = 0 ∨ a = 1 ∨ a = 2 ∨ a = 3 := by omega
  have cb : b = 0 ∨ b = 1 ∨ b = 2 ∨ b = 3 := by omega
  rcases ca with e | e | e | e <;> rcases cb with f | f | f | f <;> subst e <;> subst f <;> simp <;> omega
/-! pure rows: lines on the board -/
theorem jst_bit (J : Nat → Nat) (s : xSt) (a b : Nat) : (jst J s a).testBit b = ((J a).testBit b || ((s.2.1 == a && s.2.2.1 == b) || (s.2.2.1 == a && s.2.1 == b))) := by
  have tb : ∀ k, (2 ^ k).testBit b = (k == b) := by
    intro k
    rw [Nat.testBit_two_pow]
    by_cases e : k = b
    · simp [e]
    · simp [e]
  unfold jst
  by_cases e1 : a = s.2.2.1
  · by_cases e2 : a = s.2.1
    · rw [if_pos e1, if_pos e2, Nat.testBit_or, Nat.testBit_or, tb, tb, ← e1, ← e2]
      simp [Bool.or_assoc]
    · rw [if_pos e1, if_neg e2, Nat.testBit_or, tb, ← e1]
      have : (s.2.1 == a) = false := by simp [Ne.symm e2]
      rw [this]
      simp
  · by_cases e2 : a = s.2.1
    · rw [if_neg e1, if_pos e2, Nat.testBit_or, tb, ← e2]
      have : (s.2.2.1 == a) = false := by simp [Ne.symm e1]
      rw [this]
      simp
    · rw [if_neg e1, if_neg e2]
      have h1 : (s.2.2.1 == a) = false := by simp [Ne.symm e1]
      have h2 : (s.2.1 == a) = false := by simp [Ne.symm e2]
      rw [h1, h2]
      simp
def jnQ (a b : Nat) (s : xSt) : Bool := (s.2.1 == a && s.2.2.1 == b) || (s.2.2.1 == a && s.2.1 == b)
theorem jmf_bit : ∀ (z : List xSt) (J : Nat → Nat) (a b : Nat), (z.foldl jst J a).testBit b = ((J a).testBit b || z.any (jnQ a b))
  | [], J, a, b => by simp
  | s :: r, J, a, b => by
    rw [List.foldl_cons, jmf_bit r, jst_bit, List.any_cons]
    unfold jnQ
    rw [Bool.or_assoc]
theorem jm_bit (z : List xSt) (a b : Nat) : (jm z a).testBit b = z.any (jnQ a b) := by
  unfold jm
  rw [jmf_bit]
  simp
theorem jm_sym (z : List xSt) (a b : Nat) : (jm z a).testBit b = (jm z b).testBit a := by
  rw [jm_bit, jm_bit]
  congr 1
  funext s
  unfold jnQ
  rw [Bool.or_comm, Bool.and_comm (x := s.2.1 == b), Bool.and_comm (x := s.2.2.1 == b)]
theorem jm_irr {z : List xSt} (h : ∀ s ∈ z, s.2.1 ≠ s.2.2.1) (a : Nat) : (jm z a).testBit a = false := by
  rw [jm_bit]
  refine List.any_eq_false.mpr (fun s hs => ?_)
  have := h s hs
  unfold jnQ
  simp
  constructor
  · intro e1 e2
    exact this (e1.trans e2.symm)
  · intro e1 e2
    exact this (e2.trans e1.symm)
/-- whether a pair of nails, as one number, is a line -/
def li (J : Nat → Nat) (k : Nat) : Bool := decide (k / 12 < k % 12) && (J (k / 12)).testBit (k % 12)
theorem li_app (z : List xSt) {s : xSt} (h1 : s.2.1 < 12) (h2 : s.2.2.1 < 12) (hn : s.2.1 ≠ s.2.2.1) {k : Nat} (hk : k < 144) : li (jm (z ++ [s])) k = (li (jm z) k || decide (k = if s.2.1 < s.2.2.1 then 12 * s.2.1 + s.2.2.1 else 12 * s.2.2.1 + s.2.1)) := by
  unfold li
  rw [jm_bit, jm_bit, List.any_append]
  have e : ([s] : List xSt).any (jnQ (k / 12) (k % 12)) = jnQ (k / 12) (k % 12) s := by simp
  rw [e]
  unfold jnQ
  generalize z.any _ = q
  by_cases c : k / 12 < k % 12
  · rw [decide_eq_true c, Bool.true_and, Bool.true_and]
    congr 1
    by_cases c2 : s.2.1 < s.2.2.1
    · rw [if_pos c2]
      by_cases c3 : k = 12 * s.2.1 + s.2.2.1
      · have a1 : k / 12 = s.2.1 := by omega
        have a2 : k % 12 = s.2.2.1 := by omega
        rw [a1, a2, decide_eq_true c3]
        simp
      · rw [decide_eq_false c3]
        simp
        constructor
        · intro a1 a2
          omega
        · intro a1 a2
          omega
    · rw [if_neg c2]
      by_cases c3 : k = 12 * s.2.2.1 + s.2.1
      · have a1 : k / 12 = s.2.2.1 := by omega
        have a2 : k % 12 = s.2.1 := by omega
        rw [a1, a2, decide_eq_true c3]
        simp
      · rw [decide_eq_false c3]
        simp
        constructor
        · intro a1 a2
          omega
        · intro a1 a2
          omega
  · rw [decide_eq_false c, Bool.false_and, Bool.false_and, Bool.false_or, eq_comm, decide_eq_false_iff_not]
    split <;> omega
def b1 (b : Bool) : Nat := if b then 1 else 0
/-- parts, as the model counts them -/
def mpI (J : Nat → Nat) (k c e : Nat) : Nat := c + b1 (li J k && li J e && crs4 (k / 12) (k % 12) (e / 12) (e % 12))
def mpO (J : Nat → Nat) (c k : Nat) : Nat := foldN (mpI J k) (k + 1) (143 - k) (c + b1 (li J k))
def mprt (J : Nat → Nat) : Nat := foldN (mpO J) 0 144 1
theorem pcf_rS : ∀ k m, pcf k m = rS (fun d => b1 (m.testBit d)) 0 k
  | 0, _ => rfl
  | k + 1, m => by
    have ih := pcf_rS k (m / 2)
    show m % 2 + pcf k (m / 2) = b1 (m.testBit 0) + rS (fun d => b1 (m.testBit d)) 1 k
    have e : rS (fun d => b1 (m.testBit d)) 1 k = rS (fun d => b1 ((m / 2).testBit d)) 0 k := by
      have := rS_sh (fun d => b1 (m.testBit d)) 1 k 0
      rw [Nat.zero_add] at this
      rw [← this]
      refine rS_cong k 0 (fun j _ _ => ?_)
      show b1 (m.testBit (j + 1)) = _
      rw [Nat.testBit_succ]
    rw [ih, e]
    congr 1
    unfold b1
    rw [Nat.testBit_zero]
    rcases Nat.mod_two_eq_zero_or_one m with q | q <;> rw [q] <;> simp
theorem bit_hi {m d : Nat} (hm : m < 2 ^ 12) (hd : 12 ≤ d) : m.testBit d = false := Nat.testBit_lt_two_pow (Nat.lt_of_lt_of_le hm (Nat.pow_le_pow_right (by decide) hd))
theorem pc_up {m b : Nat} (hm : m < 2 ^ 12) (hb : b < 12) : pc (m / 2 ^ (b + 1)) = rS (fun d => b1 (decide (b < d) && m.testBit d)) 0 12 := by
  unfold pc
  rw [pcf_rS]
  have e : rS (fun d => b1 ((m / 2 ^ (b + 1)).testBit d)) 0 12 = rS (fun d => b1 (m.testBit d)) (b + 1) 12 := by
    have := rS_sh (fun d => b1 (m.testBit d)) (b + 1) 12 0
    rw [Nat.zero_add] at this
    rw [← this]
    refine rS_cong 12 0 (fun j _ _ => ?_)
    show b1 _ = b1 _
    rw [Nat.testBit_div_two_pow]
  rw [e]
  have a1 := rS_add (fun d => b1 (m.testBit d)) (12 - (b + 1)) (b + 1) (b + 1)
  rw [show 12 - (b + 1) + (b + 1) = 12 by omega] at a1
  rw [a1, show b + 1 + (12 - (b + 1)) = 12 by omega]
  have z : rS (fun d => b1 (m.testBit d)) 12 (b + 1) = 0 := rS_0 (fun j h1 h2 => by
    show b1 (m.testBit j) = 0
    rw [bit_hi hm h1]
    rfl)
  rw [z, Nat.add_zero, rS_gd (n := 12) (by omega)]
  refine rS_cong 12 0 (fun j _ hj => ?_)
  by_cases c : b < j
  · rw [if_pos (by omega), decide_eq_true c, Bool.true_and]
  · rw [if_neg (by omega), decide_eq_false c]
    rfl
theorem cr_lines : ∀ a, a < 12 → ∀ b, b < 12 → ∀ c, c < 12 → ∀ d, d < 12 → (decide (a < b) && decide (c < d) && decide (12 * a + b < 12 * c + d) && crs4 a b c d) = (decide (a < c) && decide (c < b) && decide (b < d)) := by decide +kernel
theorem cup_rS {J : Nat → Nat} (hJ : ∀ a, J a < 2 ^ 12) {a b : Nat} (hab : a < b) (hb : b < 12) : cup J a b = rS (fun c => rS (fun d => b1 (decide (a < c) && decide (c < b) && (decide (b < d) && (J c).testBit d))) 0 12) 0 12 := by
  unfold cup
  rw [foldN_rS (f := fun w => pc (J w / 2 ^ (b + 1))) (fun _ _ => rfl), Nat.zero_add, rS_gd (n := 12) (by omega)]
  refine rS_cong 12 0 (fun c _ _ => ?_)
  by_cases q : a < c ∧ c < b
  · rw [if_pos (by omega), pc_up (hJ c) hb]
    refine rS_cong 12 0 (fun d _ _ => ?_)
    rw [decide_eq_true q.1, decide_eq_true q.2]
    rfl
  · rw [if_neg (by omega)]
    refine (rS_0 (fun d _ _ => ?_)).symm
    have : (decide (a < c) && decide (c < b)) = false := by
      by_cases q1 : a < c
      · rw [decide_eq_false (fun q2 => q ⟨q1, q2⟩), Bool.and_false]
      · rw [decide_eq_false q1, Bool.false_and]
    rw [this]
    rfl
def prX (J : Nat → Nat) (a b : Nat) : Nat := if decide (a < b) && (J a).testBit b then 1 + rS (fun c => rS (fun d => b1 (decide (a < c) && decide (c < b) && (decide (b < d) && (J c).testBit d))) 0 12) 0 12 else 0
theorem prt_X {J : Nat → Nat} (hJ : ∀ a, J a < 2 ^ 12) : prt J = 1 + rS (fun a => rS (fun b => prX J a b) 0 12) 0 12 := by
  have h1 : ∀ a, a < 12 → ∀ c, prO J c a = c + rS (fun b => prX J a b) 0 12 := by
    intro a ha c
    have h2 : foldN (prI J a) (a + 1) (11 - a) c = c + rS (fun b => if (J a).testBit b then 1 + cup J a b else 0) (a + 1) (11 - a) := foldN_rS (fun c b => by unfold prI; split <;> simp) _ _ _
    unfold prO
    rw [h2, rS_gd (n := 12) (by omega)]
    congr 1
    refine rS_cong 12 0 (fun b _ hb => ?_)
    unfold prX
    by_cases q : a < b
    · rw [if_pos (by omega), decide_eq_true q, Bool.true_and, cup_rS hJ q (by omega)]
    · rw [if_neg (by omega), decide_eq_false q]
      rfl
  have h3 : ∀ k i c, i + k ≤ 12 → foldN (prO J) i k c = c + rS (fun a => rS (fun b => prX J a b) 0 12) i k := by
    intro k
    induction k with
    | zero => intro i c _; rfl
    | succ k ih =>
      intro i c hi
      show foldN (prO J) (i + 1) k (prO J c i) = c + (rS (fun b => prX J i b) 0 12 + rS (fun a => rS (fun b => prX J a b) 0 12) (i + 1) k)
      rw [ih (i + 1) _ (by omega), h1 i (by omega)]
      omega
  exact h3 12 0 1 (by omega)
theorem mprt_X {J : Nat → Nat} : mprt J = 1 + rS (fun a => rS (fun b => prX J a b) 0 12) 0 12 := by
  have h1 : ∀ c k, mpO J c k = c + (b1 (li J k) + rS (fun e => b1 (li J k && li J e && crs4 (k / 12) (k % 12) (e / 12) (e % 12))) (k + 1) (143 - k)) := by
    intro c k
    unfold mpO
    rw [foldN_rS (st := mpI J k) (f := fun e => b1 (li J k && li J e && crs4 (k / 12) (k % 12) (e / 12) (e % 12))) (fun _ _ => rfl)]
    omega
  unfold mprt
  rw [foldN_rS (st := mpO J) h1]
  refine congrArg (fun x => 1 + x) ?_
  have hb := rS_blk (fun k => b1 (li J k) + rS (fun e => b1 (li J k && li J e && crs4 (k / 12) (k % 12) (e / 12) (e % 12))) (k + 1) (143 - k)) 12 12 0
  rw [show 12 * 0 = 0 by rfl, show 12 * 12 = 144 by rfl] at hb
  rw [hb]
  refine rS_cong 12 0 (fun a _ ha => rS_cong 12 0 (fun b _ hb => ?_))
  have ha : a < 12 := by omega
  have hb : b < 12 := by omega
  have d1 : (12 * a + b) / 12 = a := by omega
  have d2 : (12 * a + b) % 12 = b := by omega
  have el : li J (12 * a + b) = (decide (a < b) && (J a).testBit b) := by unfold li; rw [d1, d2]
  show b1 (li J (12 * a + b)) + _ = _
  unfold prX
  rw [← el]
  cases hl : li J (12 * a + b) with
  | false =>
    rw [rS_0 (fun j _ _ => by simp [b1])]
    rfl
  | true =>
    have hab : a < b := by
      rw [el] at hl
      simp at hl
      exact hl.1
    rw [if_pos rfl, d1, d2, rS_gd (n := 144) (by omega)]
    refine congrArg (fun x => 1 + x) ?_
    have hb2 := rS_blk (fun j => if 12 * a + b + 1 ≤ j ∧ j < 12 * a + b + 1 + (143 - (12 * a + b)) then b1 (true && li J j && crs4 a b (j / 12) (j % 12)) else 0) 12 12 0
    rw [show 12 * 0 = 0 by rfl, show 12 * 12 = 144 by rfl] at hb2
    rw [hb2]
    refine rS_cong 12 0 (fun c _ hc => rS_cong 12 0 (fun d _ hd => ?_))
    have hc : c < 12 := by omega
    have hd : d < 12 := by omega
    have f1 : (12 * c + d) / 12 = c := by omega
    have f2 : (12 * c + d) % 12 = d := by omega
    have el2 : li J (12 * c + d) = (decide (c < d) && (J c).testBit d) := by unfold li; rw [f1, f2]
    have key := cr_lines a ha b hb c hc d hd
    rw [decide_eq_true hab, Bool.true_and] at key
    rw [f1, f2, el2, Bool.true_and]
    by_cases q : 12 * a + b < 12 * c + d
    · rw [if_pos (by omega)]
      rw [decide_eq_true q, Bool.and_true] at key
      refine congrArg b1 ?_
      rw [show (decide (a < c) && decide (c < b) && (decide (b < d) && (J c).testBit d)) = ((decide (a < c) && decide (c < b) && decide (b < d)) && (J c).testBit d) by rw [Bool.and_assoc (decide (a < c) && decide (c < b))], ← key]
      cases decide (c < d) <;> cases (J c).testBit d <;> cases crs4 a b c d <;> rfl
    · rw [if_neg (by omega)]
      rw [decide_eq_false q, Bool.and_false, Bool.false_and] at key
      rw [show (decide (a < c) && decide (c < b) && (decide (b < d) && (J c).testBit d)) = ((decide (a < c) && decide (c < b) && decide (b < d)) && (J c).testBit d) by rw [Bool.and_assoc (decide (a < c) && decide (c < b))], ← key]
      rfl
theorem mprt_prt {J : Nat → Nat} (hJ : ∀ a, J a < 2 ^ 12) : mprt J = prt J := by rw [mprt_X, prt_X hJ]
/-- lines at a nail, as the model counts them -/
def mlnI (J : Nat → Nat) (p c k : Nat) : Nat := c + if k / 12 = p ∨ k % 12 = p then b1 (li J k) else 0
def mln (J : Nat → Nat) (p : Nat) : Nat := foldN (mlnI J p) 0 144 0
theorem mln_pc {J : Nat → Nat} (hs : ∀ a b, (J a).testBit b = (J b).testBit a) (hi : ∀ a, (J a).testBit a = false) {p : Nat} (hp : p < 12) : mln J p = pc (J p) := by
  unfold mln pc
  rw [foldN_rS (st := mlnI J p) (f := fun k => if k / 12 = p ∨ k % 12 = p then b1 (li J k) else 0) (fun _ _ => rfl), Nat.zero_add, pcf_rS]
  have hb := rS_blk (fun k => if k / 12 = p ∨ k % 12 = p then b1 (li J k) else 0) 12 12 0
  rw [show 12 * 0 = 0 by rfl, show 12 * 12 = 144 by rfl] at hb
  rw [hb]
  have e : ∀ a, a < 12 → rS (fun y => if (12 * a + y) / 12 = p ∨ (12 * a + y) % 12 = p then b1 (li J (12 * a + y)) else 0) 0 12 = (if a = p then rS (fun y => b1 (decide (p < y) && (J p).testBit y)) 0 12 else 0) + b1 (decide (a < p) && (J p).testBit a) := by
    intro a ha
    have e1 : ∀ y, y < 12 → (if (12 * a + y) / 12 = p ∨ (12 * a + y) % 12 = p then b1 (li J (12 * a + y)) else 0) = if a = p ∨ y = p then b1 (decide (a < y) && (J a).testBit y) else 0 := by
      intro y hy
      have d1 : (12 * a + y) / 12 = a := by omega
      have d2 : (12 * a + y) % 12 = y := by omega
      unfold li
      rw [d1, d2]
    rw [rS_cong 12 0 (fun y _ hy => e1 y (by omega))]
    by_cases q : a = p
    · subst q
      rw [if_pos rfl, decide_eq_false (by omega : ¬ a < a), Bool.false_and]
      show _ = _ + 0
      rw [Nat.add_zero]
      exact rS_cong 12 0 (fun y _ _ => if_pos (Or.inl rfl))
    · rw [if_neg q, Nat.zero_add]
      have s1 := rS_add (fun y => if a = p ∨ y = p then b1 (decide (a < y) && (J a).testBit y) else 0) p (12 - p) 0
      rw [show p + (12 - p) = 12 by omega, Nat.zero_add] at s1
      rw [s1, rS_0 (fun j _ hj => if_neg (by omega)), Nat.zero_add, show 12 - p = (11 - p) + 1 by omega]
      show (if a = p ∨ p = p then b1 (decide (a < p) && (J a).testBit p) else 0) + rS _ (p + 1) (11 - p) = _
      rw [rS_0 (fun j _ hj => if_neg (by omega)), if_pos (Or.inr rfl), Nat.add_zero, hs a p]
  rw [rS_cong 12 0 (fun a _ ha => e a (by omega)), rS_pl]
  have f1 : rS (fun a => if a = p then rS (fun y => b1 (decide (p < y) && (J p).testBit y)) 0 12 else 0) 0 12 = rS (fun y => b1 (decide (p < y) && (J p).testBit y)) 0 12 := by
    generalize rS (fun y => b1 (decide (p < y) && (J p).testBit y)) 0 12 = v
    have s1 := rS_add (fun a => if a = p then v else 0) p (12 - p) 0
    rw [show p + (12 - p) = 12 by omega, Nat.zero_add] at s1
    rw [s1, rS_0 (fun j _ hj => if_neg (by omega)), Nat.zero_add, show 12 - p = (11 - p) + 1 by omega]
    show (if p = p then v else 0) + rS _ (p + 1) (11 - p) = _
    rw [rS_0 (fun j _ hj => if_neg (by omega)), if_pos rfl, Nat.add_zero]
  rw [f1, ← rS_pl]
  refine rS_cong 12 0 (fun y _ _ => ?_)
  show b1 (decide (p < y) && (J p).testBit y) + b1 (decide (y < p) && (J p).testBit y) = b1 ((J p).testBit y)
  rcases Nat.lt_trichotomy p y with q | q | q
  · rw [decide_eq_true q, decide_eq_false (by omega : ¬ y < p)]
    simp [b1]
  · subst q
    rw [hi p]
    simp [b1]
  · rw [decide_eq_true q, decide_eq_false (by omega : ¬ p < y)]
    simp [b1]
theorem pc_pos {m : Nat} (hm : m < 2 ^ 12) : 0 < pc m ↔ m ≠ 0 := by
  constructor
  · intro h e
    rw [e] at h
    exact absurd h (by decide)
  · intro h
    unfold pc
    rw [pcf_rS]
    have : ∃ d, m.testBit d = true := Nat.exists_testBit_of_ne_zero h
    obtain ⟨d, hd⟩ := this
    have hd12 : d < 12 := by
      rcases Nat.lt_or_ge d 12 with q | q
      · exact q
      · rw [bit_hi hm q] at hd
        exact absurd hd (by decide)
    have := rS_lt (f := fun _ => 0) (g := fun d => b1 (m.testBit d)) 12 0 (fun j _ _ => Nat.zero_le _) ⟨d, by omega, by omega, by show 0 < b1 (m.testBit d); rw [hd]; decide⟩
    have z : rS (fun _ => 0) 0 12 = 0 := by decide
    omega
/-! hanging together -/
def Sb (g h : Nat) : Prop := ∀ d, g.testBit d = true → h.testBit d = true
theorem Sb.rf (g : Nat) : Sb g g := fun _ h => h
theorem Sb.tr {a b c : Nat} (h1 : Sb a b) (h2 : Sb b c) : Sb a c := fun d h => h2 d (h1 d h)
theorem Sb.orl (a b : Nat) : Sb a (a ||| b) := fun d h => by rw [Nat.testBit_or, h]; rfl
theorem Sb.eq {a b : Nat} (h1 : Sb a b) (h2 : Sb b a) : a = b := Nat.eq_of_testBit_eq (fun d => by
  cases ha : a.testBit d with
  | true => exact (h1 d ha).symm
  | false =>
    cases hb : b.testBit d with
    | false => rfl
    | true => rw [h2 d hb] at ha; exact absurd ha (by decide))
theorem pc_grow {g h : Nat} (hs : Sb g h) (hh : h < 2 ^ 12) (hne : g ≠ h) : pc g < pc h := by
  unfold pc
  rw [pcf_rS, pcf_rS]
  have : ∃ d, h.testBit d = true ∧ g.testBit d = false := Classical.byContradiction (fun hn => hne (hs.eq (fun d hd => by
    cases hg : g.testBit d with
    | true => rfl
    | false => exact absurd ⟨d, hd, hg⟩ hn)))
  obtain ⟨d, h1, h2⟩ := this
  have hd12 : d < 12 := by
    rcases Nat.lt_or_ge d 12 with q | q
    · exact q
    · rw [bit_hi hh q] at h1
      exact absurd h1 (by decide)
  refine rS_lt 12 0 (fun j _ _ => ?_) ⟨d, by omega, by omega, ?_⟩
  · cases hg : g.testBit j with
    | true => rw [hs j hg]; exact Nat.le_refl _
    | false => exact Nat.zero_le _
  · show b1 (g.testBit d) < b1 (h.testBit d)
    rw [h1, h2]
    decide
theorem fix12 {R : Nat → Nat → Nat} (hR : ∀ g i j, R g i = R g j) (hm : ∀ g i, Sb g (R g i)) (hl : ∀ g i, g < 2 ^ 12 → R g i < 2 ^ 12) {g : Nat} (hg : g < 2 ^ 12) (h0 : 0 < pc g) : ∃ m, foldN R 0 12 g = m ∧ R m 0 = m ∧ m < 2 ^ 12 := by
  have key : ∀ k i g n, g < 2 ^ 12 → (R g 0 = g ∨ n ≤ pc g) → foldN R i k g < 2 ^ 12 ∧ (R (foldN R i k g) 0 = foldN R i k g ∨ n + k ≤ pc (foldN R i k g)) := by
    intro k
    induction k with
    | zero => intro i g n hg h; exact ⟨hg, h⟩
    | succ k ih =>
      intro i g n hg h
      have e : R g i = R g 0 := hR g i 0
      have h2 : R (R g i) 0 = R g i ∨ n + 1 ≤ pc (R g i) := by
        by_cases q : R g i = g
        · left
          rw [q, ← e, q]
        · right
          rcases h with h | h
          · exact absurd (e.trans h) q
          · have := pc_grow (hm g i) (hl g i hg) (fun z => q z.symm)
            omega
      have := ih (i + 1) (R g i) (n + 1) (hl g i hg) h2
      show foldN R (i + 1) k (R g i) < 2 ^ 12 ∧ _
      refine ⟨this.1, ?_⟩
      rcases this.2 with q | q
      · exact Or.inl q
      · right
        show n + (k + 1) ≤ pc (foldN R (i + 1) k (R g i))
        omega
  have := key 12 0 g 1 hg (Or.inr h0)
  refine ⟨_, rfl, ?_, this.1⟩
  rcases this.2 with q | q
  · exact q
  · have := pc_le (foldN R 0 12 g)
    omega
theorem grI_sb (J : Nat → Nat) (g n : Nat) : Sb g (grI J g n) := by
  unfold grI
  split
  · exact Sb.orl _ _
  · exact Sb.rf _
theorem foldN_sb {f : Nat → Nat → Nat} (h : ∀ g n, Sb g (f g n)) : ∀ k i g, Sb g (foldN f i k g)
  | 0, _, g => Sb.rf g
  | k + 1, i, g => (h g i).tr (foldN_sb h k (i + 1) (f g i))
/-- hanging together is kept -/
def Cld (J : Nat → Nat) (c : Nat) : Prop := ∀ x y, x < 12 → y < 12 → c.testBit x = true → (J x).testBit y = true → c.testBit y = true
theorem grp_fix {J : Nat → Nat} (hJ : ∀ a, J a < 2 ^ 12) {m : Nat} (h : grO J m 0 = m) : Cld J m := by
  have key : ∀ k i g x, i ≤ x → x < i + k → g.testBit x = true → Sb (J x) (foldN (grI J) i k g) := by
    intro k
    induction k with
    | zero => intro i g x h1 h2; omega
    | succ k ih =>
      intro i g x h1 h2 hx
      show Sb (J x) (foldN (grI J) (i + 1) k (grI J g i))
      by_cases e : x = i
      · subst e
        have : Sb (J x) (grI J g x) := by
          unfold grI
          rw [if_pos hx, Nat.or_comm]
          exact Sb.orl _ _
        exact this.tr (foldN_sb (grI_sb J) k (x + 1) _)
      · exact ih (i + 1) _ x (by omega) (by omega) (grI_sb J g i x hx)
  intro x y hx hy hmx hxy
  have := key 12 0 m x (by omega) (by omega) hmx y hxy
  have e : foldN (grI J) 0 12 m = m := h
  rw [e] at this
  exact this
theorem foldN_i12 {f : Nat → Nat → Nat} {I : Nat → Prop} {n : Nat} (h : ∀ g i, i < n → I g → I (f g i)) : ∀ k i g, i + k ≤ n → I g → I (foldN f i k g)
  | 0, _, _, _, hg => hg
  | k + 1, i, g, hi, hg => foldN_i12 h k (i + 1) (f g i) (by omega) (h g i (by omega) hg)
theorem grp_min {J : Nat → Nat} (hJ : ∀ a, J a < 2 ^ 12) {c : Nat} (hc : Cld J c) {a : Nat} (ha : c.testBit a = true) : Sb (grp J a) c := by
  have st : ∀ g n, n < 12 → Sb g c → Sb (grI J g n) c := by
    intro g n hn hg
    unfold grI
    split
    next q =>
      intro d hd
      rw [Nat.testBit_or] at hd
      rcases (Bool.or_eq_true _ _).mp hd with h1 | h1
      · exact hg d h1
      · have hd12 : d < 12 := by
          rcases Nat.lt_or_ge d 12 with q2 | q2
          · exact q2
          · rw [bit_hi (hJ n) q2] at h1
            exact absurd h1 (by decide)
        exact hc n d hn hd12 (hg n q) h1
    · exact hg
  have st2 : ∀ g n, n < 12 → Sb g c → Sb (grO J g n) c := fun g n _ hg => foldN_i12 (I := fun g => Sb g c) st 12 0 g (by omega) hg
  refine foldN_i12 (I := fun g => Sb g c) st2 12 0 (2 ^ a) (by omega) (fun d hd => ?_)
  rw [Nat.testBit_two_pow] at hd
  have : a = d := by simpa using hd
  rw [← this]
  exact ha
theorem grp_ok {J : Nat → Nat} (hJ : ∀ a, J a < 2 ^ 12) {a : Nat} (ha : a < 12) : Cld J (grp J a) ∧ (grp J a).testBit a = true ∧ grp J a < 2 ^ 12 := by
  have h1 : (2 ^ a).testBit a = true := by rw [Nat.testBit_two_pow]; simp
  obtain ⟨m, e, hf, hm⟩ := fix12 (R := grO J) (fun _ _ _ => rfl) (fun g i => foldN_sb (grI_sb J) 12 0 g) (fun g i hg => grO_lt hJ hg i) (two12 ha) ((pc_pos (two12 ha)).mpr (fun z => by rw [z] at h1; simp at h1))
  have e : grp J a = m := e
  refine ⟨by rw [e]; exact grp_fix hJ hf, ?_, by rw [e]; exact hm⟩
  exact foldN_sb (f := grO J) (fun g i => foldN_sb (grI_sb J) 12 0 g) 12 0 (2 ^ a) a h1
/-- hanging together, as the model finds it -/
def poI (J : Nat → Nat) (g k : Nat) : Nat := if li J k && (g.testBit (k / 12) || g.testBit (k % 12)) then g ||| (2 ^ (k / 12) ||| 2 ^ (k % 12)) else g
def poO (J : Nat → Nat) (g _n : Nat) : Nat := foldN (poI J) 0 144 g
def po (J : Nat → Nat) (a : Nat) : Nat := foldN (poO J) 0 12 (2 ^ a)
theorem poI_sb (J : Nat → Nat) (g k : Nat) : Sb g (poI J g k) := by
  unfold poI
  split
  · exact Sb.orl _ _
  · exact Sb.rf _
theorem poI_lt (J : Nat → Nat) {g k : Nat} (hk : k < 144) (hg : g < 2 ^ 12) : poI J g k < 2 ^ 12 := by
  unfold poI
  split
  · exact Nat.or_lt_two_pow hg (Nat.or_lt_two_pow (two12 (by omega)) (two12 (by omega)))
  · exact hg
theorem poO_lt (J : Nat → Nat) {g : Nat} (n : Nat) (hg : g < 2 ^ 12) : poO J g n < 2 ^ 12 := foldN_i12 (I := fun g => g < 2 ^ 12) (fun g i hi h => poI_lt J hi h) 144 0 g (by omega) hg
theorem po_fix {J : Nat → Nat} (hs : ∀ a b, (J a).testBit b = (J b).testBit a) (hi : ∀ a, (J a).testBit a = false) {m : Nat} (h : poO J m 0 = m) : Cld J m := by
  have key : ∀ k i g q, i ≤ q → q < i + k → li J q = true → (g.testBit (q / 12) = true ∨ g.testBit (q % 12) = true) → (foldN (poI J) i k g).testBit (q / 12) = true ∧ (foldN (poI J) i k g).testBit (q % 12) = true := by
    intro k
    induction k with
    | zero => intro i g q h1 h2; omega
    | succ k ih =>
      intro i g q h1 h2 hq hg
      show (foldN (poI J) (i + 1) k (poI J g i)).testBit (q / 12) = true ∧ (foldN (poI J) (i + 1) k (poI J g i)).testBit (q % 12) = true
      by_cases e : q = i
      · subst e
        have hh : (li J q && (g.testBit (q / 12) || g.testBit (q % 12))) = true := by
          rw [hq, Bool.true_and]
          rcases hg with z | z <;> rw [z] <;> simp
        have e2 : poI J g q = g ||| (2 ^ (q / 12) ||| 2 ^ (q % 12)) := if_pos hh
        have b1 : (poI J g q).testBit (q / 12) = true := by rw [e2, Nat.testBit_or, Nat.testBit_or, Nat.testBit_two_pow]; simp
        have b2 : (poI J g q).testBit (q % 12) = true := by rw [e2, Nat.testBit_or, Nat.testBit_or, Nat.testBit_two_pow (n := q % 12)]; simp
        exact ⟨foldN_sb (poI_sb J) k (q + 1) _ _ b1, foldN_sb (poI_sb J) k (q + 1) _ _ b2⟩
      · refine ih (i + 1) _ q (by omega) (by omega) hq ?_
        rcases hg with z | z
        · exact Or.inl (poI_sb J g i _ z)
        · exact Or.inr (poI_sb J g i _ z)
  intro x y hx hy hmx hxy
  have e : foldN (poI J) 0 144 m = m := h
  have hne : x ≠ y := fun z => by rw [z, hi] at hxy; exact absurd hxy (by decide)
  rcases Nat.lt_or_ge x y with c | c
  · have d1 : (12 * x + y) / 12 = x := by omega
    have d2 : (12 * x + y) % 12 = y := by omega
    have hl : li J (12 * x + y) = true := by unfold li; rw [d1, d2, decide_eq_true c, hxy]; rfl
    have := (key 144 0 m (12 * x + y) (by omega) (by omega) hl (by rw [d1]; exact Or.inl hmx)).2
    rw [e, d2] at this
    exact this
  · have d1 : (12 * y + x) / 12 = y := by omega
    have d2 : (12 * y + x) % 12 = x := by omega
    have hl : li J (12 * y + x) = true := by unfold li; rw [d1, d2, decide_eq_true (by omega : y < x), ← hs, hxy]; rfl
    have := (key 144 0 m (12 * y + x) (by omega) (by omega) hl (by rw [d2]; exact Or.inr hmx)).1
    rw [e, d1] at this
    exact this
theorem po_min {J : Nat → Nat} (hs : ∀ a b, (J a).testBit b = (J b).testBit a) {c : Nat} (hc : Cld J c) {a : Nat} (ha : c.testBit a = true) : Sb (po J a) c := by
  have st : ∀ g k, k < 144 → Sb g c → Sb (poI J g k) c := by
    intro g k hk hg
    unfold poI
    split
    next q =>
      rw [Bool.and_eq_true] at q
      have q1 := q.1
      unfold li at q1
      rw [Bool.and_eq_true] at q1
      have both : c.testBit (k / 12) = true ∧ c.testBit (k % 12) = true := by
        rcases (Bool.or_eq_true _ _).mp q.2 with z | z
        · exact ⟨hg _ z, hc (k / 12) (k % 12) (by omega) (by omega) (hg _ z) q1.2⟩
        · exact ⟨hc (k % 12) (k / 12) (by omega) (by omega) (hg _ z) (by rw [hs]; exact q1.2), hg _ z⟩
      intro d hd
      rw [Nat.testBit_or, Nat.testBit_or] at hd
      rcases (Bool.or_eq_true _ _).mp hd with h1 | h1
      · exact hg d h1
      · rcases (Bool.or_eq_true _ _).mp h1 with h2 | h2
        · rw [Nat.testBit_two_pow] at h2
          have : k / 12 = d := by simpa using h2
          rw [← this]
          exact both.1
        · rw [Nat.testBit_two_pow] at h2
          have : k % 12 = d := by simpa using h2
          rw [← this]
          exact both.2
    · exact hg
  have st2 : ∀ g n, n < 12 → Sb g c → Sb (poO J g n) c := fun g n _ hg => foldN_i12 (I := fun g => Sb g c) st 144 0 g (by omega) hg
  refine foldN_i12 (I := fun g => Sb g c) st2 12 0 (2 ^ a) (by omega) (fun d hd => ?_)
  rw [Nat.testBit_two_pow] at hd
  have : a = d := by simpa using hd
  rw [← this]
  exact ha
theorem po_grp {J : Nat → Nat} (hJ : ∀ a, J a < 2 ^ 12) (hs : ∀ a b, (J a).testBit b = (J b).testBit a) (hi : ∀ a, (J a).testBit a = false) {a : Nat} (ha : a < 12) : po J a = grp J a := by
  obtain ⟨g1, g2, g3⟩ := grp_ok hJ ha
  have h1 : (2 ^ a).testBit a = true := by rw [Nat.testBit_two_pow]; simp
  obtain ⟨m, e, hf, hm⟩ := fix12 (R := poO J) (fun _ _ _ => rfl) (fun g i => foldN_sb (poI_sb J) 144 0 g) (fun g i hg => poO_lt J i hg) (two12 ha) ((pc_pos (two12 ha)).mpr (fun z => by rw [z] at h1; simp at h1))
  have e : po J a = m := e
  have p1 : Cld J (po J a) := by rw [e]; exact po_fix hs hi hf
  have p2 : (po J a).testBit a = true := foldN_sb (f := poO J) (fun g i => foldN_sb (poI_sb J) 144 0 g) 12 0 (2 ^ a) a h1
  exact (po_min hs g1 g2).eq (grp_min hJ p1 p2)
/-! pure rows: shares, chances, stars -/
def fc : Nat → Nat
  | 0 => 1
  | n + 1 => (n + 1) * fc n
def shS (z : List xSt) (T t c u : Nat) : Nat := if u.testBit t then c else c + fc (pc u) * fc (T - 1 - pc u) * (csz (u ||| 2 ^ t) z - csz u z)
def shr (z : List xSt) (T t : Nat) : Nat := foldN (shS z T t) 0 (2 ^ T) 0
theorem t10_lit (X : Nat → Nat → Nat) : t10 0 X = 0 ∧ t10 1 X = X 0 0 ∧ t10 2 X = X 1 1 ∧ t10 3 X = X 0 0 + X 1 1 + X 0 1 ∧ t10 4 X = X 2 2 ∧ t10 5 X = X 0 0 + X 2 2 + X 0 2 ∧ t10 6 X = X 1 1 + X 2 2 + X 1 2 ∧ t10 7 X = X 0 0 + X 1 1 + X 2 2 + X 0 1 + X 0 2 + X 1 2 ∧ t10 8 X = X 3 3 ∧ t10 9 X = X 0 0 + X 3 3 + X 0 3 ∧ t10 10 X = X 1 1 + X 3 3 + X 1 3 ∧ t10 11 X = X 0 0 + X 1 1 + X 3 3 + X 0 1 + X 0 3 + X 1 3 ∧ t10 12 X = X 2 2 + X 3 3 + X 2 3 ∧ t10 13 X = X 0 0 + X 2 2 + X 3 3 + X 0 2 + X 0 3 + X 2 3 ∧ t10 14 X = X 1 1 + X 2 2 + X 3 3 + X 1 2 + X 1 3 + X 2 3 ∧ t10 15 X = X 0 0 + X 1 1 + X 2 2 + X 3 3 + X 0 1 + X 0 2 + X 0 3 + X 1 2 + X 1 3 + X 2 3 := by
  refine ⟨?_, ?_, ?_, ?_, ?_, ?_, ?_, ?_, ?_, ?_, ?_, ?_, ?_, ?_, ?_, ?_⟩ <;> simp [t10, Nat.testBit]
theorem cszL {z : List xSt} (h4 : ∀ w ∈ z, w.1 < 4) : csz 0 z = 0 ∧ csz 1 z = cr2 0 0 z ∧ csz 2 z = cr2 1 1 z ∧ csz 3 z = cr2 0 0 z + cr2 1 1 z + cr2 0 1 z ∧ csz 4 z = cr2 2 2 z ∧ csz 5 z = cr2 0 0 z + cr2 2 2 z + cr2 0 2 z ∧ csz 6 z = cr2 1 1 z + cr2 2 2 z + cr2 1 2 z ∧ csz 7 z = cr2 0 0 z + cr2 1 1 z + cr2 2 2 z + cr2 0 1 z + cr2 0 2 z + cr2 1 2 z ∧ csz 8 z = cr2 3 3 z ∧ csz 9 z = cr2 0 0 z + cr2 3 3 z + cr2 0 3 z ∧ csz 10 z = cr2 1 1 z + cr2 3 3 z + cr2 1 3 z ∧ csz 11 z = cr2 0 0 z + cr2 1 1 z + cr2 3 3 z + cr2 0 1 z + cr2 0 3 z + cr2 1 3 z ∧ csz 12 z = cr2 2 2 z + cr2 3 3 z + cr2 2 3 z ∧ csz 13 z = cr2 0 0 z + cr2 2 2 z + cr2 3 3 z + cr2 0 2 z + cr2 0 3 z + cr2 2 3 z ∧ csz 14 z = cr2 1 1 z + cr2 2 2 z + cr2 3 3 z + cr2 1 2 z + cr2 1 3 z + cr2 2 3 z ∧ csz 15 z = cr2 0 0 z + cr2 1 1 z + cr2 2 2 z + cr2 3 3 z + cr2 0 1 z + cr2 0 2 z + cr2 0 3 z + cr2 1 2 z + cr2 1 3 z + cr2 2 3 z := by
  have hu : ∀ u, csz u z = t10 u (fun a b => cr2 a b z) := fun u => csz_t10 u z h4
  simp only [hu]
  exact t10_lit _
theorem tw_1_0 {z : List xSt} (hz : ∀ u ∈ z, SO u) : 2 * shr z 1 0 = fc 1 * tws z 1 0 := by
  obtain ⟨c0, c1, c2, c3, c4, c5, c6, c7, c8, c9, c10, c11, c12, c13, c14, c15⟩ := cszL (z := z) (fun w hw => (hz w hw).1)
  have e1 : shr z 1 0 = (0 + 1 * (csz 1 z - csz 0 z)) := rfl
  have e2 : tws z 1 0 = (0 + 2 * cro z 0 0) := rfl
  have ef : fc 1 = 1 := rfl
  rw [e1, e2, ef]
  simp only [c0, c1, c2, c3, c4, c5, c6, c7, c8, c9, c10, c11, c12, c13, c14, c15, cro_cr2 hz, cr2_sym 1 0 z, cr2_sym 2 0 z, cr2_sym 3 0 z, cr2_sym 2 1 z, cr2_sym 3 1 z, cr2_sym 3 2 z]
  clear c0 c1 c2 c3 c4 c5 c6 c7 c8 c9 c10 c11 c12 c13 c14 c15 e1 e2 ef
  generalize cr2 0 0 z = x00
  generalize cr2 1 1 z = x11
  generalize cr2 2 2 z = x22
  generalize cr2 3 3 z = x33
  generalize cr2 0 1 z = x01
  generalize cr2 0 2 z = x02
  generalize cr2 0 3 z = x03
  generalize cr2 1 2 z = x12
  generalize cr2 1 3 z = x13
  generalize cr2 2 3 z = x23
  omega
theorem tw_2_0 {z : List xSt} (hz : ∀ u ∈ z, SO u) : 2 * shr z 2 0 = fc 2 * tws z 2 0 := by
  obtain ⟨c0, c1, c2, c3, c4, c5, c6, c7, c8, c9, c10, c11, c12, c13, c14, c15⟩ := cszL (z := z) (fun w hw => (hz w hw).1)
  have e1 : shr z 2 0 = ((0 + 1 * (csz 1 z - csz 0 z)) + 1 * (csz 3 z - csz 2 z)) := rfl
  have e2 : tws z 2 0 = ((0 + 2 * cro z 0 0) + cro z 0 1) := rfl
  have ef : fc 2 = 2 := rfl
  rw [e1, e2, ef]
  simp only [c0, c1, c2, c3, c4, c5, c6, c7, c8, c9, c10, c11, c12, c13, c14, c15, cro_cr2 hz, cr2_sym 1 0 z, cr2_sym 2 0 z, cr2_sym 3 0 z, cr2_sym 2 1 z, cr2_sym 3 1 z, cr2_sym 3 2 z]
  clear c0 c1 c2 c3 c4 c5 c6 c7 c8 c9 c10 c11 c12 c13 c14 c15 e1 e2 ef
  generalize cr2 0 0 z = x00
  generalize cr2 1 1 z = x11
  generalize cr2 2 2 z = x22
  generalize cr2 3 3 z = x33
  generalize cr2 0 1 z = x01
  generalize cr2 0 2 z = x02
  generalize cr2 0 3 z = x03
  generalize cr2 1 2 z = x12
  generalize cr2 1 3 z = x13
  generalize cr2 2 3 z = x23
  omega
theorem tw_2_1 {z : List xSt} (hz : ∀ u ∈ z, SO u) : 2 * shr z 2 1 = fc 2 * tws z 2 1 := by
  obtain ⟨c0, c1, c2, c3, c4, c5, c6, c7, c8, c9, c10, c11, c12, c13, c14, c15⟩ := cszL (z := z) (fun w hw => (hz w hw).1)
  have e1 : shr z 2 1 = ((0 + 1 * (csz 2 z - csz 0 z)) + 1 * (csz 3 z - csz 1 z)) := rfl
  have e2 : tws z 2 1 = ((0 + cro z 1 0) + 2 * cro z 1 1) := rfl
  have ef : fc 2 = 2 := rfl
  rw [e1, e2, ef]
  simp only [c0, c1, c2, c3, c4, c5, c6, c7, c8, c9, c10, c11, c12, c13, c14, c15, cro_cr2 hz, cr2_sym 1 0 z, cr2_sym 2 0 z, cr2_sym 3 0 z, cr2_sym 2 1 z, cr2_sym 3 1 z, cr2_sym 3 2 z]
  clear c0 c1 c2 c3 c4 c5 c6 c7 c8 c9 c10 c11 c12 c13 c14 c15 e1 e2 ef
  generalize cr2 0 0 z = x00
  generalize cr2 1 1 z = x11
  generalize cr2 2 2 z = x22
  generalize cr2 3 3 z = x33
  generalize cr2 0 1 z = x01
  generalize cr2 0 2 z = x02
  generalize cr2 0 3 z = x03
  generalize cr2 1 2 z = x12
  generalize cr2 1 3 z = x13
  generalize cr2 2 3 z = x23
  omega
theorem tw_3_0 {z : List xSt} (hz : ∀ u ∈ z, SO u) : 2 * shr z 3 0 = fc 3 * tws z 3 0 := by
  obtain ⟨c0, c1, c2, c3, c4, c5, c6, c7, c8, c9, c10, c11, c12, c13, c14, c15⟩ := cszL (z := z) (fun w hw => (hz w hw).1)
  have e1 : shr z 3 0 = ((((0 + 2 * (csz 1 z - csz 0 z)) + 1 * (csz 3 z - csz 2 z)) + 1 * (csz 5 z - csz 4 z)) + 2 * (csz 7 z - csz 6 z)) := rfl
  have e2 : tws z 3 0 = (((0 + 2 * cro z 0 0) + cro z 0 1) + cro z 0 2) := rfl
  have ef : fc 3 = 6 := rfl
  rw [e1, e2, ef]
  simp only [c0, c1, c2, c3, c4, c5, c6, c7, c8, c9, c10, c11, c12, c13, c14, c15, cro_cr2 hz, cr2_sym 1 0 z, cr2_sym 2 0 z, cr2_sym 3 0 z, cr2_sym 2 1 z, cr2_sym 3 1 z, cr2_sym 3 2 z]
  clear c0 c1 c2 c3 c4 c5 c6 c7 c8 c9 c10 c11 c12 c13 c14 c15 e1 e2 ef
  generalize cr2 0 0 z = x00
  generalize cr2 1 1 z = x11
  generalize cr2 2 2 z = x22
  generalize cr2 3 3 z = x33
  generalize cr2 0 1 z = x01
  generalize cr2 0 2 z = x02
  generalize cr2 0 3 z = x03
  generalize cr2 1 2 z = x12
  generalize cr2 1 3 z = x13
  generalize cr2 2 3 z = x23
  omega
theorem tw_3_1 {z : List xSt} (hz : ∀ u ∈ z, SO u) : 2 * shr z 3 1 = fc 3 * tws z 3 1 := by
  obtain ⟨c0, c1, c2, c3, c4, c5, c6, c7, c8, c9, c10, c11, c12, c13, c14, c15⟩ := cszL (z := z) (fun w hw => (hz w hw).1)
  have e1 : shr z 3 1 = ((((0 + 2 * (csz 2 z - csz 0 z)) + 1 * (csz 3 z - csz 1 z)) + 1 * (csz 6 z - csz 4 z)) + 2 * (csz 7 z - csz 5 z)) := rfl
  have e2 : tws z 3 1 = (((0 + cro z 1 0) + 2 * cro z 1 1) + cro z 1 2) := rfl
  have ef : fc 3 = 6 := rfl
  rw [e1, e2, ef]
  simp only [c0, c1, c2, c3, c4, c5, c6, c7, c8, c9, c10, c11, c12, c13, c14, c15, cro_cr2 hz, cr2_sym 1 0 z, cr2_sym 2 0 z, cr2_sym 3 0 z, cr2_sym 2 1 z, cr2_sym 3 1 z, cr2_sym 3 2 z]
  clear c0 c1 c2 c3 c4 c5 c6 c7 c8 c9 c10 c11 c12 c13 c14 c15 e1 e2 ef
  generalize cr2 0 0 z = x00
  generalize cr2 1 1 z = x11
  generalize cr2 2 2 z = x22
  generalize cr2 3 3 z = x33
  generalize cr2 0 1 z = x01
  generalize cr2 0 2 z = x02
  generalize cr2 0 3 z = x03
  generalize cr2 1 2 z = x12
  generalize cr2 1 3 z = x13
  generalize cr2 2 3 z = x23
  omega
theorem tw_3_2 {z : List xSt} (hz : ∀ u ∈ z, SO u) : 2 * shr z 3 2 = fc 3 * tws z 3 2 := by
  obtain ⟨c0, c1, c2, c3, c4, c5, c6, c7, c8, c9, c10, c11, c12, c13, c14, c15⟩ := cszL (z := z) (fun w hw => (hz w hw).1)
  have e1 : shr z 3 2 = ((((0 + 2 * (csz 4 z - csz 0 z)) + 1 * (csz 5 z - csz 1 z)) + 1 * (csz 6 z - csz 2 z)) + 2 * (csz 7 z - csz 3 z)) := rfl
  have e2 : tws z 3 2 = (((0 + cro z 2 0) + cro z 2 1) + 2 * cro z 2 2) := rfl
  have ef : fc 3 = 6 := rfl
  rw [e1, e2, ef]
  simp only [c0, c1, c2, c3, c4, c5, c6, c7, c8, c9, c10, c11, c12, c13, c14, c15, cro_cr2 hz, cr2_sym 1 0 z, cr2_sym 2 0 z, cr2_sym 3 0 z, cr2_sym 2 1 z, cr2_sym 3 1 z, cr2_sym 3 2 z]
  clear c0 c1 c2 c3 c4 c5 c6 c7 c8 c9 c10 c11 c12 c13 c14 c15 e1 e2 ef
  generalize cr2 0 0 z = x00
  generalize cr2 1 1 z = x11
  generalize cr2 2 2 z = x22
  generalize cr2 3 3 z = x33
  generalize cr2 0 1 z = x01
  generalize cr2 0 2 z = x02
  generalize cr2 0 3 z = x03
  generalize cr2 1 2 z = x12
  generalize cr2 1 3 z = x13
  generalize cr2 2 3 z = x23
  omega
theorem tw_4_0 {z : List xSt} (hz : ∀ u ∈ z, SO u) : 2 * shr z 4 0 = fc 4 * tws z 4 0 := by
  obtain ⟨c0, c1, c2, c3, c4, c5, c6, c7, c8, c9, c10, c11, c12, c13, c14, c15⟩ := cszL (z := z) (fun w hw => (hz w hw).1)
  have e1 : shr z 4 0 = ((((((((0 + 6 * (csz 1 z - csz 0 z)) + 2 * (csz 3 z - csz 2 z)) + 2 * (csz 5 z - csz 4 z)) + 2 * (csz 7 z - csz 6 z)) + 2 * (csz 9 z - csz 8 z)) + 2 * (csz 11 z - csz 10 z)) + 2 * (csz 13 z - csz 12 z)) + 6 * (csz 15 z - csz 14 z)) := rfl
  have e2 : tws z 4 0 = ((((0 + 2 * cro z 0 0) + cro z 0 1) + cro z 0 2) + cro z 0 3) := rfl
  have ef : fc 4 = 24 := rfl
  rw [e1, e2, ef]
  simp only [c0, c1, c2, c3, c4, c5, c6, c7, c8, c9, c10, c11, c12, c13, c14, c15, cro_cr2 hz, cr2_sym 1 0 z, cr2_sym 2 0 z, cr2_sym 3 0 z, cr2_sym 2 1 z, cr2_sym 3 1 z, cr2_sym 3 2 z]
  clear c0 c1 c2 c3 c4 c5 c6 c7 c8 c9 c10 c11 c12 c13 c14 c15 e1 e2 ef
  generalize cr2 0 0 z = x00
  generalize cr2 1 1 z = x11
  generalize cr2 2 2 z = x22
  generalize cr2 3 3 z = x33
  generalize cr2 0 1 z = x01
  generalize cr2 0 2 z = x02
  generalize cr2 0 3 z = x03
  generalize cr2 1 2 z = x12
  generalize cr2 1 3 z = x13
  generalize cr2 2 3 z = x23
  omega
theorem tw_4_1 {z : List xSt} (hz : ∀ u ∈ z, SO u) : 2 * shr z 4 1 = fc 4 * tws z 4 1 := by
  obtain ⟨c0, c1, c2, c3, c4, c5, c6, c7, c8, c9, c10, c11, c12, c13, c14, c15⟩ := cszL (z := z) (fun w hw => (hz w hw).1)
  have e1 : shr z 4 1 = ((((((((0 + 6 * (csz 2 z - csz 0 z)) + 2 * (csz 3 z - csz 1 z)) + 2 * (csz 6 z - csz 4 z)) + 2 * (csz 7 z - csz 5 z)) + 2 * (csz 10 z - csz 8 z)) + 2 * (csz 11 z - csz 9 z)) + 2 * (csz 14 z - csz 12 z)) + 6 * (csz 15 z - csz 13 z)) := rfl
  have e2 : tws z 4 1 = ((((0 + cro z 1 0) + 2 * cro z 1 1) + cro z 1 2) + cro z 1 3) := rfl
  have ef : fc 4 = 24 := rfl
  rw [e1, e2, ef]
  simp only [c0, c1, c2, c3, c4, c5, c6, c7, c8, c9, c10, c11, c12, c13, c14, c15, cro_cr2 hz, cr2_sym 1 0 z, cr2_sym 2 0 z, cr2_sym 3 0 z, cr2_sym 2 1 z, cr2_sym 3 1 z, cr2_sym 3 2 z]
  clear c0 c1 c2 c3 c4 c5 c6 c7 c8 c9 c10 c11 c12 c13 c14 c15 e1 e2 ef
  generalize cr2 0 0 z = x00
  generalize cr2 1 1 z = x11
  generalize cr2 2 2 z = x22
  generalize cr2 3 3 z = x33
  generalize cr2 0 1 z = x01
  generalize cr2 0 2 z = x02
  generalize cr2 0 3 z = x03
  generalize cr2 1 2 z = x12
  generalize cr2 1 3 z = x13
  generalize cr2 2 3 z = x23
  omega
theorem tw_4_2 {z : List xSt} (hz : ∀ u ∈ z, SO u) : 2 * shr z 4 2 = fc 4 * tws z 4 2 := by
  obtain ⟨c0, c1, c2, c3, c4, c5, c6, c7, c8, c9, c10, c11, c12, c13, c14, c15⟩ := cszL (z := z) (fun w hw => (hz w hw).1)
  have e1 : shr z 4 2 = ((((((((0 + 6 * (csz 4 z - csz 0 z)) + 2 * (csz 5 z - csz 1 z)) + 2 * (csz 6 z - csz 2 z)) + 2 * (csz 7 z - csz 3 z)) + 2 * (csz 12 z - csz 8 z)) + 2 * (csz 13 z - csz 9 z)) + 2 * (csz 14 z - csz 10 z)) + 6 * (csz 15 z - csz 11 z)) := rfl
  have e2 : tws z 4 2 = ((((0 + cro z 2 0) + cro z 2 1) + 2 * cro z 2 2) + cro z 2 3) := rfl
  have ef : fc 4 = 24 := rfl
  rw [e1, e2, ef]
  simp only [c0, c1, c2, c3, c4, c5, c6, c7, c8, c9, c10, c11, c12, c13, c14, c15, cro_cr2 hz, cr2_sym 1 0 z, cr2_sym 2 0 z, cr2_sym 3 0 z, cr2_sym 2 1 z, cr2_sym 3 1 z, cr2_sym 3 2 z]
  clear c0 c1 c2 c3 c4 c5 c6 c7 c8 c9 c10 c11 c12 c13 c14 c15 e1 e2 ef
  generalize cr2 0 0 z = x00
  generalize cr2 1 1 z = x11
  generalize cr2 2 2 z = x22
  generalize cr2 3 3 z = x33
  generalize cr2 0 1 z = x01
  generalize cr2 0 2 z = x02
  generalize cr2 0 3 z = x03
  generalize cr2 1 2 z = x12
  generalize cr2 1 3 z = x13
  generalize cr2 2 3 z = x23
  omega
theorem tw_4_3 {z : List xSt} (hz : ∀ u ∈ z, SO u) : 2 * shr z 4 3 = fc 4 * tws z 4 3 := by
  obtain ⟨c0, c1, c2, c3, c4, c5, c6, c7, c8, c9, c10, c11, c12, c13, c14, c15⟩ := cszL (z := z) (fun w hw => (hz w hw).1)
  have e1 : shr z 4 3 = ((((((((0 + 6 * (csz 8 z - csz 0 z)) + 2 * (csz 9 z - csz 1 z)) + 2 * (csz 10 z - csz 2 z)) + 2 * (csz 11 z - csz 3 z)) + 2 * (csz 12 z - csz 4 z)) + 2 * (csz 13 z - csz 5 z)) + 2 * (csz 14 z - csz 6 z)) + 6 * (csz 15 z - csz 7 z)) := rfl
  have e2 : tws z 4 3 = ((((0 + cro z 3 0) + cro z 3 1) + cro z 3 2) + 2 * cro z 3 3) := rfl
  have ef : fc 4 = 24 := rfl
  rw [e1, e2, ef]
  simp only [c0, c1, c2, c3, c4, c5, c6, c7, c8, c9, c10, c11, c12, c13, c14, c15, cro_cr2 hz, cr2_sym 1 0 z, cr2_sym 2 0 z, cr2_sym 3 0 z, cr2_sym 2 1 z, cr2_sym 3 1 z, cr2_sym 3 2 z]
  clear c0 c1 c2 c3 c4 c5 c6 c7 c8 c9 c10 c11 c12 c13 c14 c15 e1 e2 ef
  generalize cr2 0 0 z = x00
  generalize cr2 1 1 z = x11
  generalize cr2 2 2 z = x22
  generalize cr2 3 3 z = x33
  generalize cr2 0 1 z = x01
  generalize cr2 0 2 z = x02
  generalize cr2 0 3 z = x03
  generalize cr2 1 2 z = x12
  generalize cr2 1 3 z = x13
  generalize cr2 2 3 z = x23
  omega
theorem tws_2 (z : List xSt) (hz : ∀ u ∈ z, SO u) {T t : Nat} (hT : T ≤ 4) (ht : t < T) : 2 * shr z T t = fc T * tws z T t := by
  have cT : (T = 1 ∧ t = 0) ∨ (T = 2 ∧ t = 0) ∨ (T = 2 ∧ t = 1) ∨ (T = 3 ∧ t = 0) ∨ (T = 3 ∧ t = 1) ∨ (T = 3 ∧ t = 2) ∨ (T = 4 ∧ t = 0) ∨ (T = 4 ∧ t = 1) ∨ (T = 4 ∧ t = 2) ∨ (T = 4 ∧ t = 3) := by omega
  rcases cT with ⟨e, f⟩ | ⟨e, f⟩ | ⟨e, f⟩ | ⟨e, f⟩ | ⟨e, f⟩ | ⟨e, f⟩ | ⟨e, f⟩ | ⟨e, f⟩ | ⟨e, f⟩ | ⟨e, f⟩ <;> rw [e, f]
  · exact tw_1_0 hz
  · exact tw_2_0 hz
  · exact tw_2_1 hz
  · exact tw_3_0 hz
  · exact tw_3_1 hz
  · exact tw_3_2 hz
  · exact tw_4_0 hz
  · exact tw_4_1 hz
  · exact tw_4_2 hz
  · exact tw_4_3 hz
theorem frac {a b c d : Nat} (hb : 0 < b) (hd : 0 < d) (h : a * d = c * b) : a / Nat.gcd a b = c / Nat.gcd c d ∧ b / Nat.gcd a b = d / Nat.gcd c d := by
  have g0 : 0 < Nat.gcd a b := Nat.gcd_pos_of_pos_right _ hb
  have h0 : 0 < Nat.gcd c d := Nat.gcd_pos_of_pos_right _ hd
  have ga := Nat.div_mul_cancel (Nat.gcd_dvd_left a b)
  have gb := Nat.div_mul_cancel (Nat.gcd_dvd_right a b)
  have hc := Nat.div_mul_cancel (Nat.gcd_dvd_left c d)
  have hdd := Nat.div_mul_cancel (Nat.gcd_dvd_right c d)
  have co1 : Nat.Coprime (a / Nat.gcd a b) (b / Nat.gcd a b) := Nat.coprime_div_gcd_div_gcd g0
  have co2 : Nat.Coprime (c / Nat.gcd c d) (d / Nat.gcd c d) := Nat.coprime_div_gcd_div_gcd h0
  generalize a / Nat.gcd a b = a' at *
  generalize b / Nat.gcd a b = b' at *
  generalize c / Nat.gcd c d = c' at *
  generalize d / Nat.gcd c d = d' at *
  generalize Nat.gcd a b = g at *
  generalize Nat.gcd c d = k at *
  have e : a' * d' = c' * b' := by
    rw [← ga, ← gb, ← hc, ← hdd] at h
    have : (a' * d') * (g * k) = (c' * b') * (g * k) := by
      rw [show (a' * d') * (g * k) = a' * g * (d' * k) by rw [Nat.mul_mul_mul_comm], h]
      rw [show (c' * b') * (g * k) = c' * k * (b' * g) by rw [Nat.mul_comm g k, Nat.mul_mul_mul_comm]]
    exact Nat.eq_of_mul_eq_mul_right (Nat.mul_pos g0 h0) this
  have b1 : b' ∣ d' := (Nat.Coprime.symm co1).dvd_of_dvd_mul_left ⟨c', by rw [e, Nat.mul_comm]⟩
  have b2 : d' ∣ b' := (Nat.Coprime.symm co2).dvd_of_dvd_mul_left ⟨a', by rw [← e, Nat.mul_comm]⟩
  have be : b' = d' := Nat.dvd_antisymm b1 b2
  refine ⟨?_, be⟩
  rw [be] at e
  have d0 : 0 < d' := by
    rcases Nat.eq_zero_or_pos d' with z | z
    · rw [z, Nat.zero_mul] at hdd
      omega
    · exact z
  exact Nat.eq_of_mul_eq_mul_right d0 e
theorem tld_eq {u : Bool} {a b c d : Nat} (hb : 0 < b) (hd : 0 < d) (h : a * d = c * b) : tld u a b = tld u c d := by
  obtain ⟨h1, h2⟩ := frac hb hd h
  unfold tld
  rw [h1, h2]
theorem fc_pos : ∀ n, 0 < fc n
  | 0 => by decide
  | n + 1 => Nat.mul_pos (by omega) (fc_pos n)
theorem share_eq (u : Bool) (z : List xSt) (hz : ∀ u ∈ z, SO u) {T t : Nat} (hT : T ≤ 4) (ht : t < T) : tld u (shr z T t) (fc T) = tld u (tws z T t) 2 := tld_eq (fc_pos T) (by decide) (by
  have := tws_2 z hz hT ht
  rw [Nat.mul_comm, this, Nat.mul_comm])
def alw (T x : Nat) : Nat := foldN (fun c u => c + wof T x u) 0 (2 ^ T) 0
theorem alw_eq : ∀ T, T ≤ 4 → ∀ x, x ≤ 10 → alw T x = 10 ^ T := by
  have : ∀ T, T < 5 → ∀ x, x < 11 → alw T x = 10 ^ T := by decide +kernel
  exact fun T hT x hx => this T (by omega) x (by omega)
theorem foldN_add {α : Type} (f : α → Nat → α) : ∀ a b i c, foldN f i (a + b) c = foldN f (i + a) b (foldN f i a c)
  | 0, b, i, c => by rw [Nat.zero_add, Nat.add_zero]; rfl
  | a + 1, b, i, c => by
    rw [show a + 1 + b = (a + b) + 1 by omega]
    show foldN f (i + 1) (a + b) (f c i) = foldN f (i + (a + 1)) b (foldN f (i + 1) a (f c i))
    rw [foldN_add f a b (i + 1), show i + 1 + a = i + (a + 1) by omega]
theorem foldN_cong {α : Type} {f g : α → Nat → α} : ∀ k i c, (∀ c j, i ≤ j → j < i + k → f c j = g c j) → foldN f i k c = foldN g i k c
  | 0, _, _, _ => rfl
  | k + 1, i, c, h => by
    show foldN f (i + 1) k (f c i) = foldN g (i + 1) k (g c i)
    rw [h c i (by omega) (by omega), foldN_cong k (i + 1) _ (fun c j h1 h2 => h c j (by omega) (by omega))]
theorem foldN_sh {α : Type} (f : α → Nat → α) (d : Nat) : ∀ k i c, foldN (fun c j => f c (j + d)) i k c = foldN f (i + d) k c
  | 0, _, _ => rfl
  | k + 1, i, c => by
    show foldN (fun c j => f c (j + d)) (i + 1) k (f c (i + d)) = foldN f (i + d + 1) k (f c (i + d))
    rw [foldN_sh f d k (i + 1), show i + 1 + d = i + d + 1 by omega]
/-- stars one behind another -/
theorem star_blk {α : Type} (F : α → Nat → Nat → α) : ∀ n a c, foldN (fun c e => F c (e / 11) (1 + e % 11)) (11 * a) (11 * n) c = foldN (fun c a => foldN (fun c k => F c a k) 1 11 c) a n c
  | 0, a, c => rfl
  | n + 1, a, c => by
    rw [show 11 * (n + 1) = 11 + 11 * n by omega, foldN_add, show 11 * a + 11 = 11 * (a + 1) by omega, star_blk F n (a + 1)]
    show _ = foldN _ (a + 1) n (foldN (fun c k => F c a k) 1 11 c)
    congr 1
    have h1 := foldN_sh (fun c e => F c (e / 11) (1 + e % 11)) (11 * a) 11 0 c
    have h2 := foldN_sh (fun c k => F c a k) 1 11 0 c
    rw [Nat.zero_add] at h1 h2
    rw [← h1, ← h2]
    refine foldN_cong 11 0 c (fun c j _ hj => ?_)
    show F c ((j + 11 * a) / 11) (1 + (j + 11 * a) % 11) = F c a (j + 1)
    rw [show (j + 11 * a) / 11 = a by omega, show 1 + (j + 11 * a) % 11 = j + 1 by omega]
def stP (sn : List xSn) (q : Nat × Option Nat) (a k : Nat) : Nat × Option Nat := if fitQ sn a k then (q.1 + 1, if q.1 = 0 then some (100 * a + k) else q.2) else q
theorem stP_ok (sn : List xSn) : foldN (fun q e => stP sn q (e / 11) (1 + e % 11)) 0 132 (0, none) = (hwm sn, fstS sn) := by
  have h := star_blk (stP sn) 12 0 (0, none)
  rw [show 11 * 0 = 0 by rfl, show 11 * 12 = 132 by rfl] at h
  rw [h]
  have inner : ∀ a k i n o, (n = 0 ↔ o = none) → foldN (fun q k => stP sn q a k) i k (n, o) = (foldN (fun c k => if fitQ sn a k then c + 1 else c) i k n, foldN (fstI sn a) i k o) ∧ ((foldN (fun c k => if fitQ sn a k then c + 1 else c) i k n) = 0 ↔ foldN (fstI sn a) i k o = none) := by
    intro a k
    induction k with
    | zero => intro i n o ho; exact ⟨rfl, ho⟩
    | succ k ih =>
      intro i n o ho
      have e : stP sn (n, o) a i = ((if fitQ sn a i then n + 1 else n), fstI sn a o i) := by
        unfold stP fstI
        cases fitQ sn a i with
        | false => simp
        | true =>
          by_cases hn : n = 0
          · have := ho.mp hn
            subst this hn
            rfl
          · cases o with
            | none => exact absurd (ho.mpr rfl) hn
            | some v => simp [hn]
      have ho2 : (if fitQ sn a i then n + 1 else n) = 0 ↔ fstI sn a o i = none := by
        unfold fstI
        cases fitQ sn a i with
        | false => simpa using ho
        | true =>
          cases o with
          | none => simp
          | some v => simp
      have := ih (i + 1) _ _ ho2
      show foldN (fun q k => stP sn q a k) (i + 1) k (stP sn (n, o) a i) = _ ∧ _
      rw [e]
      exact this
  have outer : ∀ m a n o, (n = 0 ↔ o = none) → foldN (fun q a => foldN (fun q k => stP sn q a k) 1 11 q) a m (n, o) = (foldN (fun c a => foldN (fun c k => if fitQ sn a k then c + 1 else c) 1 11 c) a m n, foldN (fun o a => foldN (fstI sn a) 1 11 o) a m o) := by
    intro m
    induction m with
    | zero => intro a n o _; rfl
    | succ m ih =>
      intro a n o ho
      have h1 := inner a 11 1 n o ho
      show foldN (fun q a => foldN (fun q k => stP sn q a k) 1 11 q) (a + 1) m (foldN (fun q k => stP sn q a k) 1 11 (n, o)) = _
      rw [h1.1]
      exact ih (a + 1) _ _ h1.2
  exact outer 12 0 0 none ⟨fun _ => rfl, fun _ => rfl⟩
