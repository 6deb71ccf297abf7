/-! a board is changed, further: pure rows -/
theorem countP_sym {s : xSt} (hs : SO s) {l : List xSt} (hl : ∀ u ∈ l, SO u) : l.countP (crS s) = crA s.2.1 s.2.2.1 l := by
  unfold crA crc
  refine List.countP_congr (fun u hu => ?_)
  have := hl u hu
  show crs4 _ _ _ _ = true ↔ (true && crs4 _ _ _ _) = true
  rw [Bool.true_and, crs4_sym _ hs.2.1 _ hs.2.2.1 _ this.2.1 _ this.2.2.1]
theorem crA_app (f o : Nat) (a b : List xSt) : crA f o (a ++ b) = crA f o a + crA f o b := List.countP_append
theorem crA_cons (f o : Nat) (s : xSt) (b : List xSt) : crA f o (s :: b) = crA f o b + if crs4 s.2.1 s.2.2.1 f o = true then 1 else 0 := by
  unfold crA crc
  rw [List.countP_cons]
  simp only [Bool.true_and]
theorem crz_mid {s : xSt} (hs : SO s) : ∀ a b : List xSt, (∀ u ∈ a, SO u) → (∀ u ∈ b, SO u) → crz (a ++ s :: b) = crz (a ++ b) + crA s.2.1 s.2.2.1 (a ++ s :: b)
  | [], b, _, hb => by
    show b.countP (crS s) + crz b = crz b + crA s.2.1 s.2.2.1 (s :: b)
    rw [crA_cons, countP_sym hs hb, show crs4 s.2.1 s.2.2.1 s.2.1 s.2.2.1 = false from crS_self s]
    simp
    omega
  | u :: a, b, ha, hb => by
    have ih := crz_mid hs a b (fun v hv => ha v (List.mem_cons_of_mem _ hv)) hb
    show (a ++ s :: b).countP (crS u) + crz (a ++ s :: b) = (a ++ b).countP (crS u) + crz (a ++ b) + crA s.2.1 s.2.2.1 (u :: (a ++ s :: b))
    rw [ih, crA_cons, List.countP_append, List.countP_cons, List.countP_append]
    show _ + (_ + if crS u s = true then 1 else 0) + _ = _ + (_ + if crs4 u.2.1 u.2.2.1 s.2.1 s.2.2.1 = true then 1 else 0)
    unfold crS
    omega
theorem cnt_mid (a b : List xSt) (s : xSt) (t : Nat) : cnt (a ++ s :: b) t = cnt (a ++ b) t + if s.1 = t then 1 else 0 := by
  unfold cnt
  rw [List.countP_append, List.countP_cons, List.countP_append]
  simp only [beq_iff_eq]
  omega
theorem at_split {z : List xSt} {i : Nat} {s : xSt} (h : z[i]? = some s) : z = z.take i ++ s :: z.drop (i + 1) ∧ z.eraseIdx i = z.take i ++ z.drop (i + 1) := by
  have hl := Ls.lt h
  have e : z[i] = s := Option.some.inj ((List.getElem?_eq_getElem hl).symm.trans h)
  refine ⟨?_, List.eraseIdx_eq_take_drop_succ ..⟩
  rw [← e, ← List.drop_eq_getElem_cons hl, List.take_append_drop]
def uwd (P : xP) (j i : Nat) (s : xSt) : xP := (P.1, P.2.1, fun t => if t = j then s.2.1 else P.2.2.1 t, P.2.2.2.eraseIdx i)
theorem uwd_ok {P : xP} {j i : Nat} {s : xSt} (h : POk P) (hl : las P.2.2.2 j = some i) (hs : P.2.2.2[i]? = some s) : POk (uwd P j i s) ∧ (∀ t, cnt (P.2.2.2.eraseIdx i) t + (if j = t then 1 else 0) = cnt P.2.2.2 t) ∧ crz (P.2.2.2.eraseIdx i) + crA s.2.1 s.2.2.1 P.2.2.2 = crz P.2.2.2 ∧ s.1 = j ∧ j < P.1 := by
  obtain ⟨s', hs', e1, e2⟩ := las_some hl
  rw [hs] at hs'
  cases hs'
  obtain ⟨h1, h2, h3, h4, h5⟩ := h
  obtain ⟨q1, q2⟩ := at_split hs
  have hm := h3 s (List.mem_of_getElem? hs)
  have hc : ∀ t, cnt (P.2.2.2.eraseIdx i) t + (if j = t then 1 else 0) = cnt P.2.2.2 t := by
    intro t
    rw [q2]
    conv => rhs; rw [q1]
    rw [cnt_mid, e1]
  have hsub : ∀ u ∈ P.2.2.2.eraseIdx i, u ∈ P.2.2.2 := fun u hu => List.mem_of_mem_eraseIdx hu
  refine ⟨⟨h1, fun t ht => ⟨(h2 t ht).1, ?_, ?_⟩, fun u hu => h3 u (hsub u hu), fun t => ?_, fun u hu => h5 u (hsub u hu)⟩, hc, ?_, e1, e1 ▸ hm.1⟩
  · show (if t = j then s.2.1 else P.2.2.1 t) < 12
    split
    · exact hm.2.2.1
    · exact (h2 t ht).2.1
  · have := hc t
    have := (h2 t ht).2.2
    show cnt (P.2.2.2.eraseIdx i) t ≤ 12
    omega
  · show (((P.2.2.2.eraseIdx i).filter (fun s => s.1 == t)).map (fun s => s.2.2.2)).Perm (List.range (cnt (P.2.2.2.eraseIdx i) t))
    have hp := h4 t
    have hct := hc t
    rw [q1] at hp
    rw [q2] at hct ⊢
    rw [List.filter_append, List.map_append] at hp ⊢
    rw [← q1] at hp
    by_cases e : j = t
    · rw [if_pos e] at hct
      have ef : List.filter (fun s : xSt => s.1 == t) (s :: P.2.2.2.drop (i + 1)) = s :: List.filter (fun s : xSt => s.1 == t) (P.2.2.2.drop (i + 1)) := List.filter_cons_of_pos (by simp [e1, e])
      rw [ef, List.map_cons, ← hct, List.range_succ] at hp
      have hp2 := (List.perm_middle.symm.trans hp).trans (List.perm_append_singleton ..)
      have e3 : s.2.2.2 = cnt (P.2.2.2.take i ++ P.2.2.2.drop (i + 1)) t := by
        rw [e] at e2
        omega
      rw [← e3] at hp2
      have := hp2.cons_inv
      rw [e3] at this
      exact this
    · rw [if_neg e, Nat.add_zero] at hct
      have ef : List.filter (fun s : xSt => s.1 == t) (s :: P.2.2.2.drop (i + 1)) = List.filter (fun s : xSt => s.1 == t) (P.2.2.2.drop (i + 1)) := List.filter_cons_of_neg (by simp [e1, e])
      rw [ef, ← hct] at hp
      exact hp
  · have := crz_mid hm.2 (P.2.2.2.take i) (P.2.2.2.drop (i + 1)) (fun u hu => (h3 u (List.mem_of_mem_take hu)).2) (fun u hu => (h3 u (List.mem_of_mem_drop hu)).2)
    rw [← q1, ← q2] at this
    exact this.symm
def cutP (P : xP) (j : Nat) : xP := (P.1, P.2.1, P.2.2.1, P.2.2.2.filter (fun s => s.1 != j))
theorem cnt_cut (z : List xSt) (j t : Nat) : cnt (z.filter (fun s => s.1 != j)) t = if t = j then 0 else cnt z t := by
  unfold cnt
  rw [List.countP_filter]
  by_cases e : t = j
  · rw [if_pos e]
    refine List.countP_eq_zero.mpr (fun s _ => ?_)
    subst e
    simp
  · rw [if_neg e]
    refine List.countP_congr (fun s _ => ?_)
    simp only [Bool.and_eq_true, beq_iff_eq, bne_iff_ne]
    constructor
    · exact fun h => h.1
    · exact fun h => ⟨h, fun q => e (h ▸ q)⟩
theorem cut_ok {P : xP} {j : Nat} (h : POk P) : POk (cutP P j) := by
  obtain ⟨h1, h2, h3, h4, h5⟩ := h
  refine ⟨h1, fun t ht => ⟨(h2 t ht).1, (h2 t ht).2.1, ?_⟩, fun u hu => h3 u (List.mem_filter.mp hu).1, fun t => ?_, fun u hu => h5 u (List.mem_filter.mp hu).1⟩
  · show cnt (P.2.2.2.filter (fun s => s.1 != j)) t ≤ 12
    rw [cnt_cut]
    have := (h2 t ht).2.2
    split <;> omega
  · show (((P.2.2.2.filter (fun s => s.1 != j)).filter (fun s => s.1 == t)).map (fun s => s.2.2.2)).Perm (List.range (cnt (P.2.2.2.filter (fun s => s.1 != j)) t))
    rw [cnt_cut, List.filter_filter]
    by_cases e : t = j
    · rw [if_pos e]
      have : List.filter (fun a : xSt => a.1 == t && a.1 != j) P.2.2.2 = [] := List.filter_eq_nil_iff.mpr (fun s _ => by subst e; simp)
      rw [this]
      exact List.Perm.refl _
    · rw [if_neg e]
      have : List.filter (fun a : xSt => a.1 == t && a.1 != j) P.2.2.2 = List.filter (fun a : xSt => a.1 == t) P.2.2.2 := List.filter_congr (fun s _ => by
        by_cases hs : s.1 = t
        · simp [hs, e]
        · simp [hs])
      rw [this]
      exact h4 t
def rotN (n : Nat) : Nat := (n + 1) % 12
def negN (n : Nat) : Nat := (12 - n) % 12
def mpS (g : Nat → Nat) (s : xSt) : xSt := (s.1, g s.2.1, g s.2.2.1, s.2.2.2)
def trnP (P : xP) : xP := (P.1, P.2.1, fun t => rotN (P.2.2.1 t), P.2.2.2.map (mpS rotN))
def ovrP (P : xP) : xP := (P.1, P.2.1, fun t => negN (P.2.2.1 t), (P.2.2.2.map (mpS negN)).reverse)
theorem rot_all : ∀ a, a < 12 → fmod (nI a + nI 1) 12 = nI (rotN a) ∧ rotN a < 12 := by decide +kernel
theorem neg_all : ∀ a, a < 12 → fmod (nI 0 + -(nI a)) 12 = nI (negN a) ∧ negN a < 12 := by decide +kernel
theorem rot_cr : ∀ a, a < 12 → ∀ b, b < 12 → ∀ c, c < 12 → ∀ d, d < 12 → crs4 (rotN a) (rotN b) (rotN c) (rotN d) = crs4 a b c d := by decide +kernel
theorem neg_cr : ∀ a, a < 12 → ∀ b, b < 12 → ∀ c, c < 12 → ∀ d, d < 12 → crs4 (negN a) (negN b) (negN c) (negN d) = crs4 a b c d := by decide +kernel
theorem cnt_mp (g : Nat → Nat) (z : List xSt) (t : Nat) : cnt (z.map (mpS g)) t = cnt z t := by
  unfold cnt
  rw [List.countP_map]
  rfl
theorem crz_mp {g : Nat → Nat} (hg : ∀ a, a < 12 → ∀ b, b < 12 → ∀ c, c < 12 → ∀ d, d < 12 → crs4 (g a) (g b) (g c) (g d) = crs4 a b c d) : ∀ z : List xSt, (∀ u ∈ z, SO u) → crz (z.map (mpS g)) = crz z
  | [], _ => rfl
  | s :: r, h => by
    have ih := crz_mp hg r (fun u hu => h u (List.mem_cons_of_mem _ hu))
    have hs := h s (List.mem_cons_self ..)
    show (r.map (mpS g)).countP (crS (mpS g s)) + crz (r.map (mpS g)) = r.countP (crS s) + crz r
    rw [ih, List.countP_map]
    congr 1
    refine List.countP_congr (fun u hu => ?_)
    have hu2 := h u (List.mem_cons_of_mem _ hu)
    show crs4 (g s.2.1) (g s.2.2.1) (g u.2.1) (g u.2.2.1) = true ↔ crs4 _ _ _ _ = true
    rw [hg _ hs.2.1 _ hs.2.2.1 _ hu2.2.1 _ hu2.2.2.1]
theorem crz_rev : ∀ z : List xSt, (∀ u ∈ z, SO u) → crz z.reverse = crz z
  | [], _ => rfl
  | s :: r, h => by
    have ih := crz_rev r (fun u hu => h u (List.mem_cons_of_mem _ hu))
    have hs := h s (List.mem_cons_self ..)
    rw [List.reverse_cons, crz_app, ih]
    show crz r + crA s.2.1 s.2.2.1 r.reverse = r.countP (crS s) + crz r
    rw [countP_sym hs (fun u hu => h u (List.mem_cons_of_mem _ hu))]
    unfold crA crc
    rw [List.countP_reverse]
    omega
theorem SO_mp {g : Nat → Nat} (hg : ∀ a, a < 12 → g a < 12) {s : xSt} (h : SO s) : SO (mpS g s) := ⟨h.1, hg _ h.2.1, hg _ h.2.2.1, h.2.2.2⟩
theorem fm_mp (g : Nat → Nat) (z : List xSt) (t : Nat) : ((z.map (mpS g)).filter (fun s => s.1 == t)).map (fun s => s.2.2.2) = (z.filter (fun s => s.1 == t)).map (fun s => s.2.2.2) := by
  rw [List.filter_map, List.map_map]
  rfl
theorem trn_ok {P : xP} (h : POk P) : POk (trnP P) := by
  obtain ⟨h1, h2, h3, h4, h5⟩ := h
  refine ⟨h1, fun t ht => ⟨(h2 t ht).1, (rot_all _ (h2 t ht).2.1).2, ?_⟩, fun u hu => ?_, fun t => ?_, fun u hu => ?_⟩
  · show cnt (P.2.2.2.map (mpS rotN)) t ≤ 12
    rw [cnt_mp]
    exact (h2 t ht).2.2
  · obtain ⟨s, hs, rfl⟩ := List.mem_map.mp hu
    exact ⟨(h3 s hs).1, SO_mp (fun a ha => (rot_all a ha).2) (h3 s hs).2⟩
  · show (((P.2.2.2.map (mpS rotN)).filter (fun s => s.1 == t)).map (fun s => s.2.2.2)).Perm (List.range (cnt (P.2.2.2.map (mpS rotN)) t))
    rw [cnt_mp, fm_mp]
    exact h4 t
  · obtain ⟨s, hs, rfl⟩ := List.mem_map.mp hu
    have a1 := h5 s hs
    obtain ⟨-, o1, o2, o3, o4⟩ := h3 s hs
    show rotN s.2.1 ≠ rotN s.2.2.1
    unfold rotN
    omega
theorem ovr_ok {P : xP} (h : POk P) : POk (ovrP P) := by
  obtain ⟨h1, h2, h3, h4, h5⟩ := h
  have hcr : ∀ t, cnt (P.2.2.2.map (mpS negN)).reverse t = cnt P.2.2.2 t := fun t => by
    unfold cnt
    rw [List.countP_reverse]
    exact cnt_mp _ _ _
  refine ⟨h1, fun t ht => ⟨(h2 t ht).1, (neg_all _ (h2 t ht).2.1).2, ?_⟩, fun u hu => ?_, fun t => ?_, fun u hu => ?_⟩
  · show cnt (P.2.2.2.map (mpS negN)).reverse t ≤ 12
    rw [hcr]
    exact (h2 t ht).2.2
  · obtain ⟨s, hs, rfl⟩ := List.mem_map.mp (List.mem_reverse.mp hu)
    exact ⟨(h3 s hs).1, SO_mp (fun a ha => (neg_all a ha).2) (h3 s hs).2⟩
  · show (((P.2.2.2.map (mpS negN)).reverse.filter (fun s => s.1 == t)).map (fun s => s.2.2.2)).Perm (List.range (cnt (P.2.2.2.map (mpS negN)).reverse t))
    rw [hcr, List.filter_reverse, List.map_reverse, fm_mp]
    exact (List.reverse_perm _).trans (h4 t)
  · obtain ⟨s, hs, rfl⟩ := List.mem_map.mp (List.mem_reverse.mp hu)
    have a1 := h5 s hs
    obtain ⟨-, o1, o2, o3, o4⟩ := h3 s hs
    show negN s.2.1 ≠ negN s.2.2.1
    unfold negN
    omega
/-- one stretch is another one -/
theorem Ls.set {σ : xS} {B i : Nat} {z : List xSt} {s : xSt} (h : Ls σ B z) (hi : i < z.length) (hs : SO s) : Ls (xpi σ (B + 4) i (nI (pkC s))) B (z.set i s) := by
  obtain ⟨h1, h2, h3, h4⟩ := h
  refine ⟨?_, by rw [List.length_set]; exact h2, fun q u hu => ?_, fun u hu => ?_⟩
  · rw [xpi_ne _ _ _ (by omega), List.length_set]
    exact h1
  · by_cases e : q = i
    · subst e
      rw [List.getElem?_set_self hi] at hu
      cases hu
      rw [xpi_rd, if_pos (by omega)]
    · rw [List.getElem?_set_ne (Ne.symm e)] at hu
      rw [xpi_rd, if_neg (by omega)]
      exact h3 q u hu
  · rcases List.mem_or_eq_of_mem_set hu with q | q
    · exact h4 u q
    · rw [q]; exact hs
theorem Ls.fr {σ t : xS} {B : Nat} {z : List xSt} (h : Ls σ B z) (e1 : t.1 B 5 = σ.1 B 5) (e2 : t.1 (B + 4) = σ.1 (B + 4)) : Ls t B z := ⟨by rw [e1]; exact h.1, h.2.1, by rw [e2]; exact h.2.2.1, h.2.2.2⟩
