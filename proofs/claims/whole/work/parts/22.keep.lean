/-! the row of acts, the slots, what is seen -/
def hps (f j : Nat) : Nat := 16 + 5 * ((f + j) % 14)
/-- the boards as they were ahead of each of the last acts, the last one first -/
def Hs (σ : xS) (ac : List xP) : Prop := ∃ f : Nat, f < 14 ∧ σ.1 14 1 = nI f ∧ σ.1 14 2 = nI ac.length ∧ ac.length ≤ 14 ∧ ∀ i P, ac[i]? = some P → Bd σ (hps f (ac.length - 1 - i)) P
theorem hps_bd (f j : Nat) : IsBd (hps f j) ∧ xr GS 15 ((f + j) % 14) = hps f j := by
  have := bd_15 ((f + j) % 14) (Nat.mod_lt _ (by decide))
  exact ⟨this.2, this.1⟩
theorem hps_ne {f i j : Nat} (hi : i < 14) (hj : j < 14) (h : i ≠ j) : hps f i ≠ hps f j := by
  unfold hps
  omega
theorem hps_rng (f j : Nat) : 16 ≤ hps f j ∧ hps f j ≤ 81 := by
  unfold hps
  omega
theorem hps_4 (f j : Nat) : hps f j ≠ 4 := by
  have := hps_rng f j
  omega
def Fh (σ t : xS) : Prop := (∀ c, c ≠ 14 → (c < 16 ∨ 85 < c) → t.1 c = σ.1 c) ∧ t.2 = σ.2
def Sh (σ : xS) (kp : Nat → Option xP) : Prop := ∀ s, s < 2 → σ.1 88 s = bI (kp s).isSome ∧ ∀ P, kp s = some P → Bd σ (89 + 5 * s) P
def kpS (kp : Nat → Option xP) (s : Nat) (P : xP) : Nat → Option xP := fun q => if q = s then some P else kp q
theorem kpS_at (kp : Nat → Option xP) (s : Nat) (P : xP) : kpS kp s P s = some P := if_pos rfl
theorem kpS_ne (kp : Nat → Option xP) {s q : Nat} (P : xP) (h : q ≠ s) : kpS kp s P q = kp q := if_neg h
def Fs (σ t : xS) : Prop := (∀ c, (c < 88 ∨ 98 < c) → t.1 c = σ.1 c) ∧ t.2 = σ.2
abbrev xSn : Type := Nat × Nat × Nat
def Sn (σ : xS) (sn : List xSn) : Prop := σ.1 99 3 = nI sn.length ∧ sn.length ≤ 6 ∧ ∀ i q, sn[i]? = some q → σ.1 100 i = nI q.1 ∧ σ.1 101 i = nI q.2.1 ∧ σ.1 102 i = nI q.2.2 ∧ q.1 ≤ 12 ∧ q.2.1 < 12 ∧ q.2.2 ≤ 1
def fitQ (sn : List xSn) (a k : Nat) : Bool := sn.all (fun q => ((a + k * q.1) % 12 == q.2.1) == (q.2.2 == 1))
def hwm (sn : List xSn) : Nat := foldN (fun c a => foldN (fun c k => if fitQ sn a k then c + 1 else c) 1 11 c) 0 12 0
def fstI (sn : List xSn) (a : Nat) (o : Option Nat) (k : Nat) : Option Nat := if o.isNone && fitQ sn a k then some (100 * a + k) else o
def fstS (sn : List xSn) : Option Nat := foldN (fun o a => foldN (fstI sn a) 1 11 o) 0 12 none
def o9 (o : Option Nat) : Int32 := match o with
  | none => -9
  | some n => nI n
theorem fstI_keep (sn : List xSn) (a v : Nat) : ∀ k i, foldN (fstI sn a) i k (some v) = some v := by
  intro k
  induction k with
  | zero => intro i; rfl
  | succ k ih => intro i; exact ih (i + 1)
theorem fstS_keep (sn : List xSn) (v : Nat) : ∀ k i, foldN (fun o a => foldN (fstI sn a) 1 11 o) i k (some v) = some v := by
  intro k
  induction k with
  | zero => intro i; rfl
  | succ k ih =>
    intro i
    show foldN (fun o a => foldN (fstI sn a) 1 11 o) (i + 1) k (foldN (fstI sn i) 1 11 (some v)) = some v
    rw [fstI_keep]
    exact ih (i + 1)
theorem fm_small : ∀ m, m < 200 → fmod (nI m) 12 = nI (m % 12) := by decide +kernel
theorem bd_no14 : ∀ B ∈ bds, 14 < B ∨ B + 4 < 14 := by decide +kernel
theorem bd_no88 : ∀ B ∈ bds, 88 < B ∨ B + 4 < 88 := by decide +kernel
section HS
variable {xs : Nat → Int32} {L : Nat} {σ : xS} {P : xP} {ac : List xP} {sn : List xSn} {kp : Nat → Option xP}
theorem e_aald {M : xM} {pc : Nat} {lv st : List Value} {Q : Option Value → xS → Prop} {a i n j : Nat} (hd : decode M.2.1 pc = .ok (.aaload, 1)) (hk : xk GS a = 13) (hn : xn GS a = n) (hi : i < n) (hb : n < 2147483648) (hv : xr GS a i = j) (kk : Ev xs L M (pc + 1) lv (.ref j :: st) GS σ GS Q) : Ev xs L M pc lv (.int (nI i) :: .ref a :: st) GS σ GS Q := xe_aald hd hk (by rw [hn]; exact vp_in_nI hi hb) (by rw [nI_clamp (by omega), hv]; exact kk)
theorem E_hsize {x : Int32} (h : σ.1 14 2 = x) : Cl xs L mX3_size [.ref 14] GS σ GS (pI σ x) := by
  show Ev xs L mX3_size 0 [.ref 14] [] GS σ GS _
  refine xe_aload_n dX3_size_0 rfl ?_
  refine e_getI (G := GS) (r := 14) dX3_size_1 fdX3_22 rfl gk_14 h ?_
  exact e_iret dX3_size_4 rfl (by first | rfl | simp [*])
theorem E_hclear : Cl xs L mX3_clear [.ref 14] GS σ GS (fun v t => v = none ∧ Hs t [] ∧ Fh σ t) := by
  show Ev xs L mX3_clear 0 [.ref 14] [] GS σ GS _
  refine xe_aload_n dX3_clear_0 rfl ?_
  refine xe_iconst (v := nI 0) dX3_clear_1 (by decide) ?_
  refine xe_putI (G := GS) (r := 14) dX3_clear_2 fdX3_18 rfl gk_14 ?_
  refine xe_aload_n dX3_clear_5 rfl ?_
  refine xe_iconst (v := nI 0) dX3_clear_6 (by decide) ?_
  refine xe_putI (G := GS) (r := 14) dX3_clear_7 fdX3_22 rfl gk_14 ?_
  exact xe_vret dX3_clear_10 rfl ⟨rfl, ⟨0, by decide, by rw [xpi_rd, if_neg (by omega), xpi_rd, if_pos (by omega)], by rw [xpi_rd, if_pos (by omega)]; rfl, by decide, fun i P hP => by cases hP⟩, fun c c1 _ => by rw [xpi_ne _ _ _ c1, xpi_ne _ _ _ c1], rfl⟩
theorem E_hadd (h : Hs σ ac) (hb : Bd σ 4 P) : Cl xs L mX3_add [.ref 14, .ref 4] GS σ GS (fun v t => v = none ∧ Hs t ((P :: ac).take 14) ∧ Fh σ t) := by
  show Ev xs L mX3_add 0 [.ref 14, .ref 4] [] GS σ GS _
  obtain ⟨f, hf, g1, g2, g3, g4⟩ := h
  -- at 32, with at most thirteen
  have key : ∀ (f n : Nat) (t : xS), f < 14 → n < 14 → n ≤ ac.length → t.1 14 1 = nI f → t.1 14 2 = nI n → n = (ac.take 13).length → (∀ i P, (ac.take 13)[i]? = some P → Bd t (hps f (n - 1 - i)) P) → (∀ c, c ≠ 14 → t.1 c = σ.1 c) → t.2 = σ.2 → Ev xs L mX3_add 32 [.ref 14, .ref 4] [] GS t GS (fun v t => v = none ∧ Hs t ((P :: ac).take 14) ∧ Fh σ t) := by
    intro f n t hf hn hna t1 t2 hn2 hbd hc h2
    have hbt : Bd t 4 P := by
      obtain ⟨b1, ⟨a1, a2, a3⟩, ⟨c1, c2, c3, c4⟩, b4⟩ := hb
      have e : ∀ c, 4 ≤ c → c ≤ 8 → t.1 c = σ.1 c := fun c _ _ => hc c (by omega)
      exact ⟨b1, ⟨by rw [e 4 (by omega) (by omega)]; exact a1, a2, by rw [e (4 + 1) (by omega) (by omega), e (4 + 2) (by omega) (by omega), e (4 + 3) (by omega) (by omega)]; exact a3⟩, ⟨by rw [e 4 (by omega) (by omega)]; exact c1, c2, by rw [e (4 + 4) (by omega) (by omega)]; exact c3, c4⟩, by rw [e 4 (by omega) (by omega)]; exact b4⟩
    obtain ⟨q1, q2⟩ := hps_bd f n
    have q3 := hps_rng f n
    refine xe_aload_n dX3_add_32 rfl ?_
    refine e_getA (G := GS) (r := 14) dX3_add_33 fdX3_11 rfl gk_14 gr_14_0 ?_
    refine xe_aload_n dX3_add_36 rfl ?_
    refine e_getI (G := GS) (r := 14) dX3_add_37 fdX3_18 rfl gk_14 t1 ?_
    refine xe_aload_n dX3_add_40 rfl ?_
    refine e_getI (G := GS) (r := 14) dX3_add_41 fdX3_22 rfl gk_14 t2 ?_
    refine xe_iadd dX3_add_44 ?_
    rw [nI_add]
    refine xe_bipush (v := nI 14) dX3_add_45 (by decide) ?_
    refine xe_irem dX3_add_47 (by decide) ?_
    rw [pk_rem (by omega) (by omega) (by omega)]
    refine e_aald dX3_add_48 gk_15 gn_15 (Nat.mod_lt _ (by decide)) (by decide) q2 ?_
    refine xe_aload_n dX3_add_49 rfl ?_
    refine e_callV (E_becomeLike q1 bd_4 (hps_4 f n) hbt) dX3_add_50 kvX3_25 (bd_k q1) rfl ?_
    rintro v u ⟨rfl, hbu, hfu⟩
    refine xe_aload_n dX3_add_53 rfl ?_
    refine xe_dup dX3_add_54 rfl ?_
    refine e_getI (G := GS) (r := 14) dX3_add_55 fdX3_22 rfl gk_14 (show _ = nI n by rw [hfu.1 14 (by omega)]; exact t2) ?_
    refine xe_iconst (v := nI 1) dX3_add_58 (by decide) ?_
    refine xe_iadd dX3_add_59 ?_
    rw [nI_add]
    refine xe_putI (G := GS) (r := 14) dX3_add_60 fdX3_22 rfl gk_14 ?_
    refine xe_vret dX3_add_63 rfl ⟨rfl, ⟨f, hf, ?_, ?_, ?_, fun i R hR => ?_⟩, fun c c1 c2 => ?_, ?_⟩
    · rw [xpi_rd, if_neg (by omega), hfu.1 14 (by omega)]
      exact t1
    · rw [xpi_rd, if_pos (by omega)]
      show _ = nI (P :: ac.take 13).length
      rw [List.length_cons, ← hn2]
    · show (P :: ac.take 13).length ≤ 14
      rw [List.length_cons, ← hn2]
      omega
    · have hR : (P :: ac.take 13)[i]? = some R := hR
      have el : ((P :: ac).take 14).length = n + 1 := by
        show (P :: ac.take 13).length = _
        rw [List.length_cons, ← hn2]
      rw [el]
      have fr2 : ∀ B R, IsBd B → B ≠ 14 → Bd u B R → Bd (xpi u 14 2 (nI (n + 1))) B R := by
        intro B R hB _ hh
        have lo := bd_lo hB
        obtain ⟨b1, ⟨a1, a2, a3⟩, ⟨c1, c2, c3, c4⟩, b4⟩ := hh
        have e : ∀ c, B ≤ c → c ≤ B + 4 → (xpi u 14 2 (nI (n + 1))).1 c = u.1 c := fun c c1 c2 => xpi_ne _ _ _ (by
          intro z
          subst z
          have := bd_no14 B hB
          omega)
        exact ⟨b1, ⟨by rw [e B (by omega) (by omega)]; exact a1, a2, by rw [e (B + 1) (by omega) (by omega), e (B + 2) (by omega) (by omega), e (B + 3) (by omega) (by omega)]; exact a3⟩, ⟨by rw [e B (by omega) (by omega)]; exact c1, c2, by rw [e (B + 4) (by omega) (by omega)]; exact c3, c4⟩, by rw [e B (by omega) (by omega)]; exact b4⟩
      cases i with
      | zero =>
        cases hR
        rw [show n + 1 - 1 - 0 = n by omega]
        exact fr2 _ _ q1 (by omega) hbu
      | succ i =>
        have hR : (ac.take 13)[i]? = some R := hR
        have hil : i < (ac.take 13).length := (List.getElem?_eq_some_iff.mp hR).1
        rw [← hn2] at hil
        rw [show n + 1 - 1 - (i + 1) = n - 1 - i by omega]
        obtain ⟨r1, r2⟩ := hps_bd f (n - 1 - i)
        have hne : hps f (n - 1 - i) ≠ hps f n := hps_ne (by omega) (by omega) (by omega)
        refine fr2 _ _ r1 (by have := hps_rng f (n - 1 - i); omega) ((hbd i R hR).fr hfu ?_)
        exact bd_apart _ r1 _ q1 hne
    · rw [xpi_ne _ _ _ c1, hfu.1 c (by omega)]
      exact hc c c1
    · exact hfu.2.trans h2
  refine xe_aload_n dX3_add_0 rfl ?_
  refine e_getI (G := GS) (r := 14) dX3_add_1 fdX3_22 rfl gk_14 g2 ?_
  refine xe_bipush (v := nI 14) dX3_add_4 (by decide) ?_
  refine xn_icmp_lt 32 dX3_add_6 (by decide) (by omega) (by omega) (fun c6 => ?_) (fun c6 => ?_)
  · have e : ac.take 13 = ac := List.take_of_length_le (by omega)
    exact key f ac.length σ hf c6 (Nat.le_refl _) g1 g2 (by rw [e]) (fun i R hR => g4 i R (by rw [e] at hR; exact hR)) (fun _ _ => rfl) rfl
  · have e14 : ac.length = 14 := by omega
    refine xe_aload_n dX3_add_9 rfl ?_
    refine xe_aload_n dX3_add_10 rfl ?_
    refine e_getI (G := GS) (r := 14) dX3_add_11 fdX3_18 rfl gk_14 g1 ?_
    refine xe_iconst (v := nI 1) dX3_add_14 (by decide) ?_
    refine xe_iadd dX3_add_15 ?_
    rw [nI_add]
    refine xe_bipush (v := nI 14) dX3_add_16 (by decide) ?_
    refine xe_irem dX3_add_18 (by decide) ?_
    rw [pk_rem (by omega) (by omega) (by omega)]
    refine xe_putI (G := GS) (r := 14) dX3_add_19 fdX3_18 rfl gk_14 ?_
    refine xe_aload_n dX3_add_22 rfl ?_
    refine xe_dup dX3_add_23 rfl ?_
    refine e_getI (G := GS) (r := 14) dX3_add_24 fdX3_22 rfl gk_14 (show _ = nI ac.length by rw [xpi_rd, if_neg (by omega)]; exact g2) ?_
    refine xe_iconst (v := nI 1) dX3_add_27 (by decide) ?_
    refine xe_isub dX3_add_28 ?_
    rw [pk_sub (by omega)]
    refine xe_putI (G := GS) (r := 14) dX3_add_29 fdX3_22 rfl gk_14 ?_
    refine key ((f + 1) % 14) (ac.length - 1) _ (Nat.mod_lt _ (by decide)) (by omega) (by omega) (by rw [xpi_rd, if_neg (by omega), xpi_rd, if_pos (by omega)]) (by rw [xpi_rd, if_pos (by omega)]) (by rw [List.length_take]; omega) (fun i R hR => ?_) (fun c c1 => by rw [xpi_ne _ _ _ c1, xpi_ne _ _ _ c1]) rfl
    have hil : i < (ac.take 13).length := (List.getElem?_eq_some_iff.mp hR).1
    rw [List.length_take] at hil
    rw [List.getElem?_take_of_lt (by omega)] at hR
    have hb0 := g4 i R hR
    have ep : hps f (ac.length - 1 - i) = hps ((f + 1) % 14) (ac.length - 1 - 1 - i) := by
      unfold hps
      omega
    rw [ep] at hb0
    obtain ⟨r1, r2⟩ := hps_bd ((f + 1) % 14) (ac.length - 1 - 1 - i)
    have rr := hps_rng ((f + 1) % 14) (ac.length - 1 - 1 - i)
    generalize hps ((f + 1) % 14) (ac.length - 1 - 1 - i) = B at hb0 r1 rr ⊢
    obtain ⟨b1, ⟨a1, a2, a3⟩, ⟨c1, c2, c3, c4⟩, b4⟩ := hb0
    have e : ∀ c, B ≤ c → c ≤ B + 4 → (xpi (xpi σ 14 1 (nI ((f + 1) % 14))) 14 2 (nI (ac.length - 1))).1 c = σ.1 c := fun c c1 c2 => by rw [xpi_ne _ _ _ (by omega), xpi_ne _ _ _ (by omega)]
    exact ⟨b1, ⟨by rw [e B (by omega) (by omega)]; exact a1, a2, by rw [e (B + 1) (by omega) (by omega), e (B + 2) (by omega) (by omega), e (B + 3) (by omega) (by omega)]; exact a3⟩, ⟨by rw [e B (by omega) (by omega)]; exact c1, c2, by rw [e (B + 4) (by omega) (by omega)]; exact c3, c4⟩, by rw [e B (by omega) (by omega)]; exact b4⟩
theorem E_takeBack0 (h : Hs σ []) : Cl xs L mX3_takeBack [.ref 14, .ref 4] GS σ GS (fun v t => v = some (.int (bI false)) ∧ t = σ) := by
  show Ev xs L mX3_takeBack 0 [.ref 14, .ref 4] [] GS σ GS _
  obtain ⟨f, hf, g1, g2, g3, g4⟩ := h
  refine xe_aload_n dX3_takeBack_0 rfl ?_
  refine e_getI (G := GS) (r := 14) dX3_takeBack_1 fdX3_22 rfl gk_14 g2 ?_
  refine xe_if_gt 9 dX3_takeBack_4 (by decide) (fun c => absurd c (by decide)) (fun _ => ?_)
  refine xe_iconst (v := nI 0) dX3_takeBack_7 (by decide) ?_
  exact xe_zret dX3_takeBack_8 rfl (by decide) ⟨rfl, rfl⟩
theorem E_takeBack (h : Hs σ (P :: ac)) : Cl xs L mX3_takeBack [.ref 14, .ref 4] GS σ GS (fun v t => v = some (.int (bI true)) ∧ Bd t 4 P ∧ Hs t ac ∧ (∀ c, c ≠ 14 → (c < 4 ∨ 8 < c) → t.1 c = σ.1 c) ∧ t.2 = σ.2) := by
  show Ev xs L mX3_takeBack 0 [.ref 14, .ref 4] [] GS σ GS _
  obtain ⟨f, hf, g1, g2, g3, g4⟩ := h
  rw [List.length_cons] at g2 g3 g4
  obtain ⟨q1, q2⟩ := hps_bd f ac.length
  have q3 := hps_rng f ac.length
  have mv : ∀ B R (t : xS), IsBd B → (∀ c, c ≠ 14 → t.1 c = σ.1 c) → Bd σ B R → Bd t B R := by
    intro B R t hB hc hh
    have lo := bd_lo hB
    obtain ⟨b1, ⟨a1, a2, a3⟩, ⟨c1, c2, c3, c4⟩, b4⟩ := hh
    have e : ∀ c, B ≤ c → c ≤ B + 4 → t.1 c = σ.1 c := fun c c1 c2 => hc c (by
      intro z
      subst z
      have := bd_no14 B hB
      omega)
    exact ⟨b1, ⟨by rw [e B (by omega) (by omega)]; exact a1, a2, by rw [e (B + 1) (by omega) (by omega), e (B + 2) (by omega) (by omega), e (B + 3) (by omega) (by omega)]; exact a3⟩, ⟨by rw [e B (by omega) (by omega)]; exact c1, c2, by rw [e (B + 4) (by omega) (by omega)]; exact c3, c4⟩, by rw [e B (by omega) (by omega)]; exact b4⟩
  refine xe_aload_n dX3_takeBack_0 rfl ?_
  refine e_getI (G := GS) (r := 14) dX3_takeBack_1 fdX3_22 rfl gk_14 g2 ?_
  refine xn_if_gt 9 dX3_takeBack_4 (by decide) (by omega) (fun _ => ?_) (fun c => absurd c (by omega))
  refine xe_aload_n dX3_takeBack_9 rfl ?_
  refine xe_dup dX3_takeBack_10 rfl ?_
  refine e_getI (G := GS) (r := 14) dX3_takeBack_11 fdX3_22 rfl gk_14 g2 ?_
  refine xe_iconst (v := nI 1) dX3_takeBack_14 (by decide) ?_
  refine xe_isub dX3_takeBack_15 ?_
  rw [pk_sub (by omega), show ac.length + 1 - 1 = ac.length by omega]
  refine xe_putI (G := GS) (r := 14) dX3_takeBack_16 fdX3_22 rfl gk_14 ?_
  refine xe_aload_n dX3_takeBack_19 rfl ?_
  refine xe_aload_n dX3_takeBack_20 rfl ?_
  refine e_getA (G := GS) (r := 14) dX3_takeBack_21 fdX3_11 rfl gk_14 gr_14_0 ?_
  refine xe_aload_n dX3_takeBack_24 rfl ?_
  refine e_getI (G := GS) (r := 14) dX3_takeBack_25 fdX3_18 rfl gk_14 (show _ = nI f by rw [xpi_rd, if_neg (by omega)]; exact g1) ?_
  refine xe_aload_n dX3_takeBack_28 rfl ?_
  refine e_getI (G := GS) (r := 14) dX3_takeBack_29 fdX3_22 rfl gk_14 (show _ = nI ac.length by rw [xpi_rd, if_pos (by omega)]) ?_
  refine xe_iadd dX3_takeBack_32 ?_
  rw [nI_add]
  refine xe_bipush (v := nI 14) dX3_takeBack_33 (by decide) ?_
  refine xe_irem dX3_takeBack_35 (by decide) ?_
  rw [pk_rem (by omega) (by omega) (by omega)]
  refine e_aald dX3_takeBack_36 gk_15 gn_15 (Nat.mod_lt _ (by decide)) (by decide) q2 ?_
  have hbP := mv (hps f ac.length) P (xpi σ 14 2 (nI ac.length)) q1 (fun c c1 => xpi_ne _ _ _ c1) (by have := g4 0 P rfl; rw [show ac.length + 1 - 1 - 0 = ac.length by omega] at this; exact this)
  refine e_callV (E_becomeLike bd_4 q1 (fun z => hps_4 f ac.length z.symm) hbP) dX3_takeBack_37 kvX3_25 (bd_k bd_4) rfl ?_
  rintro v u ⟨rfl, hbu, hfu⟩
  refine xe_iconst (v := nI 1) dX3_takeBack_40 (by decide) ?_
  refine xe_zret dX3_takeBack_41 rfl (by decide) ⟨rfl, hbu, ⟨f, hf, ?_, ?_, by omega, fun i R hR => ?_⟩, fun c c1 c2 => ?_, hfu.2⟩
  · rw [hfu.1 14 (by omega), xpi_rd, if_neg (by omega)]
    exact g1
  · rw [hfu.1 14 (by omega), xpi_rd, if_pos (by omega)]
  · have hil := (List.getElem?_eq_some_iff.mp hR).1
    have hb0 := g4 (i + 1) R hR
    rw [show ac.length + 1 - 1 - (i + 1) = ac.length - 1 - i by omega] at hb0
    obtain ⟨r1, r2⟩ := hps_bd f (ac.length - 1 - i)
    have rr := hps_rng f (ac.length - 1 - i)
    exact (mv _ R (xpi σ 14 2 (nI ac.length)) r1 (fun c c1 => xpi_ne _ _ _ c1) hb0).fr hfu (by omega)
  · rw [hfu.1 c (by omega), xpi_ne _ _ _ c1]
theorem E_sclear : Cl xs L mX7_clear [.ref 86] GS σ GS (fun v t => v = none ∧ Sh t (fun _ => none) ∧ (∀ c, c ≠ 88 → t.1 c = σ.1 c) ∧ t.2 = σ.2) := by
  show Ev xs L mX7_clear 0 [.ref 86, .null] [] GS σ GS _
  refine xe_iconst (v := nI 0) dX7_clear_0 (by decide) ?_
  refine xe_istore_n dX7_clear_1 (by decide) ?_
  refine xe_iload_n dX7_clear_2 rfl ?_
  refine xe_iconst (v := nI 2) dX7_clear_3 (by decide) ?_
  refine xe_icmp_ge 20 dX7_clear_4 (by decide) (fun c => absurd c (nI_ge (a := 0) (b := 2) (by omega) (by omega))) (fun _ => ?_)
  refine xe_aload_n dX7_clear_7 rfl ?_
  refine e_getA (G := GS) (r := 86) dX7_clear_8 fdX7_17 rfl gk_86 gr_86_1 ?_
  refine xe_iload_n dX7_clear_11 rfl ?_
  refine xe_iconst (v := nI 0) dX7_clear_12 (by decide) ?_
  refine xe_bast (G := GS) (a := 88) dX7_clear_13 gk_88 (by rw [gn_88]; exact vp_in_nI (by omega) (by omega)) ?_
  rw [nI_clamp (by omega)]
  refine xe_inc dX7_clear_14 rfl (by decide) ?_
  refine xe_goto 2 dX7_clear_17 (by decide) ?_
  rw [nI_1]
  refine xe_iload_n dX7_clear_2 rfl ?_
  refine xe_iconst (v := nI 2) dX7_clear_3 (by decide) ?_
  refine xe_icmp_ge 20 dX7_clear_4 (by decide) (fun c => absurd c (nI_ge (a := 0 + 1) (b := 2) (by omega) (by omega))) (fun _ => ?_)
  refine xe_aload_n dX7_clear_7 rfl ?_
  refine e_getA (G := GS) (r := 86) dX7_clear_8 fdX7_17 rfl gk_86 gr_86_1 ?_
  refine xe_iload_n dX7_clear_11 rfl ?_
  refine xe_iconst (v := nI 0) dX7_clear_12 (by decide) ?_
  refine xe_bast (G := GS) (a := 88) dX7_clear_13 gk_88 (by rw [gn_88]; exact vp_in_nI (by omega) (by omega)) ?_
  rw [nI_clamp (by omega)]
  refine xe_inc dX7_clear_14 rfl (by decide) ?_
  refine xe_goto 2 dX7_clear_17 (by decide) ?_
  rw [nI_1]
  refine xe_iload_n dX7_clear_2 rfl ?_
  refine xe_iconst (v := nI 2) dX7_clear_3 (by decide) ?_
  refine xe_icmp_ge 20 dX7_clear_4 (by decide) (fun _ => ?_) (fun c => absurd (by decide) c)
  refine xe_vret dX7_clear_20 rfl ⟨rfl, fun s hs => ⟨?_, fun P hP => by cases hP⟩, fun c c1 => by rw [xpi_ne _ _ _ c1, xpi_ne _ _ _ c1], rfl⟩
  have : s = 0 ∨ s = 1 := by omega
  rcases this with e | e
  · rw [e, xpi_rd, if_neg (by omega), xpi_rd, if_pos (by omega)]; rfl
  · rw [e, xpi_rd, if_pos (by omega)]; rfl
theorem E_sput (h : Sh σ kp) (hb : Bd σ 4 P) {s : Nat} (hs : s < 2) : Cl xs L mX7_put [.ref 86, .int (nI s), .ref 4] GS σ GS (fun v t => v = none ∧ Sh t (kpS kp s P) ∧ Fs σ t) := by
  show Ev xs L mX7_put 0 [.ref 86, .int (nI s), .ref 4] [] GS σ GS _
  obtain ⟨r2, r1⟩ := bd_87 s hs
  have r1 : IsBd (89 + 5 * s) := r1
  refine xe_iload_n dX7_put_0 rfl ?_
  refine xe_iconst (v := nI 0) dX7_put_1 (by decide) ?_
  refine xe_iconst (v := nI 1) dX7_put_2 (by decide) ?_
  refine e_callSp (E_isOutside) dX7_put_3 ksX7_22 rfl ?_
  rw [out_n (by omega) (by omega)]
  refine xe_if_ne 26 dX7_put_6 (by decide) (fun c => absurd c (by rw [decide_eq_true (show s ≤ 1 by omega)]; decide)) (fun _ => ?_)
  refine xe_aload_n dX7_put_9 rfl ?_
  refine e_getA (G := GS) (r := 86) dX7_put_10 fdX7_11 rfl gk_86 gr_86_0 ?_
  refine xe_iload_n dX7_put_13 rfl ?_
  refine e_aald dX7_put_14 gk_87 gn_87 hs (by decide) r2 ?_
  refine xe_aload_n dX7_put_15 rfl ?_
  refine e_callV (E_becomeLike r1 bd_4 (by omega) hb) dX7_put_16 kvX7_26 (bd_k r1) rfl ?_
  rintro v u ⟨rfl, hbu, hfu⟩
  refine xe_aload_n dX7_put_19 rfl ?_
  refine e_getA (G := GS) (r := 86) dX7_put_20 fdX7_17 rfl gk_86 gr_86_1 ?_
  refine xe_iload_n dX7_put_23 rfl ?_
  refine xe_iconst (v := nI 1) dX7_put_24 (by decide) ?_
  refine xe_bast (G := GS) (a := 88) dX7_put_25 gk_88 (by rw [gn_88]; exact vp_in_nI hs (by omega)) ?_
  rw [nI_clamp (by omega)]
  have mv : ∀ B R, IsBd B → B ≠ 88 → Bd u B R → Bd (xpi u 88 s (nI 1 &&& 1)) B R := by
    intro B R hB _ hh
    have n88 := bd_no88 B hB
    obtain ⟨b1, ⟨a1, a2, a3⟩, ⟨c1, c2, c3, c4⟩, b4⟩ := hh
    have e : ∀ c, B ≤ c → c ≤ B + 4 → (xpi u 88 s (nI 1 &&& 1)).1 c = u.1 c := fun c c1 c2 => xpi_ne _ _ _ (by omega)
    exact ⟨b1, ⟨by rw [e B (by omega) (by omega)]; exact a1, a2, by rw [e (B + 1) (by omega) (by omega), e (B + 2) (by omega) (by omega), e (B + 3) (by omega) (by omega)]; exact a3⟩, ⟨by rw [e B (by omega) (by omega)]; exact c1, c2, by rw [e (B + 4) (by omega) (by omega)]; exact c3, c4⟩, by rw [e B (by omega) (by omega)]; exact b4⟩
  refine xe_vret dX7_put_26 rfl ⟨rfl, fun q hq => ?_, fun c hc => ?_, hfu.2⟩
  · by_cases e : q = s
    · subst e
      refine ⟨by rw [xpi_rd, if_pos (by omega), kpS_at]; rfl, fun R hR => ?_⟩
      rw [kpS_at] at hR
      cases hR
      exact mv _ _ r1 (by omega) hbu
    · obtain ⟨k1, k2⟩ := h q hq
      obtain ⟨-, w1⟩ := bd_87 q hq
      refine ⟨by rw [xpi_rd, if_neg (by omega), kpS_ne _ _ e, hfu.1 88 (by omega)]; exact k1, fun R hR => ?_⟩
      rw [kpS_ne _ _ e] at hR
      exact mv _ _ w1 (by omega) ((k2 R hR).fr hfu (by omega))
  · rw [xpi_ne _ _ _ (by omega), hfu.1 c (by omega)]
theorem E_giveBack0 (h : Sh σ kp) {s : Nat} (hs : s < 2) (hk : kp s = none) : Cl xs L mX7_giveBack [.ref 86, .int (nI s), .ref 4] GS σ GS (fun v t => v = some (.int (bI false)) ∧ t = σ) := by
  show Ev xs L mX7_giveBack 0 [.ref 86, .int (nI s), .ref 4] [] GS σ GS _
  refine xe_iload_n dX7_giveBack_0 rfl ?_
  refine xe_iconst (v := nI 0) dX7_giveBack_1 (by decide) ?_
  refine xe_iconst (v := nI 1) dX7_giveBack_2 (by decide) ?_
  refine e_callSp (E_isOutside) dX7_giveBack_3 ksX7_22 rfl ?_
  rw [out_n (by omega) (by omega)]
  refine xe_if_ne 18 dX7_giveBack_6 (by decide) (fun c => absurd c (by rw [decide_eq_true (show s ≤ 1 by omega)]; decide)) (fun _ => ?_)
  refine xe_aload_n dX7_giveBack_9 rfl ?_
  refine e_getA (G := GS) (r := 86) dX7_giveBack_10 fdX7_17 rfl gk_86 gr_86_1 ?_
  refine xe_iload_n dX7_giveBack_13 rfl ?_
  refine xe_bald (G := GS) (a := 88) dX7_giveBack_14 gk_88 (by rw [gn_88]; exact vp_in_nI hs (by omega)) ?_
  rw [nI_clamp (by omega), (h s hs).1, hk]
  refine xe_if_ne 20 dX7_giveBack_15 (by decide) (fun c => absurd c (by decide)) (fun _ => ?_)
  refine xe_iconst (v := nI 0) dX7_giveBack_18 (by decide) ?_
  exact xe_zret dX7_giveBack_19 rfl (by decide) ⟨rfl, rfl⟩
theorem E_giveBack (h : Sh σ kp) {s : Nat} (hs : s < 2) (hk : kp s = some P) : Cl xs L mX7_giveBack [.ref 86, .int (nI s), .ref 4] GS σ GS (fun v t => v = some (.int (bI true)) ∧ Bd t 4 P ∧ Fr σ t 4) := by
  show Ev xs L mX7_giveBack 0 [.ref 86, .int (nI s), .ref 4] [] GS σ GS _
  obtain ⟨r2, r1⟩ := bd_87 s hs
  have r1 : IsBd (89 + 5 * s) := r1
  refine xe_iload_n dX7_giveBack_0 rfl ?_
  refine xe_iconst (v := nI 0) dX7_giveBack_1 (by decide) ?_
  refine xe_iconst (v := nI 1) dX7_giveBack_2 (by decide) ?_
  refine e_callSp (E_isOutside) dX7_giveBack_3 ksX7_22 rfl ?_
  rw [out_n (by omega) (by omega)]
  refine xe_if_ne 18 dX7_giveBack_6 (by decide) (fun c => absurd c (by rw [decide_eq_true (show s ≤ 1 by omega)]; decide)) (fun _ => ?_)
  refine xe_aload_n dX7_giveBack_9 rfl ?_
  refine e_getA (G := GS) (r := 86) dX7_giveBack_10 fdX7_17 rfl gk_86 gr_86_1 ?_
  refine xe_iload_n dX7_giveBack_13 rfl ?_
  refine xe_bald (G := GS) (a := 88) dX7_giveBack_14 gk_88 (by rw [gn_88]; exact vp_in_nI hs (by omega)) ?_
  rw [nI_clamp (by omega), (h s hs).1, hk]
  refine xe_if_ne 20 dX7_giveBack_15 (by decide) (fun _ => ?_) (fun c => absurd c (show ¬ bI true = 0 by decide))
  refine xe_aload_n dX7_giveBack_20 rfl ?_
  refine xe_aload_n dX7_giveBack_21 rfl ?_
  refine e_getA (G := GS) (r := 86) dX7_giveBack_22 fdX7_11 rfl gk_86 gr_86_0 ?_
  refine xe_iload_n dX7_giveBack_25 rfl ?_
  refine e_aald dX7_giveBack_26 gk_87 gn_87 hs (by decide) r2 ?_
  refine e_callV (E_becomeLike bd_4 r1 (by omega) ((h s hs).2 P hk)) dX7_giveBack_27 kvX7_26 (bd_k bd_4) rfl ?_
  rintro v u ⟨rfl, hbu, hfu⟩
  refine xe_iconst (v := nI 1) dX7_giveBack_30 (by decide) ?_
  exact xe_zret dX7_giveBack_31 rfl (by decide) ⟨rfl, hbu, hfu⟩
theorem E_nsize (h : Sn σ sn) : Cl xs L mX6_size [.ref 99] GS σ GS (pI σ (nI sn.length)) := by
  show Ev xs L mX6_size 0 [.ref 99] [] GS σ GS _
  refine xe_aload_n dX6_size_0 rfl ?_
  refine e_getI (G := GS) (r := 99) dX6_size_1 fdX6_21 rfl gk_99 h.1 ?_
  exact e_iret dX6_size_4 rfl (by first | rfl | simp [*])
theorem E_nclear : Cl xs L mX6_clear [.ref 99] GS σ GS (fun v t => v = none ∧ Sn t [] ∧ (∀ c, c ≠ 99 → t.1 c = σ.1 c) ∧ t.2 = σ.2) := by
  show Ev xs L mX6_clear 0 [.ref 99] [] GS σ GS _
  refine xe_aload_n dX6_clear_0 rfl ?_
  refine xe_iconst (v := nI 0) dX6_clear_1 (by decide) ?_
  refine xe_putI (G := GS) (r := 99) dX6_clear_2 fdX6_21 rfl gk_99 ?_
  exact xe_vret dX6_clear_5 rfl ⟨rfl, ⟨by rw [xpi_rd, if_pos (by omega)]; rfl, by decide, fun i q hq => by cases hq⟩, fun c c1 => xpi_ne _ _ _ c1, rfl⟩
theorem E_nadd (h : Sn σ sn) {a b c : Nat} (ha : a ≤ 12) (hb : b < 12) (hc : c ≤ 1) : Cl xs L mX6_add [.ref 99, .int (nI a), .int (nI b), .int (nI c)] GS σ GS (fun v t => v = some (.int (bI (decide (sn.length < 6)))) ∧ (if sn.length < 6 then Sn t (sn ++ [(a, b, c)]) ∧ (∀ c, (c < 99 ∨ 102 < c) → t.1 c = σ.1 c) ∧ t.2 = σ.2 else t = σ)) := by
  show Ev xs L mX6_add 0 [.ref 99, .int (nI a), .int (nI b), .int (nI c)] [] GS σ GS _
  obtain ⟨h1, h2, h3⟩ := id h
  refine xe_aload_n dX6_add_0 rfl ?_
  refine e_getI (G := GS) (r := 99) dX6_add_1 fdX6_21 rfl gk_99 h1 ?_
  refine xe_bipush (v := nI 6) dX6_add_4 (by decide) ?_
  refine xn_icmp_lt 11 dX6_add_6 (by decide) (by omega) (by omega) (fun c6 => ?_) (fun c6 => ?_)
  · refine xe_aload_n dX6_add_11 rfl ?_
    refine e_getA (G := GS) (r := 99) dX6_add_12 fdX6_9 rfl gk_99 gr_99_0 ?_
    refine xe_aload_n dX6_add_15 rfl ?_
    refine e_getI (G := GS) (r := 99) dX6_add_16 fdX6_21 rfl gk_99 h1 ?_
    refine xe_iload_n dX6_add_19 rfl ?_
    refine e_iast (G := GS) (a := 100) dX6_add_20 gk_100 gn_100 (by omega) (by decide) ?_
    refine xe_aload_n dX6_add_21 rfl ?_
    refine e_getA (G := GS) (r := 99) dX6_add_22 fdX6_15 rfl gk_99 gr_99_1 ?_
    refine xe_aload_n dX6_add_25 rfl ?_
    refine e_getI (G := GS) (r := 99) dX6_add_26 fdX6_21 rfl gk_99 (show _ = nI sn.length by rw [xpi_rd, if_neg (by omega)]; exact h1) ?_
    refine xe_iload_n dX6_add_29 rfl ?_
    refine e_iast (G := GS) (a := 101) dX6_add_30 gk_101 gn_101 (by omega) (by decide) ?_
    refine xe_aload_n dX6_add_31 rfl ?_
    refine e_getA (G := GS) (r := 99) dX6_add_32 fdX6_18 rfl gk_99 gr_99_2 ?_
    refine xe_aload_n dX6_add_35 rfl ?_
    refine e_getI (G := GS) (r := 99) dX6_add_36 fdX6_21 rfl gk_99 (show _ = nI sn.length by rw [xpi_rd, if_neg (by omega), xpi_rd, if_neg (by omega)]; exact h1) ?_
    refine xe_iload_n dX6_add_39 rfl ?_
    refine e_iast (G := GS) (a := 102) dX6_add_40 gk_102 gn_102 (by omega) (by decide) ?_
    refine xe_aload_n dX6_add_41 rfl ?_
    refine xe_dup dX6_add_42 rfl ?_
    refine e_getI (G := GS) (r := 99) dX6_add_43 fdX6_21 rfl gk_99 (show _ = nI sn.length by rw [xpi_rd, if_neg (by omega), xpi_rd, if_neg (by omega), xpi_rd, if_neg (by omega)]; exact h1) ?_
    refine xe_iconst (v := nI 1) dX6_add_46 (by decide) ?_
    refine xe_iadd dX6_add_47 ?_
    rw [nI_add]
    refine xe_putI (G := GS) (r := 99) dX6_add_48 fdX6_21 rfl gk_99 ?_
    refine xe_iconst (v := nI 1) dX6_add_51 (by decide) ?_
    refine xe_zret dX6_add_52 rfl (by decide) ⟨by rw [decide_eq_true c6]; rfl, ?_⟩
    rw [if_pos c6]
    refine ⟨⟨(by rw [xpi_rd, if_pos (by omega), List.length_append]; rfl), (by rw [List.length_append]; show sn.length + 1 ≤ 6; omega), fun i q hq => ?_⟩, fun d hd => ?_, rfl⟩
    · rcases Nat.lt_or_ge i sn.length with e0 | e0
      · rw [List.getElem?_append_left e0] at hq
        obtain ⟨u1, u2, u3, u4⟩ := h3 i q hq
        exact ⟨by rw [xpi_rd, if_neg (by omega), xpi_rd, if_neg (by omega), xpi_rd, if_neg (by omega), xpi_rd, if_neg (by omega)]; exact u1, by rw [xpi_rd, if_neg (by omega), xpi_rd, if_neg (by omega), xpi_rd, if_neg (by omega), xpi_rd, if_neg (by omega)]; exact u2, by rw [xpi_rd, if_neg (by omega), xpi_rd, if_neg (by omega), xpi_rd, if_neg (by omega), xpi_rd, if_neg (by omega)]; exact u3, u4⟩
      · rw [List.getElem?_append_right (by omega)] at hq
        have hz0 : i - sn.length < 1 := (List.getElem?_eq_some_iff.mp hq).1
        rw [show i - sn.length = 0 by omega] at hq
        cases hq
        exact ⟨by rw [xpi_rd, if_neg (by omega), xpi_rd, if_neg (by omega), xpi_rd, if_neg (by omega), xpi_rd, if_pos (by omega)], by rw [xpi_rd, if_neg (by omega), xpi_rd, if_neg (by omega), xpi_rd, if_pos (by omega)], by rw [xpi_rd, if_neg (by omega), xpi_rd, if_pos (by omega)], ha, hb, hc⟩
    · rw [xpi_ne _ _ _ (by omega), xpi_ne _ _ _ (by omega), xpi_ne _ _ _ (by omega), xpi_ne _ _ _ (by omega)]
  · refine xe_iconst (v := nI 0) dX6_add_9 (by decide) ?_
    refine xe_zret dX6_add_10 rfl (by decide) ⟨by rw [decide_eq_false (by omega)]; rfl, ?_⟩
    rw [if_neg (by omega)]
theorem E_fits (h : Sn σ sn) {a k : Nat} (ha : a < 12) (hk : k < 12) : Cl xs L mX6_fits [.ref 99, .int (nI a), .int (nI k)] GS σ GS (pI σ (bI (fitQ sn a k))) := by
  show Ev xs L mX6_fits 0 [.ref 99, .int (nI a), .int (nI k), .null, .null] [] GS σ GS _
  obtain ⟨h1, h2, h3⟩ := id h
  have key : ∀ m i, i + m = sn.length → ∀ w : Value, Ev xs L mX6_fits 2 [.ref 99, .int (nI a), .int (nI k), .int (nI i), w] [] GS σ GS (pI σ (bI (fitQ (sn.drop i) a k))) := by
    intro m
    induction m with
    | zero =>
      intro i hi w
      have e : i = sn.length := by omega
      subst e
      rw [List.drop_length]
      refine xe_iload_n dX6_fits_2 rfl ?_
      refine xe_aload_n dX6_fits_3 rfl ?_
      refine e_getI (G := GS) (r := 99) dX6_fits_4 fdX6_21 rfl gk_99 h1 ?_
      refine xe_icmp_ge 66 dX6_fits_7 (by decide) (fun _ => ?_) (fun c => absurd (nI_le (Nat.le_refl _) (by omega)) c)
      refine xe_iconst (v := nI 1) dX6_fits_66 (by decide) ?_
      exact e_zret dX6_fits_67 rfl rfl
    | succ m ih =>
      intro i hi w
      have hil : i < sn.length := by omega
      have hs : sn[i]? = some sn[i] := List.getElem?_eq_getElem hil
      rw [List.drop_eq_getElem_cons hil]
      generalize sn[i] = q at hs
      obtain ⟨u1, u2, u3, u4, u5, u6⟩ := h3 i q hs
      have hbd : a + k * q.1 < 200 := by
        have : k * q.1 ≤ 11 * 12 := Nat.mul_le_mul (by omega) u4
        omega
      refine xe_iload_n dX6_fits_2 rfl ?_
      refine xe_aload_n dX6_fits_3 rfl ?_
      refine e_getI (G := GS) (r := 99) dX6_fits_4 fdX6_21 rfl gk_99 h1 ?_
      refine xe_icmp_ge 66 dX6_fits_7 (by decide) (fun c => absurd c (nI_ge hil (by omega))) (fun _ => ?_)
      refine xe_iload_n dX6_fits_10 rfl ?_
      refine xe_iload_n dX6_fits_11 rfl ?_
      refine xe_aload_n dX6_fits_12 rfl ?_
      refine e_getA (G := GS) (r := 99) dX6_fits_13 fdX6_9 rfl gk_99 gr_99_0 ?_
      refine xe_iload_n dX6_fits_16 rfl ?_
      refine e_iald (G := GS) (a := 100) dX6_fits_17 gk_100 gn_100 (by omega) (by decide) u1 ?_
      refine xe_imul dX6_fits_18 ?_
      rw [pk_mul]
      refine e_callSp (E_stepsOn) dX6_fits_19 ksX6_25 rfl ?_
      rw [nI_add, fm_small _ hbd]
      have go : ∀ x : Bool, x = ((a + k * q.1) % 12 == q.2.1) → Ev xs L mX6_fits 36 [.ref 99, .int (nI a), .int (nI k), .int (nI i), w] [.int (bI x)] GS σ GS (pI σ (bI (fitQ (q :: sn.drop (i + 1)) a k))) := by
        intro x hx
        have go2 : ∀ y : Bool, y = (q.2.2 == 1) → Ev xs L mX6_fits 55 [.ref 99, .int (nI a), .int (nI k), .int (nI i), .int (bI x)] [.int (bI y), .int (bI x)] GS σ GS (pI σ (bI (fitQ (q :: sn.drop (i + 1)) a k))) := by
          intro y hy
          have ef : fitQ (q :: sn.drop (i + 1)) a k = ((x == y) && fitQ (sn.drop (i + 1)) a k) := by
            show (((a + k * q.1) % 12 == q.2.1) == (q.2.2 == 1) && _) = _
            rw [hx, hy]
            rfl
          refine xe_icmp_eq 60 dX6_fits_55 (by decide) (fun e5 => ?_) (fun e5 => ?_)
          · have exy : x = y := by
              revert e5
              cases x <;> cases y <;> decide
            rw [ef, exy, beq_self_eq_true, Bool.true_and]
            refine xe_inc dX6_fits_60 rfl (by decide) ?_
            refine xe_goto 2 dX6_fits_63 (by decide) ?_
            rw [nI_1]
            exact ih (i + 1) (by omega) _
          · have exy : (x == y) = false := by
              revert e5
              cases x <;> cases y <;> decide
            refine xe_iconst (v := nI 0) dX6_fits_58 (by decide) ?_
            exact e_zret dX6_fits_59 rfl (by rw [ef, exy]; rfl)
        refine xe_istore dX6_fits_36 (by decide) ?_
        refine xe_iload dX6_fits_38 rfl ?_
        refine xe_aload_n dX6_fits_40 rfl ?_
        refine e_getA (G := GS) (r := 99) dX6_fits_41 fdX6_18 rfl gk_99 gr_99_2 ?_
        refine xe_iload_n dX6_fits_44 rfl ?_
        refine e_iald (G := GS) (a := 102) dX6_fits_45 gk_102 gn_102 (by omega) (by decide) u3 ?_
        refine xe_iconst (v := nI 1) dX6_fits_46 (by decide) ?_
        refine xn_icmp_ne 54 dX6_fits_47 (by decide) (by omega) (by omega) (fun e4 => ?_) (fun e4 => ?_)
        · refine xe_iconst (v := bI false) dX6_fits_54 (by decide) ?_
          exact go2 false (beq_eq_false_iff_ne.mpr e4).symm
        · refine xe_iconst (v := bI true) dX6_fits_50 (by decide) ?_
          refine xe_goto 55 dX6_fits_51 (by decide) ?_
          exact go2 true (beq_iff_eq.mpr e4).symm
      refine xe_aload_n dX6_fits_22 rfl ?_
      refine e_getA (G := GS) (r := 99) dX6_fits_23 fdX6_15 rfl gk_99 gr_99_1 ?_
      refine xe_iload_n dX6_fits_26 rfl ?_
      refine e_iald (G := GS) (a := 101) dX6_fits_27 gk_101 gn_101 (by omega) (by decide) u2 ?_
      have hml : (a + k * q.1) % 12 < 12 := Nat.mod_lt _ (by decide)
      refine xn_icmp_ne 35 dX6_fits_28 (by decide) (by omega) (by omega) (fun e2 => ?_) (fun e2 => ?_)
      · refine xe_iconst (v := bI false) dX6_fits_35 (by decide) ?_
        exact go false (beq_eq_false_iff_ne.mpr e2).symm
      · refine xe_iconst (v := bI true) dX6_fits_31 (by decide) ?_
        refine xe_goto 36 dX6_fits_32 (by decide) ?_
        exact go true (beq_iff_eq.mpr e2).symm
  refine xe_iconst (v := nI 0) dX6_fits_0 (by decide) ?_
  refine xe_istore_n dX6_fits_1 (by decide) ?_
  exact key sn.length 0 (by omega) .null
theorem E_howMany (h : Sn σ sn) : Cl xs L mX6_howMany [.ref 99] GS σ GS (pI σ (nI (hwm sn))) := by
  show Ev xs L mX6_howMany 0 [.ref 99, .null, .null, .null] [] GS σ GS _
  have key := goN 12 (fun c a => foldN (fun c k => if fitQ sn a k then c + 1 else c) 1 11 c) (fun a c => ∀ w : Value, Ev xs L mX6_howMany 4 [.ref 99, .int (nI c), .int (nI a), w] [] GS σ GS (pI σ (nI (hwm sn)))) (hwm sn) (by
      intro w
      refine xe_iload_n dX6_howMany_4 rfl ?_
      refine xe_bipush (v := nI 12) dX6_howMany_5 (by decide) ?_
      refine xe_icmp_ge 42 dX6_howMany_7 (by decide) (fun _ => ?_) (fun c => absurd (by decide) c)
      refine xe_iload_n dX6_howMany_42 rfl ?_
      exact e_iret dX6_howMany_43 rfl rfl) (by
      intro a c ha kk w
      have inner := goN 12 (fun c k => if fitQ sn a k then c + 1 else c) (fun k c => Ev xs L mX6_howMany 12 [.ref 99, .int (nI c), .int (nI a), .int (nI k)] [] GS σ GS (pI σ (nI (hwm sn)))) (foldN (fun c k => if fitQ sn a k then c + 1 else c) 1 11 c) (by
          refine xe_iload_n dX6_howMany_12 rfl ?_
          refine xe_bipush (v := nI 12) dX6_howMany_13 (by decide) ?_
          refine xe_icmp_ge 36 dX6_howMany_15 (by decide) (fun _ => ?_) (fun c => absurd (by decide) c)
          refine xe_inc dX6_howMany_36 rfl (by decide) ?_
          refine xe_goto 4 dX6_howMany_39 (by decide) ?_
          rw [nI_1]
          exact kk _) (by
          intro k c hk k2
          refine xe_iload_n dX6_howMany_12 rfl ?_
          refine xe_bipush (v := nI 12) dX6_howMany_13 (by decide) ?_
          refine xe_icmp_ge 36 dX6_howMany_15 (by decide) (fun c => absurd c (nI_ge hk (by omega))) (fun _ => ?_)
          refine xe_aload_n dX6_howMany_18 rfl ?_
          refine xe_iload_n dX6_howMany_19 rfl ?_
          refine xe_iload_n dX6_howMany_20 rfl ?_
          refine e_callVp (G := GS) (r := 99) (E_fits h ha hk) dX6_howMany_21 kvX6_31 gk_99 rfl ?_
          refine xz_if_eq 30 dX6_howMany_24 (by decide) (fun d => ?_) (fun d => ?_)
          · rw [d] at k2
            refine xe_inc dX6_howMany_30 rfl (by decide) ?_
            refine xe_goto 12 dX6_howMany_33 (by decide) ?_
            rw [nI_1]
            exact k2
          · rw [d] at k2
            refine xe_inc dX6_howMany_27 rfl (by decide) ?_
            refine xe_inc dX6_howMany_30 rfl (by decide) ?_
            refine xe_goto 12 dX6_howMany_33 (by decide) ?_
            rw [nI_1, nI_1]
            exact k2) 11 1 c (by omega) rfl
      refine xe_iload_n dX6_howMany_4 rfl ?_
      refine xe_bipush (v := nI 12) dX6_howMany_5 (by decide) ?_
      refine xe_icmp_ge 42 dX6_howMany_7 (by decide) (fun c => absurd c (nI_ge ha (by omega))) (fun _ => ?_)
      refine xe_iconst (v := nI 1) dX6_howMany_10 (by decide) ?_
      refine xe_istore_n dX6_howMany_11 (by decide) ?_
      exact inner) 12 0 0 (by omega) rfl
  refine xe_iconst (v := nI 0) dX6_howMany_0 (by decide) ?_
  refine xe_istore_n dX6_howMany_1 (by decide) ?_
  refine xe_iconst (v := nI 0) dX6_howMany_2 (by decide) ?_
  refine xe_istore_n dX6_howMany_3 (by decide) ?_
  exact key .null
theorem E_firstStar (h : Sn σ sn) : Cl xs L mX6_firstStar [.ref 99] GS σ GS (pI σ (o9 (fstS sn))) := by
  show Ev xs L mX6_firstStar 0 [.ref 99, .null, .null] [] GS σ GS _
  have key : ∀ m a, a + m = 12 → foldN (fun o a => foldN (fstI sn a) 1 11 o) a m none = fstS sn → ∀ w : Value, Ev xs L mX6_firstStar 2 [.ref 99, .int (nI a), w] [] GS σ GS (pI σ (o9 (fstS sn))) := by
    intro m
    induction m with
    | zero =>
      intro a ha he w
      have he : none = fstS sn := he
      refine xe_iload_n dX6_firstStar_2 rfl ?_
      refine xe_bipush (v := nI 12) dX6_firstStar_3 (by decide) ?_
      refine xe_icmp_ge 44 dX6_firstStar_5 (by decide) (fun _ => ?_) (fun c => absurd (nI_le (by omega) (by omega)) c)
      refine xe_bipush (v := -9) dX6_firstStar_44 (by decide) ?_
      exact e_iret dX6_firstStar_46 rfl (by rw [← he]; rfl)
    | succ m ih =>
      intro a ha he w
      have he : foldN (fun o a => foldN (fstI sn a) 1 11 o) (a + 1) m (foldN (fstI sn a) 1 11 none) = fstS sn := he
      have inner : ∀ n k, k + n = 12 → foldN (fstI sn a) k n none = foldN (fstI sn a) 1 11 none → Ev xs L mX6_firstStar 10 [.ref 99, .int (nI a), .int (nI k)] [] GS σ GS (pI σ (o9 (fstS sn))) := by
        intro n
        induction n with
        | zero =>
          intro k hk hk2
          have hk2 : none = foldN (fstI sn a) 1 11 none := hk2
          rw [← hk2] at he
          refine xe_iload_n dX6_firstStar_10 rfl ?_
          refine xe_bipush (v := nI 12) dX6_firstStar_11 (by decide) ?_
          refine xe_icmp_ge 38 dX6_firstStar_13 (by decide) (fun _ => ?_) (fun c => absurd (nI_le (by omega) (by omega)) c)
          refine xe_inc dX6_firstStar_38 rfl (by decide) ?_
          refine xe_goto 2 dX6_firstStar_41 (by decide) ?_
          rw [nI_1]
          exact ih (a + 1) (by omega) he _
        | succ n ihn =>
          intro k hk hk2
          have hk2 : foldN (fstI sn a) (k + 1) n (fstI sn a none k) = foldN (fstI sn a) 1 11 none := hk2
          refine xe_iload_n dX6_firstStar_10 rfl ?_
          refine xe_bipush (v := nI 12) dX6_firstStar_11 (by decide) ?_
          refine xe_icmp_ge 38 dX6_firstStar_13 (by decide) (fun c => absurd c (nI_ge (by omega) (by omega))) (fun _ => ?_)
          refine xe_aload_n dX6_firstStar_16 rfl ?_
          refine xe_iload_n dX6_firstStar_17 rfl ?_
          refine xe_iload_n dX6_firstStar_18 rfl ?_
          refine e_callVp (G := GS) (r := 99) (E_fits h (show a < 12 by omega) (show k < 12 by omega)) dX6_firstStar_19 kvX6_31 gk_99 rfl ?_
          refine xz_if_eq 32 dX6_firstStar_22 (by decide) (fun d => ?_) (fun d => ?_)
          · have e : fstI sn a none k = none := by unfold fstI; rw [d]; rfl
            rw [e] at hk2
            refine xe_inc dX6_firstStar_32 rfl (by decide) ?_
            refine xe_goto 10 dX6_firstStar_35 (by decide) ?_
            rw [nI_1]
            exact ihn (k + 1) (by omega) hk2
          · have e : fstI sn a none k = some (100 * a + k) := by unfold fstI; rw [d]; rfl
            rw [e, fstI_keep] at hk2
            rw [← hk2, fstS_keep] at he
            refine xe_bipush (v := nI 100) dX6_firstStar_25 (by decide) ?_
            refine xe_iload_n dX6_firstStar_27 rfl ?_
            refine xe_imul dX6_firstStar_28 ?_
            rw [pk_mul]
            refine xe_iload_n dX6_firstStar_29 rfl ?_
            refine xe_iadd dX6_firstStar_30 ?_
            exact e_iret dX6_firstStar_31 rfl (by rw [← he, nI_add]; rfl)
      refine xe_iload_n dX6_firstStar_2 rfl ?_
      refine xe_bipush (v := nI 12) dX6_firstStar_3 (by decide) ?_
      refine xe_icmp_ge 44 dX6_firstStar_5 (by decide) (fun c => absurd c (nI_ge (by omega) (by omega))) (fun _ => ?_)
      refine xe_iconst (v := nI 1) dX6_firstStar_8 (by decide) ?_
      refine xe_istore_n dX6_firstStar_9 (by decide) ?_
      exact inner 11 1 (by omega) rfl
  refine xe_iconst (v := nI 0) dX6_firstStar_0 (by decide) ?_
  refine xe_istore_n dX6_firstStar_1 (by decide) ?_
  exact key 12 0 (by omega) rfl .null
end HS
