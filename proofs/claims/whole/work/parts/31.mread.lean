/-! the model: the text and how it is read -/
def Mt (σ : xS) (tx : List Nat) : Prop := σ.1 110 6 = nI tx.length ∧ tx.length ≤ 48 ∧ (∀ i c, tx[i]? = some c → σ.1 114 i = nI c) ∧ ∀ c ∈ tx, c < 256
def FR (σ t : xS) : Prop := (∀ c, c ≠ 110 → c ≠ 112 → c ≠ 113 → t.1 c = σ.1 c) ∧ (∀ k, k ≠ 4 → k ≠ 7 → t.1 110 k = σ.1 110 k) ∧ (∀ k, k < 53 → t.1 112 k = σ.1 112 k) ∧ t.2 = σ.2
theorem FR.rf (σ : xS) : FR σ σ := ⟨fun _ _ _ _ => rfl, fun _ _ _ => rfl, fun _ _ => rfl, rfl⟩
theorem FR.tr {σ t u : xS} (h1 : FR σ t) (h2 : FR t u) : FR σ u := ⟨fun c a b d => (h2.1 c a b d).trans (h1.1 c a b d), fun k a b => (h2.2.1 k a b).trans (h1.2.1 k a b), fun k a => (h2.2.2.1 k a).trans (h1.2.2.1 k a), h2.2.2.2.trans h1.2.2.2⟩
theorem FR.fl {σ t u : xS} (h : FR σ t) (f : FL t u 1) : FR σ u := h.tr ⟨fun c _ b _ => f.1 c b, fun k _ _ => by rw [f.1 110 (by omega)], fun k a => f.2.1 k (by omega), f.2.2⟩
theorem FR.p0 {σ t : xS} {k : Nat} (x : Int32) (h : FR σ t) (hk : k = 4 ∨ k = 7) : FR σ (xpi t 110 k x) := h.tr ⟨fun c a _ _ => xpi_ne _ _ _ a, fun q a b => by rw [xpi_rd, if_neg (by omega)], fun q _ => by rw [xpi_ne _ _ _ (by omega)], rfl⟩
theorem FR.p3 {σ t : xS} (k : Nat) (x : Int32) (h : FR σ t) : FR σ (xpi t 113 k x) := h.tr ⟨fun c _ _ b => xpi_ne _ _ _ b, fun q a b => by rw [xpi_ne _ _ _ (by omega)], fun q _ => by rw [xpi_ne _ _ _ (by omega)], rfl⟩
theorem Mt.fr {σ t : xS} {tx : List Nat} (h : Mt σ tx) (f : FR σ t) : Mt t tx := ⟨by rw [f.2.1 6 (by omega) (by omega)]; exact h.1, h.2.1, by rw [f.1 114 (by omega) (by omega) (by omega)]; exact h.2.2.1, h.2.2.2⟩
/-- what the reading has at hand -/
def RH (t : xS) (P : xP) (rt : Nat) : Prop := Lv t 1 P ∧ t.1 110 7 = bI true ∧ t.1 110 4 = nI rt ∧ ∀ u, u < P.1 → t.1 113 u = nI (P.2.1 u)
theorem RH.kd {t : xS} {P : xP} {rt : Nat} (h : RH t P rt) : Kd t 1 P := ⟨true, h.2.1, fun u hu => by rw [if_pos ⟨rfl, rfl⟩]; exact h.2.2.2 u hu⟩
def RI (t : xS) (r : xR) (st nl rt : Nat) : Prop := RH t r.2.2 rt ∧ (match r.1 with
  | 1 => st = 0 ∧ nl = 0 ∧ rt = 0 ∧ r.2.2.1 = 0
  | 2 => st = 1 ∧ nl < 100 ∧ rt = r.2.2.1 ∧ rt < 4
  | 3 => st = 2 ∧ nl = 0 ∧ rt = r.2.2.1 ∧ rt < 4 ∧ t.1 113 rt = nI r.2.1 ∧ r.2.1 < 4
  | 4 => st = 2 ∧ nl = cnt r.2.2.2.2.2 rt + 1 ∧ rt + 1 = r.2.2.1
  | _ => False)
theorem nl_out : ∀ c, c < 256 → outQ (nI c) 97 108 = !nlQ c := by decide +kernel
theorem kd_out : ∀ c, c < 256 → outQ (nI c) 48 51 = !(decide (48 ≤ c) && decide (c ≤ 51)) := by decide +kernel
section MR
variable {xs : Nat → Int32} {L : Nat} {σ : xS} {P : xP} {tx : List Nat}
theorem M_mayLay0 {n rt : Nat} (h : σ.1 110 4 = nI rt) (hr : rt < 4) : Cl xs L mX11_mayLay [.ref 110, .int (nI n), .int (nI 0)] GS σ GS (fun w t => w = some (.int (bI true)) ∧ t = xpi σ 112 (53 + rt) (nI n)) := by
  show Ev xs L mX11_mayLay 0 [.ref 110, .int (nI n), .int (nI 0)] [] GS σ GS _
  refine xe_iload_n dX11_mayLay_0 rfl ?_
  refine xe_if_ne 19 dX11_mayLay_1 (by decide) (fun c => absurd c (fun q => q (by decide))) (fun _ => ?_)
  refine xe_aload_n dX11_mayLay_4 rfl ?_
  refine e_getA (G := GS) (r := 110) dX11_mayLay_5 fdX11_13 rfl gk_110 gr_110_2 ?_
  refine xe_bipush (v := nI 53) dX11_mayLay_8 (by decide) ?_
  refine xe_aload_n dX11_mayLay_10 rfl ?_
  refine e_getI (G := GS) (r := 110) dX11_mayLay_11 fdX11_86 rfl gk_110 h ?_
  first | refine xn_iadd dX11_mayLay_14 ?_ | refine xe_iadd dX11_mayLay_14 ?_
  refine xe_iload_n dX11_mayLay_15 rfl ?_
  refine e_iast (G := GS) (a := 112) dX11_mayLay_16 gk_112 gn_112 (by omega) (by decide) ?_
  refine xe_iconst (v := nI 1) dX11_mayLay_17 (by decide) ?_
  exact xe_zret dX11_mayLay_18 rfl (by decide) ⟨rfl, rfl⟩
theorem M_mayLay1 {n nl rt : Nat} (h : RH σ P rt) (hr : rt < P.1) (h0 : 0 < nl) (hl : nl < 100) (hn : n < 2 ^ 31) : Cl xs L mX11_mayLay [.ref 110, .int (nI n), .int (nI nl)] GS σ GS (fun w t => w = some (.int (bI (mayW P rt n))) ∧ (if mayW P rt n then Lv t 1 (wnd P rt n) ∧ FL σ t 1 else t = σ)) := by
  show Ev xs L mX11_mayLay 0 [.ref 110, .int (nI n), .int (nI nl)] [] GS σ GS _
  refine xe_iload_n dX11_mayLay_0 rfl ?_
  refine xe_if_ne 19 dX11_mayLay_1 (by decide) (fun _ => ?_) (fun c => absurd c (nI_ne0 h0 (by omega)))
  refine xe_aload_n dX11_mayLay_19 rfl ?_
  refine xe_iconst (v := nI 1) dX11_mayLay_20 (by decide) ?_
  refine xe_aload_n dX11_mayLay_21 rfl ?_
  refine e_getI (G := GS) (r := 110) dX11_mayLay_22 fdX11_86 rfl gk_110 h.2.2.1 ?_
  refine xe_iload_n dX11_mayLay_25 rfl ?_
  refine e_callVp (G := GS) (r := 110) (M_mayWind h.1 h.kd hr hn) dX11_mayLay_26 kvX11_105 gk_110 rfl ?_
  refine xz_if_ne 34 dX11_mayLay_29 (by decide) (fun c => ?_) (fun c => ?_)
  · refine xe_aload_n dX11_mayLay_34 rfl ?_
    refine xe_iconst (v := nI 1) dX11_mayLay_35 (by decide) ?_
    refine xe_aload_n dX11_mayLay_36 rfl ?_
    refine e_getI (G := GS) (r := 110) dX11_mayLay_37 fdX11_86 rfl gk_110 h.2.2.1 ?_
    refine xe_iload_n dX11_mayLay_40 rfl ?_
    refine e_callV (G := GS) (r := 110) (M_windOn h.1 c) dX11_mayLay_41 kvX11_108 gk_110 rfl ?_
    rintro w t ⟨rfl, ht, ft⟩
    refine xe_pop dX11_mayLay_44 rfl ?_
    refine xe_iconst (v := nI 1) dX11_mayLay_45 (by decide) ?_
    exact xe_zret dX11_mayLay_46 rfl (by decide) ⟨by rw [c]; rfl, by rw [if_pos c]; exact ⟨ht, ft⟩⟩
  · refine xe_iconst (v := nI 0) dX11_mayLay_32 (by decide) ?_
    exact xe_zret dX11_mayLay_33 rfl (by decide) ⟨by rw [c]; rfl, by rw [if_neg (by rw [c]; decide)]⟩
abbrev pR (tx : List Nat) (σ : xS) : Option Value → xS → Prop := fun v t => v = some (.int (rdB tx).1) ∧ ((rdB tx).1 = -9 → Lv t 1 (rdB tx).2 ∧ t.1 110 4 = nI (rdB tx).2.1 ∧ ∀ u, u < (rdB tx).2.1 → t.1 113 u = nI ((rdB tx).2.2.1 u)) ∧ FR σ t
theorem M_readParts (h : Mt σ tx) (h1 : Lv σ 1 nilP) (h2 : σ.1 110 7 = bI true) (h3 : σ.1 110 4 = nI 0) : Cl xs L mX11_readParts [.ref 110] GS σ GS (pR tx σ) := by
  show Ev xs L mX11_readParts 0 [.ref 110, .null, .null, .null, .null] [] GS σ GS _
  obtain ⟨a1, a2, a3, a4⟩ := id h
  have key : ∀ (l : List Nat) (k : Nat) (r : xR) (st nl rt : Nat) (t : xS) (w : Value), k + l.length = tx.length → tx.drop k = l → rdT tx.length l k r = rdB tx → gI r → RI t r st nl rt → FR σ t → Ev xs L mX11_readParts 26 [.ref 110, .int (nI nl), .int (nI st), .int (nI k), w] [] GS t GS (pR tx σ) := by
    intro l
    induction l with
    | nil =>
      intro k r st nl rt t w hk hd hr hg hi hf
      have ht := h.fr hf
      have hk : k + 0 = tx.length := hk
      have hr : (if r.1 = 1 ∨ r.1 = 4 then (-9 : Int32) else nI tx.length, r.2.2) = rdB tx := hr
      refine xe_iload_n dX11_readParts_26 rfl ?_
      refine xe_aload_n dX11_readParts_27 rfl ?_
      refine e_getI (G := GS) (r := 110) dX11_readParts_28 fdX11_74 rfl gk_110 ht.1 ?_
      refine xe_icmp_ge 183 dX11_readParts_31 (by decide) (fun _ => ?_) (fun c => absurd (nI_le (by omega) (by omega)) c)
      obtain ⟨pl, kd, P⟩ := r
      obtain ⟨⟨b1, b2, b3, b4⟩, hp⟩ := hi
      have b1 : Lv t 1 P := b1
      have b4 : ∀ u, u < P.1 → t.1 113 u = nI (P.2.1 u) := b4
      have b5 := b1.2.1.1
      match pl, hp, hr with
      | 1, hp, hr =>
        obtain ⟨c1, c2, c3, c4⟩ := hp
        have c4 : P.1 = 0 := c4
        subst c1 c2 c3
        have hr : ((-9 : Int32), P) = rdB tx := hr
        refine xe_iload_n dX11_readParts_183 rfl ?_
        refine xe_iconst (v := nI 1) dX11_readParts_184 (by decide) ?_
        refine xe_icmp_eq 197 dX11_readParts_185 (by decide) (fun c => absurd c (by decide)) (fun _ => ?_)
        refine xe_iload_n dX11_readParts_188 rfl ?_
        refine xe_iconst (v := nI 2) dX11_readParts_189 (by decide) ?_
        refine xe_icmp_ne 202 dX11_readParts_190 (by decide) (fun _ => ?_) (fun c => absurd c (by decide))
        refine xe_aload_n dX11_readParts_202 rfl ?_
        refine xe_dup dX11_readParts_203 rfl ?_
        refine e_getI (G := GS) (r := 110) dX11_readParts_204 fdX11_86 rfl gk_110 b3 ?_
        refine xe_iload_n dX11_readParts_207 rfl ?_
        refine xe_iconst (v := nI 2) dX11_readParts_208 (by decide) ?_
        refine xe_icmp_ne 216 dX11_readParts_209 (by decide) (fun _ => ?_) (fun c => absurd c (by decide))
        refine xe_iconst (v := nI 0) dX11_readParts_216 (by decide) ?_
        first | refine xn_iadd dX11_readParts_217 ?_ | refine xe_iadd dX11_readParts_217 ?_
        refine xe_putI (G := GS) (r := 110) dX11_readParts_218 fdX11_86 rfl gk_110 ?_
        refine xe_bipush (v := -9) dX11_readParts_221 (by decide) ?_
        refine xe_iret dX11_readParts_223 rfl ⟨by rw [← hr], fun _ => ?_, hf.p0 _ (Or.inl rfl)⟩
        rw [← hr]
        exact ⟨b1.to (fun k _ _ => by rw [xpi_ne _ _ _ (by omega)]), by rw [xpi_rd, if_pos (by omega), c4], fun u hu => by rw [xpi_rd, if_neg (by omega)]; exact b4 u hu⟩
      | 2, hp, hr =>
        obtain ⟨c1, c2, c3⟩ := hp
        subst c1
        have hr : (nI tx.length, P) = rdB tx := hr
        refine xe_iload_n dX11_readParts_183 rfl ?_
        refine xe_iconst (v := nI 1) dX11_readParts_184 (by decide) ?_
        refine xe_icmp_eq 197 dX11_readParts_185 (by decide) (fun _ => ?_) (fun c => absurd rfl c)
        refine xe_aload_n dX11_readParts_197 rfl ?_
        refine e_getI (G := GS) (r := 110) dX11_readParts_198 fdX11_74 rfl gk_110 ht.1 ?_
        exact xe_iret dX11_readParts_201 rfl ⟨by rw [← hr], fun q => absurd (by rw [← hr] at q; exact q) (nI_m9 (by omega)), hf⟩
      | 3, hp, hr =>
        obtain ⟨c1, c2, c3⟩ := hp
        subst c1 c2
        have hr : (nI tx.length, P) = rdB tx := hr
        refine xe_iload_n dX11_readParts_183 rfl ?_
        refine xe_iconst (v := nI 1) dX11_readParts_184 (by decide) ?_
        refine xe_icmp_eq 197 dX11_readParts_185 (by decide) (fun c => absurd c (by decide)) (fun _ => ?_)
        refine xe_iload_n dX11_readParts_188 rfl ?_
        refine xe_iconst (v := nI 2) dX11_readParts_189 (by decide) ?_
        refine xe_icmp_ne 202 dX11_readParts_190 (by decide) (fun c => absurd c (fun q => q rfl)) (fun _ => ?_)
        refine xe_iload_n dX11_readParts_193 rfl ?_
        refine xe_if_ne 202 dX11_readParts_194 (by decide) (fun c => absurd c (fun q => q (by decide))) (fun _ => ?_)
        refine xe_aload_n dX11_readParts_197 rfl ?_
        refine e_getI (G := GS) (r := 110) dX11_readParts_198 fdX11_74 rfl gk_110 ht.1 ?_
        exact xe_iret dX11_readParts_201 rfl ⟨by rw [← hr], fun q => absurd (by rw [← hr] at q; exact q) (nI_m9 (by omega)), hf⟩
      | 4, hp, hr =>
        obtain ⟨c1, c2, c3⟩ := hp
        have c2 : nl = cnt P.2.2.2 rt + 1 := c2
        have c3 : rt + 1 = P.1 := c3
        subst c1
        have hr : ((-9 : Int32), P) = rdB tx := hr
        have hc12 : cnt P.2.2.2 rt ≤ 12 := (b1.2.1.2.1 rt (by omega)).2.2
        refine xe_iload_n dX11_readParts_183 rfl ?_
        refine xe_iconst (v := nI 1) dX11_readParts_184 (by decide) ?_
        refine xe_icmp_eq 197 dX11_readParts_185 (by decide) (fun c => absurd c (by decide)) (fun _ => ?_)
        refine xe_iload_n dX11_readParts_188 rfl ?_
        refine xe_iconst (v := nI 2) dX11_readParts_189 (by decide) ?_
        refine xe_icmp_ne 202 dX11_readParts_190 (by decide) (fun c => absurd c (fun q => q rfl)) (fun _ => ?_)
        refine xe_iload_n dX11_readParts_193 rfl ?_
        refine xe_if_ne 202 dX11_readParts_194 (by decide) (fun _ => ?_) (fun c => absurd c (nI_ne0 (by omega) (by omega)))
        refine xe_aload_n dX11_readParts_202 rfl ?_
        refine xe_dup dX11_readParts_203 rfl ?_
        refine e_getI (G := GS) (r := 110) dX11_readParts_204 fdX11_86 rfl gk_110 b3 ?_
        refine xe_iload_n dX11_readParts_207 rfl ?_
        refine xe_iconst (v := nI 2) dX11_readParts_208 (by decide) ?_
        refine xe_icmp_ne 216 dX11_readParts_209 (by decide) (fun c => absurd c (fun q => q rfl)) (fun _ => ?_)
        refine xe_iconst (v := nI 1) dX11_readParts_212 (by decide) ?_
        refine xe_goto 217 dX11_readParts_213 (by decide) ?_
        first | refine xn_iadd dX11_readParts_217 ?_ | refine xe_iadd dX11_readParts_217 ?_
        refine xe_putI (G := GS) (r := 110) dX11_readParts_218 fdX11_86 rfl gk_110 ?_
        refine xe_bipush (v := -9) dX11_readParts_221 (by decide) ?_
        refine xe_iret dX11_readParts_223 rfl ⟨by rw [← hr], fun _ => ?_, hf.p0 _ (Or.inl rfl)⟩
        rw [← hr]
        exact ⟨b1.to (fun k _ _ => by rw [xpi_ne _ _ _ (by omega)]), by rw [xpi_rd, if_pos (by omega), c3], fun u hu => by rw [xpi_rd, if_neg (by omega)]; exact b4 u hu⟩
      | 0, hp, _ => exact hp.elim
      | k + 5, hp, _ => exact hp.elim
    | cons c l ih =>
      intro k r st nl rt t w hk hd hr hg hi hf
      have ht := h.fr hf
      have hk : k + (l.length + 1) = tx.length := hk
      have hkl : k < tx.length := by omega
      have hc : tx[k]? = some c := by
        have := List.getElem?_drop (xs := tx) (i := k) (j := 0)
        rw [hd] at this
        rw [Nat.add_zero] at this
        exact this.symm
      have hd2 : tx.drop (k + 1) = l := by
        have : tx.drop (k + 1) = (tx.drop k).drop 1 := by rw [List.drop_drop]
        rw [this, hd]
        rfl
      have hc256 : c < 256 := a4 c (List.mem_of_getElem? hc)
      have hr : (match gOn r c with
        | none => (nI k, r.2.2)
        | some r2 => rdT tx.length l (k + 1) r2) = rdB tx := hr
      have bad : ∀ (t : xS), FR σ t → gOn r c = none → pR tx σ (some (.int (nI k))) t := by
        intro t hf he
        rw [he] at hr
        have hr : (nI k, r.2.2) = rdB tx := hr
        exact ⟨by rw [← hr], fun q => absurd (by rw [← hr] at q; exact q) (nI_m9 (by omega)), hf⟩
      have good : ∀ (r2 : xR) (st nl rt : Nat) (t : xS) (w : Value), gOn r c = some r2 → RI t r2 st nl rt → FR σ t → Ev xs L mX11_readParts 177 [.ref 110, .int (nI nl), .int (nI st), .int (nI k), w] [] GS t GS (pR tx σ) := by
        intro r2 st nl rt t w he hi2 hf2
        rw [he] at hr
        refine xn_inc dX11_readParts_177 rfl (by decide) ?_
        refine xe_goto 26 dX11_readParts_180 (by decide) ?_
        exact ih (k + 1) r2 st nl rt t w (by omega) hd2 hr (gOn_I hg he) hi2 hf2
      refine xe_iload_n dX11_readParts_26 rfl ?_
      refine xe_aload_n dX11_readParts_27 rfl ?_
      refine e_getI (G := GS) (r := 110) dX11_readParts_28 fdX11_74 rfl gk_110 ht.1 ?_
      refine xe_icmp_ge 183 dX11_readParts_31 (by decide) (fun c => absurd c (nI_ge (by omega) (by omega))) (fun _ => ?_)
      refine xe_aload_n dX11_readParts_34 rfl ?_
      refine e_getA (G := GS) (r := 110) dX11_readParts_35 fdX11_19 rfl gk_110 gr_110_5 ?_
      refine xe_iload_n dX11_readParts_38 rfl ?_
      refine e_iald (G := GS) (a := 114) dX11_readParts_39 gk_114 gn_114 (by omega) (by decide) (ht.2.2.1 k c hc) ?_
      refine xe_istore dX11_readParts_40 (by decide) ?_
      refine xe_iload_n dX11_readParts_42 rfl ?_
      refine xe_iconst (v := nI 1) dX11_readParts_43 (by decide) ?_
      obtain ⟨pl, kd, P⟩ := r
      obtain ⟨⟨b1, b2, b3, b4⟩, hp⟩ := hi
      have b1 : Lv t 1 P := b1
      have b4 : ∀ u, u < P.1 → t.1 113 u = nI (P.2.1 u) := b4
      have b5 := b1.2.1.1
      have hz : RH t P rt := ⟨b1, b2, b3, b4⟩
      match pl, hp, bad, good with
      | 1, hp, bad, good =>
        obtain ⟨c1, c2, c3, c4⟩ := hp
        have c4 : P.1 = 0 := c4
        subst c1 c2 c3
        have e : gOn (1, kd, P) c = if begQ P c then some (2, kd, P) else none := rfl
        refine xe_icmp_ne 85 dX11_readParts_44 (by decide) (fun _ => ?_) (fun c => absurd c (by decide))
        refine xe_iload dX11_readParts_85 rfl ?_
        refine xe_bipush (v := nI 84) dX11_readParts_87 (by decide) ?_
        refine xn_icmp_ne 130 dX11_readParts_89 (by decide) (by omega) (by omega) (fun d => ?_) (fun d => ?_)
        · have eb : begQ P c = false := by unfold begQ; rw [decide_eq_false d]; rfl
          rw [eb] at e
          refine xe_iload_n dX11_readParts_130 rfl ?_
          refine xe_iconst (v := nI 2) dX11_readParts_131 (by decide) ?_
          refine xe_icmp_ne 175 dX11_readParts_132 (by decide) (fun _ => ?_) (fun c => absurd c (by decide))
          refine xe_iload_n dX11_readParts_175 rfl ?_
          exact xe_iret dX11_readParts_176 rfl (bad t hf e)
        · have eb : begQ P c = true := by unfold begQ; rw [decide_eq_true d, decide_eq_true (by omega)]; rfl
          rw [eb] at e
          refine xe_iload_n dX11_readParts_92 rfl ?_
          refine xe_if_eq 100 dX11_readParts_93 (by decide) (fun _ => ?_) (fun c => absurd (by decide) c)
          refine xe_iload_n dX11_readParts_100 rfl ?_
          refine xe_iconst (v := nI 2) dX11_readParts_101 (by decide) ?_
          refine xe_icmp_ne 115 dX11_readParts_102 (by decide) (fun _ => ?_) (fun c => absurd c (by decide))
          refine xe_aload_n dX11_readParts_115 rfl ?_
          refine e_getI (G := GS) (r := 110) dX11_readParts_116 fdX11_86 rfl gk_110 b3 ?_
          refine xe_iconst (v := nI 4) dX11_readParts_119 (by decide) ?_
          refine xe_icmp_ne 125 dX11_readParts_120 (by decide) (fun _ => ?_) (fun c => absurd c (by decide))
          refine xe_iconst (v := nI 1) dX11_readParts_125 (by decide) ?_
          refine xe_istore_n dX11_readParts_126 (by decide) ?_
          refine xe_goto 177 dX11_readParts_127 (by decide) ?_
          exact good (2, kd, P) 1 0 0 t _ e ⟨hz, rfl, by decide, c4.symm, by decide⟩ hf
      | 2, hp, bad, good =>
        obtain ⟨c1, c2, c3, c4⟩ := hp
        have c3 : rt = P.1 := c3
        subst c1
        have e : gOn (2, kd, P) c = if decide (48 ≤ c) && decide (c ≤ 51) then some (3, c - 48, P) else none := rfl
        refine xe_icmp_ne 85 dX11_readParts_44 (by decide) (fun c => absurd c (fun q => q rfl)) (fun _ => ?_)
        refine xe_iload dX11_readParts_47 rfl ?_
        refine xe_i2l dX11_readParts_49 ?_
        refine xe_ldc2n (n := 48) dX11_readParts_50 gw896 (by decide) ?_
        refine xe_ldc2n (n := 51) dX11_readParts_53 gw897 (by decide) ?_
        refine e_callSp (M_inO (by decide) (by decide)) dX11_readParts_56 ksX11_49 rfl ?_
        rw [kd_out c hc256, Bool.not_not]
        refine xz_if_ne 64 dX11_readParts_59 (by decide) (fun d => ?_) (fun d => ?_)
        · rw [d] at e
          simp only [Bool.and_eq_true, decide_eq_true_eq] at d
          refine xe_aload_n dX11_readParts_64 rfl ?_
          refine e_getA (G := GS) (r := 110) dX11_readParts_65 fdX11_16 rfl gk_110 gr_110_3 ?_
          refine xe_aload_n dX11_readParts_68 rfl ?_
          refine e_getI (G := GS) (r := 110) dX11_readParts_69 fdX11_86 rfl gk_110 b3 ?_
          refine xe_iload dX11_readParts_72 rfl ?_
          refine xe_bipush (v := nI 48) dX11_readParts_74 (by decide) ?_
          refine xn_isub dX11_readParts_76 (by omega) ?_
          refine e_iast (G := GS) (a := 113) dX11_readParts_77 gk_113 gn_113 (by omega) (by decide) ?_
          refine xe_iconst (v := nI 2) dX11_readParts_78 (by decide) ?_
          refine xe_istore_n dX11_readParts_79 (by decide) ?_
          refine xe_iconst (v := nI 0) dX11_readParts_80 (by decide) ?_
          refine xe_istore_n dX11_readParts_81 (by decide) ?_
          refine xe_goto 177 dX11_readParts_82 (by decide) ?_
          refine good (3, c - 48, P) 2 0 rt _ _ e ⟨⟨b1.to (fun k _ _ => by rw [xpi_ne _ _ _ (by omega)]), by rw [xpi_rd, if_neg (by omega)]; exact b2, by rw [xpi_rd, if_neg (by omega)]; exact b3, fun u hu => ?_⟩, rfl, rfl, c3, c4, by rw [xpi_rd, if_pos (by omega)], by show c - 48 < 4; omega⟩ (hf.p3 _ _)
          have hu : u < P.1 := hu
          rw [xpi_rd, if_neg (by omega)]
          exact b4 u hu
        · rw [d] at e
          refine xe_iload_n dX11_readParts_62 rfl ?_
          exact xe_iret dX11_readParts_63 rfl (bad t hf e)
      | 3, hp, bad, good =>
        obtain ⟨c1, c2, c3, c4, c5, c6⟩ := hp
        have c3 : rt = P.1 := c3
        have c5 : t.1 113 rt = nI kd := c5
        have c6 : kd < 4 := c6
        subst c1 c2
        have e : gOn (3, kd, P) c = if nlQ c then some (4, kd, tieP P kd (c - 97)) else none := rfl
        have rest : Ev xs L mX11_readParts 130 [.ref 110, .int (nI 0), .int (nI 2), .int (nI k), .int (nI c)] [] GS t GS (pR tx σ) := by
          refine xe_iload_n dX11_readParts_130 rfl ?_
          refine xe_iconst (v := nI 2) dX11_readParts_131 (by decide) ?_
          refine xe_icmp_ne 175 dX11_readParts_132 (by decide) (fun c => absurd c (fun q => q rfl)) (fun _ => ?_)
          refine xe_iload dX11_readParts_135 rfl ?_
          refine xe_i2l dX11_readParts_137 ?_
          refine xe_ldc2n (n := 97) dX11_readParts_138 gw898 (by decide) ?_
          refine xe_ldc2n (n := 108) dX11_readParts_141 gw899 (by decide) ?_
          refine e_callSp (M_inO (by decide) (by decide)) dX11_readParts_144 ksX11_49 rfl ?_
          rw [nl_out c hc256, Bool.not_not]
          refine xz_if_eq 175 dX11_readParts_147 (by decide) (fun d => ?_) (fun d => ?_)
          · rw [d] at e
            refine xe_iload_n dX11_readParts_175 rfl ?_
            exact xe_iret dX11_readParts_176 rfl (bad t hf e)
          · rw [d] at e
            have d2 := d
            unfold nlQ at d2
            simp only [Bool.and_eq_true, decide_eq_true_eq] at d2
            refine xe_iload_n dX11_readParts_150 rfl ?_
            refine xe_bipush (v := nI 9) dX11_readParts_151 (by decide) ?_
            refine xe_icmp_ge 175 dX11_readParts_153 (by decide) (fun c => absurd c (by decide)) (fun _ => ?_)
            refine xe_aload_n dX11_readParts_156 rfl ?_
            refine xe_iload dX11_readParts_157 rfl ?_
            refine xe_bipush (v := nI 97) dX11_readParts_159 (by decide) ?_
            refine xn_isub dX11_readParts_161 (by omega) ?_
            refine xe_iload_n dX11_readParts_162 rfl ?_
            refine e_callV (G := GS) (r := 110) (M_mayLay0 b3 c4) dX11_readParts_163 kvX11_101 gk_110 rfl ?_
            rintro w u ⟨rfl, rfl⟩
            refine xe_if_eq 175 dX11_readParts_166 (by decide) (fun c => absurd c (show ¬ bI true = 0 by decide)) (fun _ => ?_)
            refine xn_inc dX11_readParts_169 rfl (by decide) ?_
            refine xe_goto 177 dX11_readParts_172 (by decide) ?_
            obtain ⟨i0, i1, i2, i3, i4⟩ := id b1
            have hn12 : c - 97 < 12 := by omega
            have hcz : cnt P.2.2.2 P.1 = 0 := List.countP_eq_zero.mpr (fun s hs => by
              have := (i1.2.2.1 s hs).1
              simp only [beq_iff_eq]
              omega)
            refine good (4, kd, tieP P kd (c - 97)) 2 (0 + 1) rt _ _ e ⟨⟨⟨by omega, tie_ok i1 (by omega) c6 hn12, fun u hu => ?_, ?_, fun i s hs => ?_⟩, by rw [xpi_rd, if_neg (by omega)]; exact b2, by rw [xpi_rd, if_neg (by omega)]; exact b3, fun u hu => ?_⟩, rfl, ?_, by show rt + 1 = P.1 + 1; omega⟩ (hf.fl ((FL.rf t 1).pi _ (by omega) (by omega)))
            · have hu : u < P.1 + 1 := hu
              show _ = nI (if u = P.1 then c - 97 else P.2.2.1 u)
              by_cases q : u = P.1
              · rw [xpi_rd, if_pos (by omega), if_pos q]
              · rw [xpi_rd, if_neg (by omega), if_neg q]
                exact i2 u (by omega)
            · rw [xpi_rd, if_neg (by omega)]
              exact i3
            · rw [xpi_rd, if_neg (by omega)]
              exact i4 i s hs
            · have hu : u < P.1 + 1 := hu
              show _ = nI (if u = P.1 then kd else P.2.1 u)
              rw [xpi_rd, if_neg (by omega)]
              by_cases q : u = P.1
              · rw [if_pos q, q, ← c3]
                exact c5
              · rw [if_neg q]
                exact b4 u (by omega)
            · show 0 + 1 = cnt P.2.2.2 rt + 1
              rw [c3, hcz]
        refine xe_icmp_ne 85 dX11_readParts_44 (by decide) (fun _ => ?_) (fun c => absurd c (by decide))
        refine xe_iload dX11_readParts_85 rfl ?_
        refine xe_bipush (v := nI 84) dX11_readParts_87 (by decide) ?_
        refine xn_icmp_ne 130 dX11_readParts_89 (by decide) (by omega) (by omega) (fun d => ?_) (fun d => ?_)
        · exact rest
        · refine xe_iload_n dX11_readParts_92 rfl ?_
          refine xe_if_eq 100 dX11_readParts_93 (by decide) (fun c => absurd c (by decide)) (fun _ => ?_)
          refine xe_iload_n dX11_readParts_96 rfl ?_
          refine xe_if_le 130 dX11_readParts_97 (by decide) (fun _ => ?_) (fun c => absurd (by decide) c)
          exact rest
      | 4, hp, bad, good =>
        obtain ⟨c1, c2, c3⟩ := hp
        have c2 : nl = cnt P.2.2.2 rt + 1 := c2
        have c3 : rt + 1 = P.1 := c3
        subst c1
        have hc12 : cnt P.2.2.2 rt ≤ 12 := (b1.2.1.2.1 rt (by omega)).2.2
        have e : gOn (4, kd, P) c = if nlQ c then (if decide (cnt P.2.2.2 (P.1 - 1) + 1 < 9) && mayW P (P.1 - 1) (c - 97) then some (4, kd, wnd P (P.1 - 1) (c - 97)) else none) else if begQ P c then some (2, kd, P) else none := rfl
        rw [show P.1 - 1 = rt by omega] at e
        refine xe_icmp_ne 85 dX11_readParts_44 (by decide) (fun _ => ?_) (fun c => absurd c (by decide))
        refine xe_iload dX11_readParts_85 rfl ?_
        refine xe_bipush (v := nI 84) dX11_readParts_87 (by decide) ?_
        refine xn_icmp_ne 130 dX11_readParts_89 (by decide) (by omega) (by omega) (fun d => ?_) (fun d => ?_)
        · have eb : begQ P c = false := by unfold begQ; rw [decide_eq_false d]; rfl
          rw [eb] at e
          refine xe_iload_n dX11_readParts_130 rfl ?_
          refine xe_iconst (v := nI 2) dX11_readParts_131 (by decide) ?_
          refine xe_icmp_ne 175 dX11_readParts_132 (by decide) (fun c => absurd c (fun q => q rfl)) (fun _ => ?_)
          refine xe_iload dX11_readParts_135 rfl ?_
          refine xe_i2l dX11_readParts_137 ?_
          refine xe_ldc2n (n := 97) dX11_readParts_138 gw898 (by decide) ?_
          refine xe_ldc2n (n := 108) dX11_readParts_141 gw899 (by decide) ?_
          refine e_callSp (M_inO (by decide) (by decide)) dX11_readParts_144 ksX11_49 rfl ?_
          rw [nl_out c hc256, Bool.not_not]
          refine xz_if_eq 175 dX11_readParts_147 (by decide) (fun d2 => ?_) (fun d2 => ?_)
          · rw [d2] at e
            refine xe_iload_n dX11_readParts_175 rfl ?_
            exact xe_iret dX11_readParts_176 rfl (bad t hf e)
          · rw [d2, if_pos rfl] at e
            have d3 := d2
            unfold nlQ at d3
            simp only [Bool.and_eq_true, decide_eq_true_eq] at d3
            refine xe_iload_n dX11_readParts_150 rfl ?_
            refine xe_bipush (v := nI 9) dX11_readParts_151 (by decide) ?_
            refine xn_icmp_ge 175 dX11_readParts_153 (by decide) (by omega) (by omega) (fun d4 => ?_) (fun d4 => ?_)
            · rw [decide_eq_false (by omega)] at e
              refine xe_iload_n dX11_readParts_175 rfl ?_
              exact xe_iret dX11_readParts_176 rfl (bad t hf e)
            · rw [decide_eq_true (by omega), Bool.true_and] at e
              refine xe_aload_n dX11_readParts_156 rfl ?_
              refine xe_iload dX11_readParts_157 rfl ?_
              refine xe_bipush (v := nI 97) dX11_readParts_159 (by decide) ?_
              refine xn_isub dX11_readParts_161 (by omega) ?_
              refine xe_iload_n dX11_readParts_162 rfl ?_
              refine e_callV (G := GS) (r := 110) (M_mayLay1 hz (by omega) (show 0 < nl by omega) (by omega) (show c - 97 < 2 ^ 31 by omega)) dX11_readParts_163 kvX11_101 gk_110 rfl ?_
              rintro w u ⟨rfl, hu⟩
              cases hm : mayW P rt (c - 97) with
              | true =>
                rw [hm] at e
                rw [hm, if_pos rfl] at hu
                obtain ⟨u1, u2⟩ := hu
                refine xe_if_eq 175 dX11_readParts_166 (by decide) (fun c => absurd c (show ¬ bI true = 0 by decide)) (fun _ => ?_)
                refine xn_inc dX11_readParts_169 rfl (by decide) ?_
                refine xe_goto 177 dX11_readParts_172 (by decide) ?_
                refine good (4, kd, wnd P rt (c - 97)) 2 (nl + 1) rt u _ e ⟨⟨u1, by rw [u2.1 110 (by omega)]; exact b2, by rw [u2.1 110 (by omega)]; exact b3, by rw [u2.1 113 (by omega)]; exact b4⟩, rfl, ?_, c3⟩ (hf.fl u2)
                show nl + 1 = cnt (P.2.2.2 ++ [_]) rt + 1
                rw [cnt_app, if_pos rfl]
                omega
              | false =>
                rw [hm] at e
                rw [hm, if_neg (by decide)] at hu
                rw [hu]
                refine xe_if_eq 175 dX11_readParts_166 (by decide) (fun _ => ?_) (fun c => absurd rfl c)
                refine xe_iload_n dX11_readParts_175 rfl ?_
                exact xe_iret dX11_readParts_176 rfl (bad t hf e)
        · have en : nlQ c = false := by rw [d]; rfl
          rw [en] at e
          refine xe_iload_n dX11_readParts_92 rfl ?_
          refine xe_if_eq 100 dX11_readParts_93 (by decide) (fun c => absurd c (by decide)) (fun _ => ?_)
          refine xe_iload_n dX11_readParts_96 rfl ?_
          refine xn_if_le 130 dX11_readParts_97 (by decide) (by omega) (fun d5 => ?_) (fun d5 => ?_)
          · omega
          refine xe_iload_n dX11_readParts_100 rfl ?_
          refine xe_iconst (v := nI 2) dX11_readParts_101 (by decide) ?_
          refine xe_icmp_ne 115 dX11_readParts_102 (by decide) (fun c => absurd c (fun q => q rfl)) (fun _ => ?_)
          refine xe_aload_n dX11_readParts_105 rfl ?_
          refine xe_dup dX11_readParts_106 rfl ?_
          refine e_getI (G := GS) (r := 110) dX11_readParts_107 fdX11_86 rfl gk_110 b3 ?_
          refine xe_iconst (v := nI 1) dX11_readParts_110 (by decide) ?_
          first | refine xn_iadd dX11_readParts_111 ?_ | refine xe_iadd dX11_readParts_111 ?_
          refine xe_putI (G := GS) (r := 110) dX11_readParts_112 fdX11_86 rfl gk_110 ?_
          refine xe_aload_n dX11_readParts_115 rfl ?_
          refine e_getI (G := GS) (r := 110) dX11_readParts_116 fdX11_86 rfl gk_110 (show _ = nI (rt + 1) by rw [xpi_rd, if_pos (by omega)]) ?_
          refine xe_iconst (v := nI 4) dX11_readParts_119 (by decide) ?_
          refine xn_icmp_ne 125 dX11_readParts_120 (by decide) (by omega) (by omega) (fun d6 => ?_) (fun d6 => ?_)
          · have eb : begQ P c = true := by unfold begQ; rw [decide_eq_true d, decide_eq_true (by omega)]; rfl
            rw [eb] at e
            refine xe_iconst (v := nI 1) dX11_readParts_125 (by decide) ?_
            refine xe_istore_n dX11_readParts_126 (by decide) ?_
            refine xe_goto 177 dX11_readParts_127 (by decide) ?_
            exact good (2, kd, P) 1 nl (rt + 1) _ _ e ⟨⟨b1.to (fun k _ _ => by rw [xpi_ne _ _ _ (by omega)]), by rw [xpi_rd, if_neg (by omega)]; exact b2, by rw [xpi_rd, if_pos (by omega)], fun u hu => by rw [xpi_rd, if_neg (by omega)]; exact b4 u hu⟩, rfl, by omega, c3, by omega⟩ (hf.p0 _ (Or.inl rfl))
          · have eb : begQ P c = false := by unfold begQ; rw [decide_eq_false (by omega : ¬ P.1 < 4), Bool.and_false]
            rw [eb] at e
            refine xe_iload_n dX11_readParts_123 rfl ?_
            exact xe_iret dX11_readParts_124 rfl (bad _ (hf.p0 _ (Or.inl rfl)) e)
      | 0, hp, _, _ => exact hp.elim
      | k + 5, hp, _, _ => exact hp.elim
  refine xe_aload_n dX11_readParts_0 rfl ?_
  refine e_getI (G := GS) (r := 110) dX11_readParts_1 fdX11_74 rfl gk_110 a1 ?_
  cases htx : tx with
  | nil =>
    refine xe_if_eq 18 dX11_readParts_4 (by decide) (fun _ => ?_) (fun c => absurd (by decide) c)
    refine xe_iconst (v := nI 0) dX11_readParts_18 (by decide) ?_
    exact xe_iret dX11_readParts_19 rfl ⟨rfl, fun q => absurd q (by decide), FR.rf σ⟩
  | cons c l =>
    have hc : tx[0]? = some c := by rw [htx]; rfl
    have hl : (c :: l).length ≤ 48 := by rw [← htx]; exact a2
    have hl : l.length + 1 ≤ 48 := hl
    have hc256 : c < 256 := a4 c (List.mem_of_getElem? hc)
    refine xe_if_eq 18 dX11_readParts_4 (by decide) (fun c => absurd c (nI_ne0 (n := l.length + 1) (by omega) (by omega))) (fun _ => ?_)
    refine xe_aload_n dX11_readParts_7 rfl ?_
    refine e_getA (G := GS) (r := 110) dX11_readParts_8 fdX11_19 rfl gk_110 gr_110_5 ?_
    refine xe_iconst (v := nI 0) dX11_readParts_11 (by decide) ?_
    refine e_iald (G := GS) (a := 114) dX11_readParts_12 gk_114 gn_114 (by omega) (by decide) (a3 0 c hc) ?_
    refine xe_bipush (v := nI 78) dX11_readParts_13 (by decide) ?_
    have er : rdB (c :: l) = (match (if c = 78 then some (1, 0, nilP) else none : Option xR) with
        | none => (nI 0, nilP)
        | some r2 => rdT (l.length + 1) l 1 r2) := rfl
    refine xn_icmp_eq 20 dX11_readParts_15 (by decide) (by omega) (by omega) (fun d => ?_) (fun d => ?_)
    · rw [if_pos d] at er
      refine xe_iconst (v := nI 0) dX11_readParts_20 (by decide) ?_
      refine xe_istore_n dX11_readParts_21 (by decide) ?_
      refine xe_iconst (v := nI 0) dX11_readParts_22 (by decide) ?_
      refine xe_istore_n dX11_readParts_23 (by decide) ?_
      refine xe_iconst (v := nI 1) dX11_readParts_24 (by decide) ?_
      refine xe_istore_n dX11_readParts_25 (by decide) ?_
      have k := key l 1 (1, 0, nilP) 0 0 0 σ .null (by rw [htx]; show 1 + l.length = l.length + 1; omega) (by rw [htx]; rfl) (by rw [htx]; exact er.symm) (gI_mk nil_ok (by omega) (fun h => by omega) (fun h => by omega) (fun h => by omega)) ⟨⟨h1, h2, h3, fun u hu => absurd hu (Nat.not_lt_zero _)⟩, rfl, rfl, rfl, rfl⟩ (FR.rf σ)
      rw [htx] at k
      exact k
    · rw [if_neg d] at er
      have er : rdB (c :: l) = (nI 0, nilP) := er
      refine xe_iconst (v := nI 0) dX11_readParts_18 (by decide) ?_
      exact xe_iret dX11_readParts_19 rfl ⟨by rw [er], fun q => absurd (by rw [er] at q; exact q) (by decide), FR.rf σ⟩
theorem M_readText (h : Mt σ tx) : Cl xs L mX11_readText [.ref 110] GS σ GS (fun w t => pR tx σ w t ∧ t.1 110 7 = bI false) := by
  show Ev xs L mX11_readText 0 [.ref 110, .null] [] GS σ GS _
  refine xe_aload_n dX11_readText_0 rfl ?_
  refine xe_iconst (v := nI 1) dX11_readText_1 (by decide) ?_
  refine e_callV (G := GS) (r := 110) (M_clearLevel (v := 1) (by decide)) dX11_readText_2 kvX11_82 gk_110 rfl ?_
  rintro w t ⟨rfl, ht, ft⟩
  refine xe_aload_n dX11_readText_5 rfl ?_
  refine xe_iconst (v := nI 0) dX11_readText_6 (by decide) ?_
  refine xe_putI (G := GS) (r := 110) dX11_readText_7 fdX11_86 rfl gk_110 ?_
  refine xe_aload_n dX11_readText_10 rfl ?_
  refine xe_iconst (v := nI 1) dX11_readText_11 (by decide) ?_
  refine xe_putZ (G := GS) (r := 110) dX11_readText_12 fdX11_78 rfl (by decide) gk_110 ?_
  refine xe_aload_n dX11_readText_15 rfl ?_
  have f0 : FR σ t := (FR.rf σ).fl ft
  have f1 := f0.p0 (k := 4) (nI 0) (Or.inl rfl)
  have f2 := f1.p0 (k := 7) (nI 1 &&& 1) (Or.inr rfl)
  refine e_callV (G := GS) (r := 110) (M_readParts (h.fr f2) (ht.to (fun k _ _ => by rw [xpi_ne _ _ _ (by omega), xpi_ne _ _ _ (by omega)])) (by rw [xpi_rd, if_pos (by omega)]; decide) (by rw [xpi_rd, if_neg (by omega), xpi_rd, if_pos (by omega)])) dX11_readText_16 kvX11_89 gk_110 rfl ?_
  rintro w u ⟨rfl, hu, fu⟩
  refine xe_istore_n dX11_readText_19 (by decide) ?_
  refine xe_aload_n dX11_readText_20 rfl ?_
  refine xe_iconst (v := nI 0) dX11_readText_21 (by decide) ?_
  refine xe_putZ (G := GS) (r := 110) dX11_readText_22 fdX11_78 rfl (by decide) gk_110 ?_
  refine xe_iload_n dX11_readText_25 rfl ?_
  refine xe_iret dX11_readText_26 rfl ⟨⟨rfl, fun q => ?_, (f2.tr fu).p0 _ (Or.inr rfl)⟩, by rw [xpi_rd, if_pos (by omega)]; decide⟩
  obtain ⟨u1, u2, u3⟩ := hu q
  exact ⟨u1.to (fun k _ _ => by rw [xpi_ne _ _ _ (by omega)]), by rw [xpi_rd, if_neg (by omega)]; exact u2, fun x hx => by rw [xpi_rd, if_neg (by omega)]; exact u3 x hx⟩
end MR
