/-! the model: a level is changed -/
def LI (σ : xS) (v : Nat) (z : List xSt) : Prop := v < 2 ∧ z.length ≤ 48 ∧ σ.1 112 (53 * v + 4) = nI z.length ∧ (∀ i s, z[i]? = some s → σ.1 112 (53 * v + 5 + i) = nI (enc s)) ∧ ∀ s ∈ z, SO s
def FN (σ t : xS) (v : Nat) : Prop := (∀ c, c ≠ 112 → t.1 c = σ.1 c) ∧ (∀ k, (k < 53 * v + 4 ∨ 53 * v + 53 ≤ k) → t.1 112 k = σ.1 112 k) ∧ t.2 = σ.2
theorem FN.rf (σ : xS) (v : Nat) : FN σ σ v := ⟨fun _ _ => rfl, fun _ _ => rfl, rfl⟩
theorem FN.tr {σ t u : xS} {v : Nat} (h1 : FN σ t v) (h2 : FN t u v) : FN σ u v := ⟨fun c hc => (h2.1 c hc).trans (h1.1 c hc), fun k hk => (h2.2.1 k hk).trans (h1.2.1 k hk), h2.2.2.trans h1.2.2⟩
theorem FN.pi {σ t : xS} {v k : Nat} (x : Int32) (h : FN σ t v) (h1 : 53 * v + 4 ≤ k) (h2 : k < 53 * v + 53) : FN σ (xpi t 112 k x) v := ⟨fun c hc => (xpi_ne t k x hc).trans (h.1 c hc), fun q hq => by rw [xpi_rd, if_neg (by omega)]; exact h.2.1 q hq, h.2.2⟩
theorem FL.of {σ t : xS} {v : Nat} (h : FN σ t v) : FL σ t v := ⟨h.1, fun k hk => h.2.1 k (by omega), h.2.2⟩
theorem LI.so {σ : xS} {v : Nat} {z : List xSt} (h : LI σ v z) {i : Nat} {s : xSt} (hs : z[i]? = some s) : SO s := h.2.2.2.2 s (List.mem_of_getElem? hs)
theorem Lv.li {σ : xS} {v : Nat} {P : xP} (h : Lv σ v P) : LI σ v P.2.2.2 := ⟨h.1, h.2.1.len, h.2.2.2.1, h.2.2.2.2, fun s hs => (h.2.1.2.2.1 s hs).2⟩
theorem LI.set {σ : xS} {v i : Nat} {z : List xSt} {s : xSt} (h : LI σ v z) (hi : i < z.length) (hs : SO s) : LI (xpi σ 112 (53 * v + 5 + i) (nI (enc s))) v (z.set i s) := by
  obtain ⟨h1, h2, h3, h4, h5⟩ := h
  refine ⟨h1, by rw [List.length_set]; exact h2, ?_, fun q u hu => ?_, fun u hu => ?_⟩
  · rw [xpi_rd, if_neg (by omega), List.length_set]
    exact h3
  · by_cases e : q = i
    · subst e
      rw [List.getElem?_set_self hi] at hu
      cases hu
      rw [xpi_rd, if_pos (by omega)]
    · rw [List.getElem?_set_ne (Ne.symm e)] at hu
      rw [xpi_rd, if_neg (by omega)]
      exact h4 q u hu
  · rcases List.mem_or_eq_of_mem_set hu with q | q
    · exact h5 u q
    · rw [q]; exact hs
def dn : Nat → Int32
  | 0 => -1
  | i + 1 => nI i
theorem dn_sub (n : Nat) : nI n - nI 1 = dn n := by
  cases n with
  | zero => decide
  | succ n => rw [pk_sub (by omega)]; rfl
theorem dn_dec (n : Nat) : nI n + Int32.ofInt (-1) = dn n := by
  cases n with
  | zero => decide
  | succ n => exact pk_m1 n
def rnm (b : Bool) (n : Nat) : Nat := if b then negN n else rotN n
theorem rnm_lt (b : Bool) {n : Nat} : rnm b n < 12 := by
  unfold rnm negN rotN
  split <;> exact Nat.mod_lt _ (by decide)
def rnP (b : Bool) (P : xP) : xP := if b then ovrP P else trnP P
section MA
variable {xs : Nat → Int32} {L : Nat} {σ : xS} {v : Nat} {P : xP} {G : xG}
theorem M_manyI {z : List xSt} (h : LI σ v z) : Cl xs L mX11_many [.ref 110, .int (nI v)] GS σ GS (pI σ (nI z.length)) := by
  show Ev xs L mX11_many 0 [.ref 110, .int (nI v)] [] GS σ GS _
  refine xe_aload_n dX11_many_0 rfl ?_
  refine e_getA (G := GS) (r := 110) dX11_many_1 fdX11_13 rfl gk_110 gr_110_2 ?_
  refine xe_bipush (v := nI 53) dX11_many_4 (by decide) ?_
  refine xe_iload_n dX11_many_6 rfl ?_
  first | refine xn_imul dX11_many_7 ?_ | refine xe_imul dX11_many_7 ?_
  refine xe_iconst (v := nI 4) dX11_many_8 (by decide) ?_
  first | refine xn_iadd dX11_many_9 ?_ | refine xe_iadd dX11_many_9 ?_
  refine e_iald (G := GS) (a := 112) dX11_many_10 gk_112 gn_112 (by have := h.1; omega) (by decide) h.2.2.1 ?_
  exact e_iret dX11_many_11 rfl (by first | rfl | simp [*])
theorem M_laidI {z : List xSt} (h : LI σ v z) {i : Nat} {s : xSt} (hs : z[i]? = some s) : Cl xs L mX11_laid [.ref 110, .int (nI v), .int (nI i)] GS σ GS (pI σ (nI (enc s))) := by
  show Ev xs L mX11_laid 0 [.ref 110, .int (nI v), .int (nI i)] [] GS σ GS _
  refine xe_aload_n dX11_laid_0 rfl ?_
  refine e_getA (G := GS) (r := 110) dX11_laid_1 fdX11_13 rfl gk_110 gr_110_2 ?_
  refine xe_bipush (v := nI 53) dX11_laid_4 (by decide) ?_
  refine xe_iload_n dX11_laid_6 rfl ?_
  first | refine xn_imul dX11_laid_7 ?_ | refine xe_imul dX11_laid_7 ?_
  refine xe_iconst (v := nI 5) dX11_laid_8 (by decide) ?_
  first | refine xn_iadd dX11_laid_9 ?_ | refine xe_iadd dX11_laid_9 ?_
  refine xe_iload_n dX11_laid_10 rfl ?_
  first | refine xn_iadd dX11_laid_11 ?_ | refine xe_iadd dX11_laid_11 ?_
  refine e_iald (G := GS) (a := 112) dX11_laid_12 gk_112 gn_112 (by have := h.1; have := Ls.lt hs; have := h.2.1; omega) (by decide) (h.2.2.2.1 i s hs) ?_
  exact e_iret dX11_laid_13 rfl (by first | rfl | simp [*])
theorem M_windOn (h : Lv σ v P) {j n : Nat} (hm : mayW P j n = true) : Cl xs L mX11_windOn [.ref 110, .int (nI v), .int (nI j), .int (nI n)] GS σ GS (fun w t => w = some (.int (nI (crA (P.2.2.1 j) n P.2.2.2))) ∧ Lv t v (wnd P j n) ∧ FL σ t v) := by
  show Ev xs L mX11_windOn 0 [.ref 110, .int (nI v), .int (nI j), .int (nI n), .null, .null, .null] [] GS σ GS _
  obtain ⟨m1, m2, m3, m4⟩ := mayW_lt hm
  obtain ⟨hv, hp, i1, i2, i3⟩ := id h
  have hok := wnd_ok hp hm
  have hlen : P.2.2.2.length + 1 ≤ 48 := by
    have := hok.len
    have e : (wnd P j n).2.2.2.length = P.2.2.2.length + 1 := List.length_append
    omega
  have h4 := hp.1
  obtain ⟨t4, t5, t6⟩ := hp.2.1 j m1
  refine xe_bipush (v := nI 53) dX11_windOn_0 (by decide) ?_
  refine xe_iload_n dX11_windOn_2 rfl ?_
  first | refine xn_imul dX11_windOn_3 ?_ | refine xe_imul dX11_windOn_3 ?_
  refine xe_istore dX11_windOn_4 (by decide) ?_
  refine xe_aload_n dX11_windOn_6 rfl ?_
  refine e_getA (G := GS) (r := 110) dX11_windOn_7 fdX11_13 rfl gk_110 gr_110_2 ?_
  refine xe_iload dX11_windOn_10 rfl ?_
  refine xe_iload_n dX11_windOn_12 rfl ?_
  first | refine xn_iadd dX11_windOn_13 ?_ | refine xe_iadd dX11_windOn_13 ?_
  refine e_iald (G := GS) (a := 112) dX11_windOn_14 gk_112 gn_112 (by omega) (by decide) (i1 j m1) ?_
  refine xe_istore dX11_windOn_15 (by decide) ?_
  refine xe_aload_n dX11_windOn_17 rfl ?_
  refine xe_iload_n dX11_windOn_18 rfl ?_
  refine xe_bipush (v := -9) dX11_windOn_19 (by decide) ?_
  refine xe_iload dX11_windOn_21 rfl ?_
  refine xe_iload_n dX11_windOn_23 rfl ?_
  refine e_callVp (G := GS) (r := 110) (M_crossedBy h (p := fun _ => true) t5 m2 (Or.inl ⟨rfl, fun _ => rfl⟩)) dX11_windOn_24 kvX11_143 gk_110 rfl ?_
  refine xe_istore dX11_windOn_27 (by decide) ?_
  refine xe_aload_n dX11_windOn_29 rfl ?_
  refine e_getA (G := GS) (r := 110) dX11_windOn_30 fdX11_13 rfl gk_110 gr_110_2 ?_
  refine xe_iload dX11_windOn_33 rfl ?_
  refine xe_iconst (v := nI 5) dX11_windOn_35 (by decide) ?_
  first | refine xn_iadd dX11_windOn_36 ?_ | refine xe_iadd dX11_windOn_36 ?_
  refine xe_aload_n dX11_windOn_37 rfl ?_
  refine e_getA (G := GS) (r := 110) dX11_windOn_38 fdX11_13 rfl gk_110 gr_110_2 ?_
  refine xe_iload dX11_windOn_41 rfl ?_
  refine xe_iconst (v := nI 4) dX11_windOn_43 (by decide) ?_
  first | refine xn_iadd dX11_windOn_44 ?_ | refine xe_iadd dX11_windOn_44 ?_
  refine e_iald (G := GS) (a := 112) dX11_windOn_45 gk_112 gn_112 (by omega) (by decide) i2 ?_
  first | refine xn_iadd dX11_windOn_46 ?_ | refine xe_iadd dX11_windOn_46 ?_
  refine xe_iload_n dX11_windOn_47 rfl ?_
  refine xe_iload dX11_windOn_48 rfl ?_
  refine xe_iload_n dX11_windOn_50 rfl ?_
  refine xe_aload_n dX11_windOn_51 rfl ?_
  refine xe_iload_n dX11_windOn_52 rfl ?_
  refine xe_iload_n dX11_windOn_53 rfl ?_
  refine e_callVp (G := GS) (r := 110) (M_stretchesOf h (by omega)) dX11_windOn_54 kvX11_137 gk_110 rfl ?_
  refine e_callSp (M_asOne) dX11_windOn_57 ksX11_150 rfl ?_
  refine e_iast (G := GS) (a := 112) dX11_windOn_60 gk_112 gn_112 (by omega) (by decide) ?_
  refine xe_aload_n dX11_windOn_61 rfl ?_
  refine e_getA (G := GS) (r := 110) dX11_windOn_62 fdX11_13 rfl gk_110 gr_110_2 ?_
  refine xe_iload dX11_windOn_65 rfl ?_
  refine xe_iconst (v := nI 4) dX11_windOn_67 (by decide) ?_
  first | refine xn_iadd dX11_windOn_68 ?_ | refine xe_iadd dX11_windOn_68 ?_
  refine xe_dup2 dX11_windOn_69 rfl rfl ?_
  refine e_iald (G := GS) (a := 112) dX11_windOn_70 gk_112 gn_112 (by omega) (by decide) (show _ = nI P.2.2.2.length by rw [xpi_rd, if_neg (by omega)]; exact i2) ?_
  refine xe_iconst (v := nI 1) dX11_windOn_71 (by decide) ?_
  first | refine xn_iadd dX11_windOn_72 ?_ | refine xe_iadd dX11_windOn_72 ?_
  refine e_iast (G := GS) (a := 112) dX11_windOn_73 gk_112 gn_112 (by omega) (by decide) ?_
  refine xe_aload_n dX11_windOn_74 rfl ?_
  refine e_getA (G := GS) (r := 110) dX11_windOn_75 fdX11_13 rfl gk_110 gr_110_2 ?_
  refine xe_iload dX11_windOn_78 rfl ?_
  refine xe_iload_n dX11_windOn_80 rfl ?_
  first | refine xn_iadd dX11_windOn_81 ?_ | refine xe_iadd dX11_windOn_81 ?_
  refine xe_iload_n dX11_windOn_82 rfl ?_
  refine e_iast (G := GS) (a := 112) dX11_windOn_83 gk_112 gn_112 (by omega) (by decide) ?_
  refine xe_iload dX11_windOn_84 rfl ?_
  refine xe_iret dX11_windOn_86 rfl ⟨rfl, ⟨hv, hok, fun t ht => ?_, ?_, fun i s hs => ?_⟩, (((FL.rf σ v).pi _ (by omega) (by omega)).pi _ (by omega) (by omega)).pi _ (by omega) (by omega)⟩
  · have ht : t < P.1 := ht
    show _ = nI (if t = j then n else P.2.2.1 t)
    by_cases e : t = j
    · rw [xpi_rd, if_pos (by omega), if_pos e]
    · rw [xpi_rd, if_neg (by omega), xpi_rd, if_neg (by omega), xpi_rd, if_neg (by omega), if_neg e]
      exact i1 t ht
  · rw [xpi_rd, if_neg (by omega), xpi_rd, if_pos (by omega)]
    show _ = nI (P.2.2.2 ++ [_]).length
    rw [List.length_append]
    rfl
  · have hs : (P.2.2.2 ++ [(j, P.2.2.1 j, n, cnt P.2.2.2 j)])[i]? = some s := hs
    by_cases e : i < P.2.2.2.length
    · rw [List.getElem?_append_left e] at hs
      rw [xpi_rd, if_neg (by omega), xpi_rd, if_neg (by omega), xpi_rd, if_neg (by omega)]
      exact i3 i s hs
    · rw [List.getElem?_append_right (by omega)] at hs
      have hz0 : i - P.2.2.2.length < 1 := (List.getElem?_eq_some_iff.mp hs).1
      rw [show i - P.2.2.2.length = 0 by omega] at hs
      cases hs
      rw [xpi_rd, if_neg (by omega), xpi_rd, if_neg (by omega), xpi_rd, if_pos (by omega)]
def lBs (z : List xSt) (j i : Nat) (o : Option Nat) : Prop := match o with
  | none => ∀ q s, q < i → z[q]? = some s → s.1 ≠ j
  | some b => b < i ∧ ∃ u, z[b]? = some u ∧ u.1 = j ∧ ∀ q s, q < i → z[q]? = some s → s.1 = j → s.2.2.2 ≤ u.2.2.2 ∧ (q < b → s.2.2.2 < u.2.2.2)
theorem lBs_las {P : xP} (hp : POk P) {j : Nat} {o : Option Nat} (h : lBs P.2.2.2 j P.2.2.2.length o) : o = las P.2.2.2 j := by
  match o, h with
  | none, h =>
    have h : ∀ q s, q < P.2.2.2.length → P.2.2.2[q]? = some s → s.1 ≠ j := h
    refine (List.findIdx?_eq_none_iff.mpr (fun s hs => ?_)).symm
    obtain ⟨q, hq⟩ := List.getElem?_of_mem hs
    have := h q s (Ls.lt hq) hq
    simp [this]
  | some b, h =>
    obtain ⟨hb, u, hu, uj, hmax⟩ := h
    have hperm := hp.2.2.2.1 j
    have hmem : u.2.2.2 ∈ (P.2.2.2.filter (fun s => s.1 == j)).map (fun s => s.2.2.2) := List.mem_map.mpr ⟨u, List.mem_filter.mpr ⟨List.mem_of_getElem? hu, by simp [uj]⟩, rfl⟩
    have hlt : u.2.2.2 < cnt P.2.2.2 j := List.mem_range.mp (hperm.mem_iff.mp hmem)
    have hex : cnt P.2.2.2 j - 1 ∈ (P.2.2.2.filter (fun s => s.1 == j)).map (fun s => s.2.2.2) := hperm.mem_iff.mpr (List.mem_range.mpr (by omega))
    obtain ⟨s, hs, he⟩ := List.mem_map.mp hex
    obtain ⟨hs1, hs2⟩ := List.mem_filter.mp hs
    obtain ⟨q, hq⟩ := List.getElem?_of_mem hs1
    have h1 := (hmax q s (Ls.lt hq) hq (by simpa using hs2)).1
    have hpl : u.2.2.2 + 1 = cnt P.2.2.2 j := by omega
    refine (List.findIdx?_eq_some_iff_getElem.mpr ⟨hb, ?_, fun q hq => ?_⟩).symm
    · have : P.2.2.2[b] = u := Option.some.inj ((List.getElem?_eq_getElem hb).symm.trans hu)
      rw [this]
      simp only [Bool.and_eq_true, beq_iff_eq]
      exact ⟨uj, hpl⟩
    · have hq2 : P.2.2.2[q]? = some P.2.2.2[q] := List.getElem?_eq_getElem (by omega)
      simp only [Bool.and_eq_true, beq_iff_eq]
      intro hh
      have := (hmax q _ (by omega) hq2 hh.1).2 hq
      omega
theorem M_lastOf (h : Lv σ v P) {j : Nat} (hj : j < 2 ^ 31) : Cl xs L mX11_lastOf [.ref 110, .int (nI v), .int (nI j)] GS σ GS (pI σ (o9 (las P.2.2.2 j))) := by
  show Ev xs L mX11_lastOf 0 [.ref 110, .int (nI v), .int (nI j), .null, .null, .null] [] GS σ GS _
  have h48 := h.2.1.len
  have key : ∀ k i o (w : Value), i + k = P.2.2.2.length → lBs P.2.2.2 j i o → Ev xs L mX11_lastOf 6 [.ref 110, .int (nI v), .int (nI j), .int (o9 o), .int (nI i), w] [] GS σ GS (pI σ (o9 (las P.2.2.2 j))) := by
    intro k
    induction k with
    | zero =>
      intro i o w hi ho
      have e : i = P.2.2.2.length := by omega
      subst e
      refine xe_iload dX11_lastOf_6 rfl ?_
      refine xe_aload_n dX11_lastOf_8 rfl ?_
      refine xe_iload_n dX11_lastOf_9 rfl ?_
      refine e_callVp (G := GS) (r := 110) (M_many h) dX11_lastOf_10 kvX11_121 gk_110 rfl ?_
      refine xe_icmp_ge 70 dX11_lastOf_13 (by decide) (fun _ => ?_) (fun c => absurd (nI_le (Nat.le_refl _) (by omega)) c)
      refine xe_iload_n dX11_lastOf_70 rfl ?_
      exact e_iret dX11_lastOf_71 rfl (by rw [lBs_las h.2.1 ho])
    | succ k ih =>
      intro i o w hi ho
      have hl : i < P.2.2.2.length := by omega
      have hs : P.2.2.2[i]? = some P.2.2.2[i] := List.getElem?_eq_getElem hl
      generalize P.2.2.2[i] = s at hs
      obtain ⟨o1, o2, o3, o4⟩ := h.so hs
      have stay : (s.1 = j → ∃ b u, o = some b ∧ P.2.2.2[b]? = some u ∧ s.2.2.2 ≤ u.2.2.2) → Ev xs L mX11_lastOf 62 [.ref 110, .int (nI v), .int (nI j), .int (o9 o), .int (nI i), .int (nI (enc s))] [] GS σ GS (pI σ (o9 (las P.2.2.2 j))) := by
        intro hk
        refine xe_iload_n dX11_lastOf_62 rfl ?_
        refine xe_istore_n dX11_lastOf_63 (by decide) ?_
        refine xn_inc dX11_lastOf_64 rfl (by decide) ?_
        refine xe_goto 6 dX11_lastOf_67 (by decide) ?_
        refine ih (i + 1) o _ (by omega) ?_
        match o, ho, hk with
        | none, ho, hk =>
          intro q u hq hu
          by_cases e : q = i
          · subst e
            rw [hs] at hu
            cases hu
            intro e2
            obtain ⟨b, u, hb, -⟩ := hk e2
            cases hb
          · exact ho q u (by omega) hu
        | some b, ho, hk =>
          obtain ⟨hb, u, hu, uj, hmax⟩ := ho
          refine ⟨by omega, u, hu, uj, fun q x hq hx xj => ?_⟩
          by_cases e : q = i
          · subst e
            rw [hs] at hx
            cases hx
            obtain ⟨b', u', hb', hu', hle⟩ := hk xj
            cases hb'
            rw [hu] at hu'
            cases hu'
            exact ⟨hle, fun q => by omega⟩
          · exact hmax q x (by omega) hx xj
      have take : s.1 = j → (∀ b u, o = some b → P.2.2.2[b]? = some u → u.2.2.2 < s.2.2.2) → Ev xs L mX11_lastOf 57 [.ref 110, .int (nI v), .int (nI j), .int (o9 o), .int (nI i), .int (nI (enc s))] [] GS σ GS (pI σ (o9 (las P.2.2.2 j))) := by
        intro sj hk
        refine xe_iload dX11_lastOf_57 rfl ?_
        refine xe_goto 63 dX11_lastOf_59 (by decide) ?_
        refine xe_istore_n dX11_lastOf_63 (by decide) ?_
        refine xn_inc dX11_lastOf_64 rfl (by decide) ?_
        refine xe_goto 6 dX11_lastOf_67 (by decide) ?_
        refine ih (i + 1) (some i) _ (by omega) ⟨by omega, s, hs, sj, fun q x hq hx xj => ?_⟩
        by_cases e : q = i
        · subst e
          rw [hs] at hx
          cases hx
          exact ⟨Nat.le_refl _, fun q => by omega⟩
        · match o, ho, hk with
          | none, ho, hk => exact absurd xj (ho q x (by omega) hx)
          | some b, ho, hk =>
            obtain ⟨hb, u, hu, uj, hmax⟩ := ho
            have h1 := hk b u rfl hu
            have h2 := (hmax q x (by omega) hx xj).1
            exact ⟨by omega, fun _ => by omega⟩
      refine xe_iload dX11_lastOf_6 rfl ?_
      refine xe_aload_n dX11_lastOf_8 rfl ?_
      refine xe_iload_n dX11_lastOf_9 rfl ?_
      refine e_callVp (G := GS) (r := 110) (M_many h) dX11_lastOf_10 kvX11_121 gk_110 rfl ?_
      refine xe_icmp_ge 70 dX11_lastOf_13 (by decide) (fun c => absurd c (nI_ge hl (by omega))) (fun _ => ?_)
      refine xe_aload_n dX11_lastOf_16 rfl ?_
      refine xe_iload_n dX11_lastOf_17 rfl ?_
      refine xe_iload dX11_lastOf_18 rfl ?_
      refine e_callVp (G := GS) (r := 110) (M_laid h hs) dX11_lastOf_20 kvX11_124 gk_110 rfl ?_
      refine xe_istore dX11_lastOf_23 (by decide) ?_
      refine xe_iload dX11_lastOf_25 rfl ?_
      refine e_callSp (M_threadOf (h.so hs)) dX11_lastOf_27 ksX11_127 rfl ?_
      refine xe_iload_n dX11_lastOf_30 rfl ?_
      refine xn_icmp_ne 62 dX11_lastOf_31 (by decide) (by omega) (by omega) (fun c => ?_) (fun c => ?_)
      · exact stay (fun q => absurd q c)
      refine xe_iload_n dX11_lastOf_34 rfl ?_
      refine xe_bipush (v := -9) dX11_lastOf_35 (by decide) ?_
      match o, ho, stay, take with
      | none, ho, stay, take =>
        refine xe_icmp_eq 57 dX11_lastOf_37 (by decide) (fun _ => ?_) (fun c => absurd rfl c)
        exact take c (fun b u hb => by cases hb)
      | some b, ho, stay, take =>
        obtain ⟨hb, u, hu, uj, hmax⟩ := id ho
        obtain ⟨p1, p2, p3, p4⟩ := h.so hu
        refine xe_icmp_eq 57 dX11_lastOf_37 (by decide) (fun c => absurd c (show ¬ nI b = -9 from nI_m9 (by omega))) (fun _ => ?_)
        refine xe_iload dX11_lastOf_40 rfl ?_
        refine e_callSp (M_whichOf (h.so hs)) dX11_lastOf_42 ksX11_153 rfl ?_
        refine xe_aload_n dX11_lastOf_45 rfl ?_
        refine xe_iload_n dX11_lastOf_46 rfl ?_
        refine xe_iload_n dX11_lastOf_47 rfl ?_
        refine e_callVp (G := GS) (r := 110) (M_laid h hu) dX11_lastOf_48 kvX11_124 gk_110 rfl ?_
        refine e_callSp (M_whichOf (h.so hu)) dX11_lastOf_51 ksX11_153 rfl ?_
        refine xn_icmp_le 62 dX11_lastOf_54 (by decide) (by omega) (by omega) (fun d => ?_) (fun d => ?_)
        · exact stay (fun _ => ⟨b, u, rfl, hu, d⟩)
        · exact take c (fun b' u' hb' hu' => by
            cases hb'
            rw [hu] at hu'
            cases hu'
            exact d)
  refine xe_bipush (v := -9) dX11_lastOf_0 (by decide) ?_
  refine xe_istore_n dX11_lastOf_2 (by decide) ?_
  refine xe_iconst (v := nI 0) dX11_lastOf_3 (by decide) ?_
  refine xe_istore dX11_lastOf_4 (by decide) ?_
  exact key P.2.2.2.length 0 none .null (by omega) (fun q s hq => absurd hq (Nat.not_lt_zero _))
theorem M_overOf (h : Lv σ v P) {i : Nat} {s : xSt} (hs : P.2.2.2[i]? = some s) : Cl xs L mX11_overOf [.ref 110, .int (nI v), .int (nI i)] GS σ GS (pI σ (nI (crA s.2.1 s.2.2.1 (P.2.2.2.drop (i + 1))))) := by
  show Ev xs L mX11_overOf 0 [.ref 110, .int (nI v), .int (nI i), .null, .null] [] GS σ GS _
  have h48 := h.2.1.len
  have hil := Ls.lt hs
  rw [← countP_sym (h.so hs) (fun u hu => (h.2.1.2.2.1 u (List.mem_of_mem_drop hu)).2)]
  have key := goZ P.2.2.2 (fun a u => if crS s u then a + 1 else a) (fun k a => Ev xs L mX11_overOf 7 [.ref 110, .int (nI v), .int (nI i), .int (nI a), .int (nI k)] [] GS σ GS (pI σ (nI ((P.2.2.2.drop (i + 1)).countP (crS s))))) ((P.2.2.2.drop (i + 1)).countP (crS s)) (by
      refine xe_iload dX11_overOf_7 rfl ?_
      refine xe_aload_n dX11_overOf_9 rfl ?_
      refine xe_iload_n dX11_overOf_10 rfl ?_
      refine e_callVp (G := GS) (r := 110) (M_many h) dX11_overOf_11 kvX11_121 gk_110 rfl ?_
      refine xe_icmp_ge 50 dX11_overOf_14 (by decide) (fun _ => ?_) (fun c => absurd (nI_le (Nat.le_refl _) (by omega)) c)
      refine xe_iload_n dX11_overOf_50 rfl ?_
      exact e_iret dX11_overOf_51 rfl rfl) (by
      intro k u a hu kk
      have hl := Ls.lt hu
      refine xe_iload dX11_overOf_7 rfl ?_
      refine xe_aload_n dX11_overOf_9 rfl ?_
      refine xe_iload_n dX11_overOf_10 rfl ?_
      refine e_callVp (G := GS) (r := 110) (M_many h) dX11_overOf_11 kvX11_121 gk_110 rfl ?_
      refine xe_icmp_ge 50 dX11_overOf_14 (by decide) (fun c => absurd c (nI_ge hl (by omega))) (fun _ => ?_)
      refine xe_iload_n dX11_overOf_17 rfl ?_
      refine xe_aload_n dX11_overOf_18 rfl ?_
      refine xe_iload_n dX11_overOf_19 rfl ?_
      refine xe_iload_n dX11_overOf_20 rfl ?_
      refine e_callVp (G := GS) (r := 110) (M_laid h hs) dX11_overOf_21 kvX11_124 gk_110 rfl ?_
      refine xe_aload_n dX11_overOf_24 rfl ?_
      refine xe_iload_n dX11_overOf_25 rfl ?_
      refine xe_iload dX11_overOf_26 rfl ?_
      refine e_callVp (G := GS) (r := 110) (M_laid h hu) dX11_overOf_28 kvX11_124 gk_110 rfl ?_
      refine e_callSp (M_crossOnes (h.so hs) (h.so hu)) dX11_overOf_31 ksX11_156 rfl ?_
      refine xz_if_eq 41 dX11_overOf_34 (by decide) (fun c => ?_) (fun c => ?_)
      · rw [c] at kk
        refine xe_iconst (v := nI 0) dX11_overOf_41 (by decide) ?_
        first | refine xn_iadd dX11_overOf_42 ?_ | refine xe_iadd dX11_overOf_42 ?_
        refine xe_istore_n dX11_overOf_43 (by decide) ?_
        refine xn_inc dX11_overOf_44 rfl (by decide) ?_
        refine xe_goto 7 dX11_overOf_47 (by decide) ?_
        exact kk
      · rw [c] at kk
        refine xe_iconst (v := nI 1) dX11_overOf_37 (by decide) ?_
        refine xe_goto 42 dX11_overOf_38 (by decide) ?_
        first | refine xn_iadd dX11_overOf_42 ?_ | refine xe_iadd dX11_overOf_42 ?_
        refine xe_istore_n dX11_overOf_43 (by decide) ?_
        refine xn_inc dX11_overOf_44 rfl (by decide) ?_
        refine xe_goto 7 dX11_overOf_47 (by decide) ?_
        exact kk) (P.2.2.2.length - (i + 1)) (i + 1) 0 (by omega) (by rw [fold_cnt, Nat.zero_add])
  refine xe_iconst (v := nI 0) dX11_overOf_0 (by decide) ?_
  refine xe_istore_n dX11_overOf_1 (by decide) ?_
  refine xe_iload_n dX11_overOf_2 rfl ?_
  refine xe_iconst (v := nI 1) dX11_overOf_3 (by decide) ?_
  first | refine xn_iadd dX11_overOf_4 ?_ | refine xe_iadd dX11_overOf_4 ?_
  refine xe_istore dX11_overOf_5 (by decide) ?_
  exact key
theorem M_canUnwind (h : Lv σ v P) (hT : σ.1 110 0 = nI P.1) {j : Nat} (hj : j < 2 ^ 31) : Cl xs L mX11_canUnwind [.ref 110, .int (nI v), .int (nI j)] GS σ GS (pI σ (bI (mayU P.2.2.2 j))) := by
  show Ev xs L mX11_canUnwind 0 [.ref 110, .int (nI v), .int (nI j)] [] GS σ GS _
  have h4 := h.2.1.1
  have h48 := h.2.1.len
  have no : ∀ lv : List Value, mayU P.2.2.2 j = false → Ev xs L mX11_canUnwind 37 lv [] GS σ GS (pI σ (bI (mayU P.2.2.2 j))) := by
    intro lv e
    rw [e]
    refine xe_iconst (v := nI 0) dX11_canUnwind_37 (by decide) ?_
    exact e_zret dX11_canUnwind_38 rfl rfl
  refine xe_aload_n dX11_canUnwind_0 rfl ?_
  refine xe_iload_n dX11_canUnwind_1 rfl ?_
  refine e_callVp (G := GS) (r := 110) (M_isThread (by omega) hT) dX11_canUnwind_2 kvX11_159 gk_110 rfl ?_
  rw [hasT_n (by omega) hj]
  refine xz_if_eq 37 dX11_canUnwind_5 (by decide) (fun c => ?_) (fun c => ?_)
  · have hjT : ¬ j < P.1 := by simpa using c
    refine no _ ?_
    cases hm : mayU P.2.2.2 j with
    | false => rfl
    | true =>
      obtain ⟨i, s, hl, hs⟩ := mayU_some hm
      obtain ⟨s', hs', e1, -⟩ := las_some hl
      have := (h.2.1.2.2.1 s' (List.mem_of_getElem? hs')).1
      omega
  refine xe_aload_n dX11_canUnwind_8 rfl ?_
  refine xe_iload_n dX11_canUnwind_9 rfl ?_
  refine xe_iload_n dX11_canUnwind_10 rfl ?_
  refine e_callVp (G := GS) (r := 110) (M_lastOf h hj) dX11_canUnwind_11 kvX11_162 gk_110 rfl ?_
  cases hl : las P.2.2.2 j with
  | none =>
    refine xe_bipush (v := -9) dX11_canUnwind_14 (by decide) ?_
    refine xe_icmp_eq 37 dX11_canUnwind_16 (by decide) (fun _ => ?_) (fun c => absurd rfl c)
    exact no _ (by unfold mayU; rw [hl])
  | some i =>
    obtain ⟨s, hs, -⟩ := las_some hl
    have hil := Ls.lt hs
    have e : mayU P.2.2.2 j = decide (crA s.2.1 s.2.2.1 (P.2.2.2.drop (i + 1)) = 0) := by unfold mayU; rw [hl]; dsimp only; rw [hs]
    refine xe_bipush (v := -9) dX11_canUnwind_14 (by decide) ?_
    refine xe_icmp_eq 37 dX11_canUnwind_16 (by decide) (fun c => absurd c (show ¬ nI i = -9 from nI_m9 (by omega))) (fun _ => ?_)
    refine xe_aload_n dX11_canUnwind_19 rfl ?_
    refine xe_iload_n dX11_canUnwind_20 rfl ?_
    refine xe_aload_n dX11_canUnwind_21 rfl ?_
    refine xe_iload_n dX11_canUnwind_22 rfl ?_
    refine xe_iload_n dX11_canUnwind_23 rfl ?_
    refine e_callVp (G := GS) (r := 110) (M_lastOf h hj) dX11_canUnwind_24 kvX11_162 gk_110 rfl ?_
    rw [hl]
    show Ev xs L mX11_canUnwind 27 _ [.int (nI i), .int (nI v), .ref 110] GS σ GS _
    refine e_callVp (G := GS) (r := 110) (M_overOf h hs) dX11_canUnwind_27 kvX11_165 gk_110 rfl ?_
    have hcl := crc_le (fun _ => true) s.2.1 s.2.2.1 (P.2.2.2.drop (i + 1))
    rw [List.length_drop] at hcl
    refine xn_if_ne 37 dX11_canUnwind_30 (by decide) (by show crc _ _ _ _ < _; omega) (fun c => ?_) (fun c => ?_)
    · exact no _ (by rw [e, decide_eq_false (by omega)])
    · refine xe_iconst (v := nI 1) dX11_canUnwind_33 (by decide) ?_
      refine xe_goto 38 dX11_canUnwind_34 (by decide) ?_
      exact e_zret dX11_canUnwind_38 rfl (by rw [e, decide_eq_true c]; rfl)
theorem M_takeOff {z : List xSt} (h : LI σ v z) {i : Nat} (hi : i < z.length) : Cl xs L mX11_takeOff [.ref 110, .int (nI v), .int (nI i)] GS σ GS (fun w t => w = none ∧ LI t v (z.eraseIdx i) ∧ FN σ t v) := by
  show Ev xs L mX11_takeOff 0 [.ref 110, .int (nI v), .int (nI i), .null, .null] [] GS σ GS _
  obtain ⟨hv, h48, h1, h2, h3⟩ := id h
  have key : ∀ k q (t : xS), q + k = z.length - 1 → i ≤ q → t.1 112 (53 * v + 4) = nI (z.length - 1) → (∀ p, p < 48 → t.1 112 (53 * v + 5 + p) = if i ≤ p ∧ p < q then σ.1 112 (53 * v + 5 + p + 1) else σ.1 112 (53 * v + 5 + p)) → FN σ t v → Ev xs L mX11_takeOff 20 [.ref 110, .int (nI v), .int (nI i), .int (nI (53 * v)), .int (nI q)] [] GS t GS (fun w t => w = none ∧ LI t v (z.eraseIdx i) ∧ FN σ t v) := by
    intro k
    induction k with
    | zero =>
      intro q t hq hiq t4 ht hf
      refine xe_iload dX11_takeOff_20 rfl ?_
      refine xe_aload_n dX11_takeOff_22 rfl ?_
      refine e_getA (G := GS) (r := 110) dX11_takeOff_23 fdX11_13 rfl gk_110 gr_110_2 ?_
      refine xe_iload_n dX11_takeOff_26 rfl ?_
      refine xe_iconst (v := nI 4) dX11_takeOff_27 (by decide) ?_
      first | refine xn_iadd dX11_takeOff_28 ?_ | refine xe_iadd dX11_takeOff_28 ?_
      refine e_iald (G := GS) (a := 112) dX11_takeOff_29 gk_112 gn_112 (by omega) (by decide) t4 ?_
      refine xe_icmp_ge 63 dX11_takeOff_30 (by decide) (fun _ => ?_) (fun c => absurd (nI_le (by omega) (by omega)) c)
      refine xe_vret dX11_takeOff_63 rfl ⟨rfl, ⟨hv, by rw [List.length_eraseIdx_of_lt hi]; omega, by rw [List.length_eraseIdx_of_lt hi]; exact t4, fun p s hs => ?_, fun s hs => h3 s (List.mem_of_mem_eraseIdx hs)⟩, hf⟩
      have hpl := Ls.lt hs
      rw [List.length_eraseIdx_of_lt hi] at hpl
      rw [List.getElem?_eraseIdx] at hs
      rw [ht p (by omega)]
      by_cases e : p < i
      · rw [if_pos e] at hs
        rw [if_neg (by omega)]
        exact h2 p s hs
      · rw [if_neg e] at hs
        rw [if_pos (by omega)]
        exact h2 (p + 1) s hs
    | succ k ih =>
      intro q t hq hiq t4 ht hf
      refine xe_iload dX11_takeOff_20 rfl ?_
      refine xe_aload_n dX11_takeOff_22 rfl ?_
      refine e_getA (G := GS) (r := 110) dX11_takeOff_23 fdX11_13 rfl gk_110 gr_110_2 ?_
      refine xe_iload_n dX11_takeOff_26 rfl ?_
      refine xe_iconst (v := nI 4) dX11_takeOff_27 (by decide) ?_
      first | refine xn_iadd dX11_takeOff_28 ?_ | refine xe_iadd dX11_takeOff_28 ?_
      refine e_iald (G := GS) (a := 112) dX11_takeOff_29 gk_112 gn_112 (by omega) (by decide) t4 ?_
      refine xe_icmp_ge 63 dX11_takeOff_30 (by decide) (fun c => absurd c (nI_ge (by omega) (by omega))) (fun _ => ?_)
      refine xe_aload_n dX11_takeOff_33 rfl ?_
      refine e_getA (G := GS) (r := 110) dX11_takeOff_34 fdX11_13 rfl gk_110 gr_110_2 ?_
      refine xe_iload_n dX11_takeOff_37 rfl ?_
      refine xe_iconst (v := nI 5) dX11_takeOff_38 (by decide) ?_
      first | refine xn_iadd dX11_takeOff_39 ?_ | refine xe_iadd dX11_takeOff_39 ?_
      refine xe_iload dX11_takeOff_40 rfl ?_
      first | refine xn_iadd dX11_takeOff_42 ?_ | refine xe_iadd dX11_takeOff_42 ?_
      refine xe_aload_n dX11_takeOff_43 rfl ?_
      refine e_getA (G := GS) (r := 110) dX11_takeOff_44 fdX11_13 rfl gk_110 gr_110_2 ?_
      refine xe_iload_n dX11_takeOff_47 rfl ?_
      refine xe_iconst (v := nI 5) dX11_takeOff_48 (by decide) ?_
      first | refine xn_iadd dX11_takeOff_49 ?_ | refine xe_iadd dX11_takeOff_49 ?_
      refine xe_iload dX11_takeOff_50 rfl ?_
      first | refine xn_iadd dX11_takeOff_52 ?_ | refine xe_iadd dX11_takeOff_52 ?_
      refine xe_iconst (v := nI 1) dX11_takeOff_53 (by decide) ?_
      first | refine xn_iadd dX11_takeOff_54 ?_ | refine xe_iadd dX11_takeOff_54 ?_
      refine e_iald (G := GS) (a := 112) dX11_takeOff_55 gk_112 gn_112 (by omega) (by decide) (show _ = σ.1 112 (53 * v + 5 + q + 1) by rw [show 53 * v + 5 + q + 1 = 53 * v + 5 + (q + 1) by omega, ht (q + 1) (by omega), if_neg (by omega)]) ?_
      refine e_iast (G := GS) (a := 112) dX11_takeOff_56 gk_112 gn_112 (by omega) (by decide) ?_
      refine xn_inc dX11_takeOff_57 rfl (by decide) ?_
      refine xe_goto 20 dX11_takeOff_60 (by decide) ?_
      refine ih (q + 1) _ (by omega) (by omega) (by rw [xpi_rd, if_neg (by omega)]; exact t4) (fun p hp => ?_) (hf.pi _ (by omega) (by omega))
      by_cases e : p = q
      · subst e
        rw [xpi_rd, if_pos (by omega), if_pos (by omega)]
      · rw [xpi_rd, if_neg (by omega), ht p hp]
        by_cases e2 : i ≤ p ∧ p < q
        · rw [if_pos e2, if_pos (by omega)]
        · rw [if_neg e2, if_neg (by omega)]
  refine xe_bipush (v := nI 53) dX11_takeOff_0 (by decide) ?_
  refine xe_iload_n dX11_takeOff_2 rfl ?_
  first | refine xn_imul dX11_takeOff_3 ?_ | refine xe_imul dX11_takeOff_3 ?_
  refine xe_istore_n dX11_takeOff_4 (by decide) ?_
  refine xe_aload_n dX11_takeOff_5 rfl ?_
  refine e_getA (G := GS) (r := 110) dX11_takeOff_6 fdX11_13 rfl gk_110 gr_110_2 ?_
  refine xe_iload_n dX11_takeOff_9 rfl ?_
  refine xe_iconst (v := nI 4) dX11_takeOff_10 (by decide) ?_
  first | refine xn_iadd dX11_takeOff_11 ?_ | refine xe_iadd dX11_takeOff_11 ?_
  refine xe_dup2 dX11_takeOff_12 rfl rfl ?_
  refine e_iald (G := GS) (a := 112) dX11_takeOff_13 gk_112 gn_112 (by omega) (by decide) h1 ?_
  refine xe_iconst (v := nI 1) dX11_takeOff_14 (by decide) ?_
  refine xn_isub dX11_takeOff_15 (by omega) ?_
  refine e_iast (G := GS) (a := 112) dX11_takeOff_16 gk_112 gn_112 (by omega) (by decide) ?_
  refine xe_iload_n dX11_takeOff_17 rfl ?_
  refine xe_istore dX11_takeOff_18 (by decide) ?_
  exact key (z.length - 1 - i) i _ (by omega) (Nat.le_refl _) (by rw [xpi_rd, if_pos (by omega)]) (fun p hp => by rw [xpi_rd, if_neg (by omega), if_neg (by omega)]) ((FN.rf σ v).pi _ (by omega) (by omega))
theorem M_unwindOn (h : Lv σ v P) {j i : Nat} {s : xSt} (hl : las P.2.2.2 j = some i) (hs : P.2.2.2[i]? = some s) : Cl xs L mX11_unwindOn [.ref 110, .int (nI v), .int (nI j)] GS σ GS (fun w t => w = none ∧ Lv t v (uwd P j i s) ∧ FL σ t v) := by
  show Ev xs L mX11_unwindOn 0 [.ref 110, .int (nI v), .int (nI j), .null] [] GS σ GS _
  obtain ⟨hv, hp, i1, i2, i3⟩ := id h
  obtain ⟨hok, hcn, hcr, e1, m1⟩ := uwd_ok hp hl hs
  have h4 := hp.1
  have h48 := hp.len
  have hil := Ls.lt hs
  refine xe_aload_n dX11_unwindOn_0 rfl ?_
  refine xe_iload_n dX11_unwindOn_1 rfl ?_
  refine xe_iload_n dX11_unwindOn_2 rfl ?_
  refine e_callVp (G := GS) (r := 110) (M_lastOf h (by omega)) dX11_unwindOn_3 kvX11_162 gk_110 rfl ?_
  rw [hl]
  show Ev xs L mX11_unwindOn 6 _ [.int (nI i)] GS σ GS _
  refine xe_istore_n dX11_unwindOn_6 (by decide) ?_
  refine xe_aload_n dX11_unwindOn_7 rfl ?_
  refine e_getA (G := GS) (r := 110) dX11_unwindOn_8 fdX11_13 rfl gk_110 gr_110_2 ?_
  refine xe_bipush (v := nI 53) dX11_unwindOn_11 (by decide) ?_
  refine xe_iload_n dX11_unwindOn_13 rfl ?_
  first | refine xn_imul dX11_unwindOn_14 ?_ | refine xe_imul dX11_unwindOn_14 ?_
  refine xe_iload_n dX11_unwindOn_15 rfl ?_
  first | refine xn_iadd dX11_unwindOn_16 ?_ | refine xe_iadd dX11_unwindOn_16 ?_
  refine xe_aload_n dX11_unwindOn_17 rfl ?_
  refine xe_iload_n dX11_unwindOn_18 rfl ?_
  refine xe_iload_n dX11_unwindOn_19 rfl ?_
  refine e_callVp (G := GS) (r := 110) (M_laid h hs) dX11_unwindOn_20 kvX11_124 gk_110 rfl ?_
  refine e_callSp (M_fromOf (h.so hs)) dX11_unwindOn_23 ksX11_61 rfl ?_
  refine e_iast (G := GS) (a := 112) dX11_unwindOn_26 gk_112 gn_112 (by omega) (by decide) ?_
  refine xe_aload_n dX11_unwindOn_27 rfl ?_
  refine xe_iload_n dX11_unwindOn_28 rfl ?_
  refine xe_iload_n dX11_unwindOn_29 rfl ?_
  have hli : LI (xpi σ 112 (53 * v + j) (nI s.2.1)) v P.2.2.2 := by
    obtain ⟨a1, a2, a3, a4, a5⟩ := h.li
    refine ⟨a1, a2, by rw [xpi_rd, if_neg (by omega)]; exact a3, fun p u hu => ?_, a5⟩
    rw [xpi_rd, if_neg (by omega)]
    exact a4 p u hu
  refine e_callV (G := GS) (r := 110) (M_takeOff hli hil) dX11_unwindOn_30 kvX11_168 gk_110 rfl ?_
  rintro w t ⟨rfl, ⟨a1, a2, a3, a4, a5⟩, ft⟩
  refine xe_vret dX11_unwindOn_33 rfl ⟨rfl, ⟨hv, hok, fun u hu => ?_, a3, a4⟩, ((FL.rf σ v).pi _ (by omega) (by omega)).tr (FL.of ft)⟩
  have hu : u < P.1 := hu
  show _ = nI (if u = j then s.2.1 else P.2.2.1 u)
  rw [ft.2.1 _ (by omega)]
  by_cases e : u = j
  · rw [xpi_rd, if_pos (by omega), if_pos e]
  · rw [xpi_rd, if_neg (by omega), if_neg e]
    exact i1 u hu
theorem M_cutOn (h : Lv σ v P) {j : Nat} (hj : j < 2 ^ 31) : Cl xs L mX11_cutOn [.ref 110, .int (nI v), .int (nI j)] GS σ GS (fun w t => w = some (.int (nI (cnt P.2.2.2 j))) ∧ Lv t v (cutP P j) ∧ FL σ t v) := by
  show Ev xs L mX11_cutOn 0 [.ref 110, .int (nI v), .int (nI j), .null, .null] [] GS σ GS _
  obtain ⟨hv, hp, i1, i2, i3⟩ := id h
  have h4 := hp.1
  have h48 := hp.len
  have key : ∀ i n (t : xS), i ≤ P.2.2.2.length → n = cnt (P.2.2.2.drop i) j → LI t v (P.2.2.2.take i ++ (P.2.2.2.drop i).filter (fun s => s.1 != j)) → FN σ t v → Ev xs L mX11_cutOn 11 [.ref 110, .int (nI v), .int (nI j), .int (nI n), .int (dn i)] [] GS t GS (fun w t => w = some (.int (nI (cnt P.2.2.2 j))) ∧ Lv t v (cutP P j) ∧ FL σ t v) := by
    intro i
    induction i with
    | zero =>
      intro n t hi hn hli hf
      refine xe_iload dX11_cutOn_11 rfl ?_
      refine xe_if_lt 46 dX11_cutOn_13 (by decide) (fun _ => ?_) (fun c => absurd (show (-1 : Int32) < 0 by decide) c)
      refine xe_iload_n dX11_cutOn_46 rfl ?_
      rw [List.take_zero, List.drop_zero, List.nil_append] at hli
      rw [List.drop_zero] at hn
      refine xe_iret dX11_cutOn_47 rfl ⟨by rw [hn], ⟨hv, cut_ok hp, fun u hu => ?_, hli.2.2.1, hli.2.2.2.1⟩, FL.of hf⟩
      have hu : u < P.1 := hu
      rw [hf.2.1 _ (by omega)]
      exact i1 u hu
    | succ i ih =>
      intro n t hi hn hli hf
      have hil : i < P.2.2.2.length := by omega
      have hs0 : P.2.2.2[i]? = some P.2.2.2[i] := List.getElem?_eq_getElem hil
      have hd : P.2.2.2.drop i = P.2.2.2[i] :: P.2.2.2.drop (i + 1) := List.drop_eq_getElem_cons hil
      have htk : P.2.2.2.take (i + 1) = P.2.2.2.take i ++ [P.2.2.2[i]] := List.take_succ_eq_append_getElem hil
      have hlt : (P.2.2.2.take i).length = i := by rw [List.length_take]; omega
      generalize P.2.2.2[i] = s at hs0 hd htk
      rw [htk, List.append_assoc] at hli
      have hs : (P.2.2.2.take i ++ ([s] ++ (P.2.2.2.drop (i + 1)).filter (fun s => s.1 != j)))[i]? = some s := by
        rw [List.getElem?_append_right (by omega), hlt, Nat.sub_self]
        rfl
      have hcd : cnt (P.2.2.2.drop i) j = cnt (P.2.2.2.drop (i + 1)) j + if s.1 = j then 1 else 0 := by
        rw [hd]
        unfold cnt
        rw [List.countP_cons]
        simp only [beq_iff_eq]
      refine xe_iload dX11_cutOn_11 rfl ?_
      show Ev xs L mX11_cutOn 13 [.ref 110, .int (nI v), .int (nI j), .int (nI n), .int (nI i)] [.int (nI i)] GS t GS _
      refine xn_if_lt 46 dX11_cutOn_13 (by decide) (by omega) ?_
      refine xe_aload_n dX11_cutOn_16 rfl ?_
      refine xe_iload_n dX11_cutOn_17 rfl ?_
      refine xe_iload dX11_cutOn_18 rfl ?_
      refine e_callVp (G := GS) (r := 110) (M_laidI hli hs) dX11_cutOn_20 kvX11_124 gk_110 rfl ?_
      refine e_callSp (M_threadOf (hli.so hs)) dX11_cutOn_23 ksX11_127 rfl ?_
      obtain ⟨o1, o2, o3, o4⟩ := hli.so hs
      refine xe_iload_n dX11_cutOn_26 rfl ?_
      refine xn_icmp_ne 40 dX11_cutOn_27 (by decide) (by omega) (by omega) (fun c => ?_) (fun c => ?_)
      · rw [if_neg c] at hcd
        refine xe_iinc dX11_cutOn_40 rfl rfl (by decide) ?_
        rw [dn_dec]
        refine xe_goto 11 dX11_cutOn_43 (by decide) ?_
        refine ih n t (by omega) (by omega) ?_ hf
        rw [hd, List.filter_cons_of_pos (by simp [c])]
        exact hli
      · rw [if_pos c] at hcd
        refine xe_aload_n dX11_cutOn_30 rfl ?_
        refine xe_iload_n dX11_cutOn_31 rfl ?_
        refine xe_iload dX11_cutOn_32 rfl ?_
        have hlen : i < (P.2.2.2.take i ++ ([s] ++ (P.2.2.2.drop (i + 1)).filter (fun s => s.1 != j))).length := Ls.lt hs
        refine e_callV (G := GS) (r := 110) (M_takeOff hli hlen) dX11_cutOn_34 kvX11_168 gk_110 rfl ?_
        rintro w u ⟨rfl, hu, fu⟩
        refine xn_inc dX11_cutOn_37 rfl (by decide) ?_
        refine xe_iinc dX11_cutOn_40 rfl rfl (by decide) ?_
        rw [dn_dec]
        refine xe_goto 11 dX11_cutOn_43 (by decide) ?_
        refine ih (n + 1) u (by omega) (by omega) ?_ (hf.tr fu)
        rw [hd, List.filter_cons_of_neg (by simp [c])]
        have e := List.eraseIdx_append_of_length_le (l := P.2.2.2.take i) (k := i) (by omega) ([s] ++ (P.2.2.2.drop (i + 1)).filter (fun s => s.1 != j))
        rw [hlt, Nat.sub_self] at e
        rw [e] at hu
        exact hu
  refine xe_iconst (v := nI 0) dX11_cutOn_0 (by decide) ?_
  refine xe_istore_n dX11_cutOn_1 (by decide) ?_
  refine xe_aload_n dX11_cutOn_2 rfl ?_
  refine xe_iload_n dX11_cutOn_3 rfl ?_
  refine e_callVp (G := GS) (r := 110) (M_many h) dX11_cutOn_4 kvX11_121 gk_110 rfl ?_
  refine xe_iconst (v := nI 1) dX11_cutOn_7 (by decide) ?_
  refine xe_isub dX11_cutOn_8 ?_
  rw [dn_sub]
  refine xe_istore dX11_cutOn_9 (by decide) ?_
  refine key P.2.2.2.length 0 σ (Nat.le_refl _) (by rw [List.drop_length]; rfl) ?_ (FN.rf σ v)
  rw [List.take_length, List.drop_length, List.filter_nil, List.append_nil]
  exact h.li
theorem M_renamed {b : Bool} {n : Nat} (hn : n < 12) : Cl xs L mX11_renamed [.int (nI n), .int (bI b)] G σ G (pI σ (nI (rnm b n))) := by
  show Ev xs L mX11_renamed 0 [.int (nI n), .int (bI b)] [] G σ G _
  unfold rnm
  refine xe_iload_n dX11_renamed_0 rfl ?_
  refine xz_if_eq 14 dX11_renamed_1 (by decide) (fun c => ?_) (fun c => ?_)
  · rw [c]
    refine xe_iload_n dX11_renamed_14 rfl ?_
    refine xe_iconst (v := nI 1) dX11_renamed_15 (by decide) ?_
    first | refine xn_iadd dX11_renamed_16 ?_ | refine xe_iadd dX11_renamed_16 ?_
    refine xe_bipush (v := nI 12) dX11_renamed_17 (by decide) ?_
    refine xn_irem dX11_renamed_19 (by omega) (by decide) (by decide) ?_
    exact e_iret dX11_renamed_20 rfl rfl
  · rw [c]
    refine xe_bipush (v := nI 12) dX11_renamed_4 (by decide) ?_
    refine xe_iload_n dX11_renamed_6 rfl ?_
    refine xn_isub dX11_renamed_7 (by omega) ?_
    refine xe_bipush (v := nI 12) dX11_renamed_8 (by decide) ?_
    refine xn_irem dX11_renamed_10 (by omega) (by decide) (by decide) ?_
    refine xe_goto 20 dX11_renamed_11 (by decide) ?_
    exact e_iret dX11_renamed_20 rfl rfl
theorem M_renameOn (h : Lv σ v P) (hT : σ.1 110 0 = nI P.1) (b : Bool) : Cl xs L mX11_renameOn [.ref 110, .int (nI v), .int (bI b)] GS σ GS (fun w t => w = none ∧ Lv t v (rnP b P) ∧ FL σ t v) := by
  show Ev xs L mX11_renameOn 0 [.ref 110, .int (nI v), .int (bI b), .null, .null, .null, .null] [] GS σ GS _
  obtain ⟨hv, hp, i1, i2, i3⟩ := id h
  have h4 := hp.1
  have h48 := hp.len
  have hfin : ∀ (t : xS) (lv : List Value), (∀ u, u < P.1 → t.1 112 (53 * v + u) = nI (rnm b (P.2.2.1 u))) → LI t v (if b then (P.2.2.2.map (mpS (rnm b))).reverse else P.2.2.2.map (mpS (rnm b))) → FL σ t v → Ev xs L mX11_renameOn 192 lv [] GS t GS (fun w t => w = none ∧ Lv t v (rnP b P) ∧ FL σ t v) := by
    intro t lv hn hl hf
    refine xe_vret dX11_renameOn_192 rfl ⟨rfl, ⟨hv, ?_, fun u hu => ?_, ?_, fun i s hs => ?_⟩, hf⟩
    · cases b
      · exact trn_ok hp
      · exact ovr_ok hp
    · have hu : u < P.1 := by cases b <;> exact hu
      rw [hn u hu]
      cases b <;> rfl
    · cases b <;> exact hl.2.2.1
    · cases b <;> exact hl.2.2.2.1 i s hs
  -- the third loop
  have key3 : ∀ k q (w : List xSt) (t : xS), b = true → q + k = P.2.2.2.length / 2 → w.length = P.2.2.2.length → (∀ p, p < P.2.2.2.length → w[p]? = if p < q ∨ P.2.2.2.length - q ≤ p then (P.2.2.2.map (mpS (rnm b)))[P.2.2.2.length - 1 - p]? else (P.2.2.2.map (mpS (rnm b)))[p]?) → LI t v w → (∀ u, u < P.1 → t.1 112 (53 * v + u) = nI (rnm b (P.2.2.1 u))) → FL σ t v → ∀ a c : Value, Ev xs L mX11_renameOn 118 [.ref 110, .int (nI v), .int (bI b), .int (nI (53 * v)), .int (nI q), a, c] [] GS t GS (fun w t => w = none ∧ Lv t v (rnP b P) ∧ FL σ t v) := by
    intro k
    induction k with
    | zero =>
      intro q w t hb hq hwl hw hl hn hf a c
      refine xe_iload_n dX11_renameOn_118 rfl ?_
      refine xe_if_eq 192 dX11_renameOn_119 (by decide) (fun c => absurd c (by rw [hb]; decide)) (fun _ => ?_)
      refine xe_iload dX11_renameOn_122 rfl ?_
      refine xe_aload_n dX11_renameOn_124 rfl ?_
      refine xe_iload_n dX11_renameOn_125 rfl ?_
      refine e_callVp (G := GS) (r := 110) (M_manyI hl) dX11_renameOn_126 kvX11_121 gk_110 rfl ?_
      refine xe_iconst (v := nI 2) dX11_renameOn_129 (by decide) ?_
      refine xn_idiv dX11_renameOn_130 (by omega) (by decide) (by decide) ?_
      refine xe_icmp_ge 192 dX11_renameOn_131 (by decide) (fun _ => ?_) (fun c => absurd (nI_le (by omega) (by omega)) c)
      refine hfin t _ hn ?_ hf
      rw [if_pos hb]
      have e : w = (P.2.2.2.map (mpS (rnm b))).reverse := by
        refine List.ext_getElem? (fun p => ?_)
        by_cases hp2 : p < P.2.2.2.length
        · rw [hw p hp2, List.getElem?_reverse (by rw [List.length_map]; exact hp2), List.length_map]
          by_cases e3 : p < q ∨ P.2.2.2.length - q ≤ p
          · rw [if_pos e3]
          · rw [if_neg e3]
            congr 1
            omega
        · rw [List.getElem?_eq_none (by omega), List.getElem?_eq_none (by rw [List.length_reverse, List.length_map]; omega)]
      rw [← e]
      exact hl
    | succ k ih =>
      intro q w t hb hq hwl hw hl hn hf a c
      have a1 : w[q]? = some w[q] := List.getElem?_eq_getElem (by omega)
      have a2 : w[P.2.2.2.length - 1 - q]? = some w[P.2.2.2.length - 1 - q] := List.getElem?_eq_getElem (by omega)
      have b1 := hw q (by omega)
      have b2 := hw (P.2.2.2.length - 1 - q) (by omega)
      rw [if_neg (by omega)] at b1 b2
      generalize w[q] = s1 at a1
      generalize w[P.2.2.2.length - 1 - q] = s2 at a2
      refine xe_iload_n dX11_renameOn_118 rfl ?_
      refine xe_if_eq 192 dX11_renameOn_119 (by decide) (fun c => absurd c (by rw [hb]; decide)) (fun _ => ?_)
      refine xe_iload dX11_renameOn_122 rfl ?_
      refine xe_aload_n dX11_renameOn_124 rfl ?_
      refine xe_iload_n dX11_renameOn_125 rfl ?_
      refine e_callVp (G := GS) (r := 110) (M_manyI hl) dX11_renameOn_126 kvX11_121 gk_110 rfl ?_
      refine xe_iconst (v := nI 2) dX11_renameOn_129 (by decide) ?_
      refine xn_idiv dX11_renameOn_130 (by omega) (by decide) (by decide) ?_
      refine xe_icmp_ge 192 dX11_renameOn_131 (by decide) (fun c => absurd c (nI_ge (by omega) (by omega))) (fun _ => ?_)
      refine xe_aload_n dX11_renameOn_134 rfl ?_
      refine xe_iload_n dX11_renameOn_135 rfl ?_
      refine e_callVp (G := GS) (r := 110) (M_manyI hl) dX11_renameOn_136 kvX11_121 gk_110 rfl ?_
      refine xe_iconst (v := nI 1) dX11_renameOn_139 (by decide) ?_
      refine xn_isub dX11_renameOn_140 (by omega) ?_
      refine xe_iload dX11_renameOn_141 rfl ?_
      refine xn_isub dX11_renameOn_143 (by omega) ?_
      rw [hwl]
      refine xe_istore dX11_renameOn_144 (by decide) ?_
      refine xe_aload_n dX11_renameOn_146 rfl ?_
      refine xe_iload_n dX11_renameOn_147 rfl ?_
      refine xe_iload dX11_renameOn_148 rfl ?_
      refine e_callVp (G := GS) (r := 110) (M_laidI hl a1) dX11_renameOn_150 kvX11_124 gk_110 rfl ?_
      refine xe_istore dX11_renameOn_153 (by decide) ?_
      refine xe_aload_n dX11_renameOn_155 rfl ?_
      refine e_getA (G := GS) (r := 110) dX11_renameOn_156 fdX11_13 rfl gk_110 gr_110_2 ?_
      refine xe_iload_n dX11_renameOn_159 rfl ?_
      refine xe_iconst (v := nI 5) dX11_renameOn_160 (by decide) ?_
      first | refine xn_iadd dX11_renameOn_161 ?_ | refine xe_iadd dX11_renameOn_161 ?_
      refine xe_iload dX11_renameOn_162 rfl ?_
      first | refine xn_iadd dX11_renameOn_164 ?_ | refine xe_iadd dX11_renameOn_164 ?_
      refine xe_aload_n dX11_renameOn_165 rfl ?_
      refine xe_iload_n dX11_renameOn_166 rfl ?_
      refine xe_iload dX11_renameOn_167 rfl ?_
      refine e_callVp (G := GS) (r := 110) (M_laidI hl a2) dX11_renameOn_169 kvX11_124 gk_110 rfl ?_
      refine e_iast (G := GS) (a := 112) dX11_renameOn_172 gk_112 gn_112 (by omega) (by decide) ?_
      refine xe_aload_n dX11_renameOn_173 rfl ?_
      refine e_getA (G := GS) (r := 110) dX11_renameOn_174 fdX11_13 rfl gk_110 gr_110_2 ?_
      refine xe_iload_n dX11_renameOn_177 rfl ?_
      refine xe_iconst (v := nI 5) dX11_renameOn_178 (by decide) ?_
      first | refine xn_iadd dX11_renameOn_179 ?_ | refine xe_iadd dX11_renameOn_179 ?_
      refine xe_iload dX11_renameOn_180 rfl ?_
      first | refine xn_iadd dX11_renameOn_182 ?_ | refine xe_iadd dX11_renameOn_182 ?_
      refine xe_iload dX11_renameOn_183 rfl ?_
      refine e_iast (G := GS) (a := 112) dX11_renameOn_185 gk_112 gn_112 (by omega) (by decide) ?_
      refine xn_inc dX11_renameOn_186 rfl (by decide) ?_
      refine xe_goto 118 dX11_renameOn_189 (by decide) ?_
      refine ih (q + 1) ((w.set q s2).set (P.2.2.2.length - 1 - q) s1) _ hb (by omega) (by rw [List.length_set, List.length_set]; exact hwl) (fun p hp2 => ?_) ((hl.set (by omega) (hl.so a2)).set (by rw [List.length_set]; omega) (hl.so a1)) (fun u hu => ?_) ((hf.pi _ (by omega) (by omega)).pi _ (by omega) (by omega)) _ _
      · by_cases e1 : p = P.2.2.2.length - 1 - q
        · rw [e1, List.getElem?_set_self (by rw [List.length_set]; omega), if_pos (by omega), show P.2.2.2.length - 1 - (P.2.2.2.length - 1 - q) = q by omega, ← b1, a1]
        · rw [List.getElem?_set_ne (Ne.symm e1)]
          by_cases e2 : p = q
          · rw [e2, List.getElem?_set_self (by omega), if_pos (by omega), ← b2, a2]
          · rw [List.getElem?_set_ne (Ne.symm e2), hw p hp2]
            by_cases e3 : p < q ∨ P.2.2.2.length - q ≤ p
            · rw [if_pos e3, if_pos (by omega)]
            · rw [if_neg e3, if_neg (by omega)]
      · rw [xpi_rd, if_neg (by omega), xpi_rd, if_neg (by omega)]
        exact hn u hu
  -- the second loop
  have key2 : ∀ k q (w : List xSt) (t : xS), q + k = P.2.2.2.length → w.length = P.2.2.2.length → (∀ p, p < P.2.2.2.length → w[p]? = if p < q then (P.2.2.2.map (mpS (rnm b)))[p]? else P.2.2.2[p]?) → LI t v w → (∀ u, u < P.1 → t.1 112 (53 * v + u) = nI (rnm b (P.2.2.1 u))) → FL σ t v → ∀ a c : Value, Ev xs L mX11_renameOn 48 [.ref 110, .int (nI v), .int (bI b), .int (nI (53 * v)), .int (nI q), a, c] [] GS t GS (fun w t => w = none ∧ Lv t v (rnP b P) ∧ FL σ t v) := by
    intro k
    induction k with
    | zero =>
      intro q w t hq hwl hw hl hn hf a c
      have e : w = P.2.2.2.map (mpS (rnm b)) := by
        refine List.ext_getElem? (fun p => ?_)
        by_cases hp2 : p < P.2.2.2.length
        · rw [hw p hp2, if_pos (by omega)]
        · rw [List.getElem?_eq_none (by omega), List.getElem?_eq_none (by rw [List.length_map]; omega)]
      refine xe_iload dX11_renameOn_48 rfl ?_
      refine xe_aload_n dX11_renameOn_50 rfl ?_
      refine xe_iload_n dX11_renameOn_51 rfl ?_
      refine e_callVp (G := GS) (r := 110) (M_manyI hl) dX11_renameOn_52 kvX11_121 gk_110 rfl ?_
      refine xe_icmp_ge 115 dX11_renameOn_55 (by decide) (fun _ => ?_) (fun c => absurd (nI_le (by omega) (by omega)) c)
      refine xe_iconst (v := nI 0) dX11_renameOn_115 (by decide) ?_
      refine xe_istore dX11_renameOn_116 (by decide) ?_
      by_cases hb : b = true
      · exact key3 (P.2.2.2.length / 2) 0 w t hb (by omega) hwl (fun p hp2 => by rw [if_neg (by omega), e]) hl hn hf a c
      · have hb : b = false := by simpa using hb
        refine xe_iload_n dX11_renameOn_118 rfl ?_
        refine xe_if_eq 192 dX11_renameOn_119 (by decide) (fun _ => ?_) (fun c => absurd (by rw [hb]; rfl) c)
        refine hfin t _ hn ?_ hf
        rw [if_neg (by rw [hb]; decide)]
        rw [e] at hl
        exact hl
    | succ k ih =>
      intro q w t hq hwl hw hl hn hf a c
      have hql : q < P.2.2.2.length := by omega
      have hs0 : P.2.2.2[q]? = some P.2.2.2[q] := List.getElem?_eq_getElem hql
      have hs : w[q]? = some P.2.2.2[q] := by rw [hw q hql, if_neg (by omega)]; exact hs0
      generalize P.2.2.2[q] = s at hs0 hs
      obtain ⟨o1, o2, o3, o4⟩ := hl.so hs
      refine xe_iload dX11_renameOn_48 rfl ?_
      refine xe_aload_n dX11_renameOn_50 rfl ?_
      refine xe_iload_n dX11_renameOn_51 rfl ?_
      refine e_callVp (G := GS) (r := 110) (M_manyI hl) dX11_renameOn_52 kvX11_121 gk_110 rfl ?_
      refine xe_icmp_ge 115 dX11_renameOn_55 (by decide) (fun c => absurd c (nI_ge (by omega) (by omega))) (fun _ => ?_)
      refine xe_aload_n dX11_renameOn_58 rfl ?_
      refine xe_iload_n dX11_renameOn_59 rfl ?_
      refine xe_iload dX11_renameOn_60 rfl ?_
      refine e_callVp (G := GS) (r := 110) (M_laidI hl hs) dX11_renameOn_62 kvX11_124 gk_110 rfl ?_
      refine xe_istore dX11_renameOn_65 (by decide) ?_
      refine xe_aload_n dX11_renameOn_67 rfl ?_
      refine e_getA (G := GS) (r := 110) dX11_renameOn_68 fdX11_13 rfl gk_110 gr_110_2 ?_
      refine xe_iload_n dX11_renameOn_71 rfl ?_
      refine xe_iconst (v := nI 5) dX11_renameOn_72 (by decide) ?_
      first | refine xn_iadd dX11_renameOn_73 ?_ | refine xe_iadd dX11_renameOn_73 ?_
      refine xe_iload dX11_renameOn_74 rfl ?_
      first | refine xn_iadd dX11_renameOn_76 ?_ | refine xe_iadd dX11_renameOn_76 ?_
      refine xe_iload dX11_renameOn_77 rfl ?_
      refine e_callSp (M_threadOf (hl.so hs)) dX11_renameOn_79 ksX11_127 rfl ?_
      refine xe_iload dX11_renameOn_82 rfl ?_
      refine e_callSp (M_fromOf (hl.so hs)) dX11_renameOn_84 ksX11_61 rfl ?_
      refine xe_iload_n dX11_renameOn_87 rfl ?_
      refine e_callSp (M_renamed o2) dX11_renameOn_88 ksX11_172 rfl ?_
      refine xe_iload dX11_renameOn_91 rfl ?_
      refine e_callSp (M_toOf (hl.so hs)) dX11_renameOn_93 ksX11_65 rfl ?_
      refine xe_iload_n dX11_renameOn_96 rfl ?_
      refine e_callSp (M_renamed o3) dX11_renameOn_97 ksX11_172 rfl ?_
      refine xe_iload dX11_renameOn_100 rfl ?_
      refine e_callSp (M_whichOf (hl.so hs)) dX11_renameOn_102 ksX11_153 rfl ?_
      refine e_callSp (M_asOne) dX11_renameOn_105 ksX11_150 rfl ?_
      refine e_iast (G := GS) (a := 112) dX11_renameOn_108 gk_112 gn_112 (by omega) (by decide) ?_
      refine xn_inc dX11_renameOn_109 rfl (by decide) ?_
      refine xe_goto 48 dX11_renameOn_112 (by decide) ?_
      have hso : SO (mpS (rnm b) s) := ⟨o1, rnm_lt b, rnm_lt b, o4⟩
      refine ih (q + 1) (w.set q (mpS (rnm b) s)) _ (by omega) (by rw [List.length_set]; exact hwl) (fun p hp2 => ?_) (hl.set (by omega) hso) (fun u hu => ?_) (hf.pi _ (by omega) (by omega)) _ _
      · by_cases e : p = q
        · subst e
          rw [List.getElem?_set_self (by omega), if_pos (by omega), List.getElem?_map, hs0]
          rfl
        · rw [List.getElem?_set_ne (Ne.symm e), hw p hp2]
          by_cases e3 : p < q
          · rw [if_pos e3, if_pos (by omega)]
          · rw [if_neg e3, if_neg (by omega)]
      · rw [xpi_rd, if_neg (by omega)]
        exact hn u hu
  -- the first loop
  have key1 : ∀ k q (t : xS), q + k = P.1 → (∀ u, u < P.1 → t.1 112 (53 * v + u) = if u < q then nI (rnm b (P.2.2.1 u)) else nI (P.2.2.1 u)) → (∀ c, c ≠ 112 → t.1 c = σ.1 c) → (∀ k, (k < 53 * v ∨ 53 * v + 4 ≤ k) → t.1 112 k = σ.1 112 k) → t.2 = σ.2 → Ev xs L mX11_renameOn 8 [.ref 110, .int (nI v), .int (bI b), .int (nI (53 * v)), .int (nI q), .null, .null] [] GS t GS (fun w t => w = none ∧ Lv t v (rnP b P) ∧ FL σ t v) := by
    intro k
    induction k with
    | zero =>
      intro q t hq ht hc hr h2
      refine xe_iload dX11_renameOn_8 rfl ?_
      refine xe_aload_n dX11_renameOn_10 rfl ?_
      refine e_getI (G := GS) (r := 110) dX11_renameOn_11 fdX11_115 rfl gk_110 (show _ = nI P.1 by rw [hc 110 (by omega)]; exact hT) ?_
      refine xe_icmp_ge 45 dX11_renameOn_14 (by decide) (fun _ => ?_) (fun c => absurd (nI_le (by omega) (by omega)) c)
      refine xe_iconst (v := nI 0) dX11_renameOn_45 (by decide) ?_
      refine xe_istore dX11_renameOn_46 (by decide) ?_
      refine key2 P.2.2.2.length 0 P.2.2.2 t (by omega) rfl (fun p hp2 => by rw [if_neg (by omega)]) ?_ (fun u hu => by rw [ht u hu, if_pos (by omega)]) ⟨hc, fun k hk => hr k (by omega), h2⟩ _ _
      obtain ⟨a1, a2, a3, a4, a5⟩ := h.li
      exact ⟨a1, a2, by rw [hr _ (by omega)]; exact a3, fun p u hu => by rw [hr _ (by omega)]; exact a4 p u hu, a5⟩
    | succ k ih =>
      intro q t hq ht hc hr h2
      have hqP : q < P.1 := by omega
      refine xe_iload dX11_renameOn_8 rfl ?_
      refine xe_aload_n dX11_renameOn_10 rfl ?_
      refine e_getI (G := GS) (r := 110) dX11_renameOn_11 fdX11_115 rfl gk_110 (show _ = nI P.1 by rw [hc 110 (by omega)]; exact hT) ?_
      refine xe_icmp_ge 45 dX11_renameOn_14 (by decide) (fun c => absurd c (nI_ge (by omega) (by omega))) (fun _ => ?_)
      refine xe_aload_n dX11_renameOn_17 rfl ?_
      refine e_getA (G := GS) (r := 110) dX11_renameOn_18 fdX11_13 rfl gk_110 gr_110_2 ?_
      refine xe_iload_n dX11_renameOn_21 rfl ?_
      refine xe_iload dX11_renameOn_22 rfl ?_
      first | refine xn_iadd dX11_renameOn_24 ?_ | refine xe_iadd dX11_renameOn_24 ?_
      refine xe_aload_n dX11_renameOn_25 rfl ?_
      refine e_getA (G := GS) (r := 110) dX11_renameOn_26 fdX11_13 rfl gk_110 gr_110_2 ?_
      refine xe_iload_n dX11_renameOn_29 rfl ?_
      refine xe_iload dX11_renameOn_30 rfl ?_
      first | refine xn_iadd dX11_renameOn_32 ?_ | refine xe_iadd dX11_renameOn_32 ?_
      refine e_iald (G := GS) (a := 112) dX11_renameOn_33 gk_112 gn_112 (by omega) (by decide) (show _ = nI (P.2.2.1 q) by rw [ht q hqP, if_neg (by omega)]) ?_
      refine xe_iload_n dX11_renameOn_34 rfl ?_
      refine e_callSp (M_renamed (hp.2.1 q hqP).2.1) dX11_renameOn_35 ksX11_172 rfl ?_
      refine e_iast (G := GS) (a := 112) dX11_renameOn_38 gk_112 gn_112 (by omega) (by decide) ?_
      refine xn_inc dX11_renameOn_39 rfl (by decide) ?_
      refine xe_goto 8 dX11_renameOn_42 (by decide) ?_
      refine ih (q + 1) _ (by omega) (fun u hu => ?_) (fun c hcc => (xpi_ne _ _ _ hcc).trans (hc c hcc)) (fun k hk => by rw [xpi_rd, if_neg (by omega)]; exact hr k hk) h2
      by_cases e : u = q
      · subst e
        rw [xpi_rd, if_pos (by omega), if_pos (by omega)]
      · rw [xpi_rd, if_neg (by omega), ht u hu]
        by_cases e3 : u < q
        · rw [if_pos e3, if_pos (by omega)]
        · rw [if_neg e3, if_neg (by omega)]
  refine xe_bipush (v := nI 53) dX11_renameOn_0 (by decide) ?_
  refine xe_iload_n dX11_renameOn_2 rfl ?_
  first | refine xn_imul dX11_renameOn_3 ?_ | refine xe_imul dX11_renameOn_3 ?_
  refine xe_istore_n dX11_renameOn_4 (by decide) ?_
  refine xe_iconst (v := nI 0) dX11_renameOn_5 (by decide) ?_
  refine xe_istore dX11_renameOn_6 (by decide) ?_
  exact key1 P.1 0 σ (by omega) (fun u hu => by rw [if_neg (by omega)]; exact i1 u hu) (fun _ _ => rfl) (fun _ _ => rfl) rfl
theorem M_mayGo (h : Lv σ 0 P) (hk : Kd σ 0 P) {j : Nat} (hj : j < P.1) : Cl xs L mX11_mayGo [.ref 110, .int (nI j)] GS σ GS (pI σ (opn P j)) := by
  show Ev xs L mX11_mayGo 0 [.ref 110, .int (nI j), .null, .null] [] GS σ GS _
  have key := goN 12 (fun a n => if mayW P j n then a ||| (nI 1 <<< (nI n &&& 31)) else a) (fun i a => Ev xs L mX11_mayGo 4 [.ref 110, .int (nI j), .int a, .int (nI i)] [] GS σ GS (pI σ (opn P j))) (opn P j) (by
      refine xe_iload_n dX11_mayGo_4 rfl ?_
      refine xe_bipush (v := nI 12) dX11_mayGo_5 (by decide) ?_
      refine xe_icmp_ge 36 dX11_mayGo_7 (by decide) (fun _ => ?_) (fun c => absurd (by decide) c)
      refine xe_iload_n dX11_mayGo_36 rfl ?_
      exact e_iret dX11_mayGo_37 rfl rfl) (by
      intro i a hi k
      refine xe_iload_n dX11_mayGo_4 rfl ?_
      refine xe_bipush (v := nI 12) dX11_mayGo_5 (by decide) ?_
      refine xe_icmp_ge 36 dX11_mayGo_7 (by decide) (fun c => absurd c (nI_ge hi (by omega))) (fun _ => ?_)
      refine xe_iload_n dX11_mayGo_10 rfl ?_
      refine xe_aload_n dX11_mayGo_11 rfl ?_
      refine xe_iconst (v := nI 0) dX11_mayGo_12 (by decide) ?_
      refine xe_iload_n dX11_mayGo_13 rfl ?_
      refine xe_iload_n dX11_mayGo_14 rfl ?_
      refine e_callVp (G := GS) (r := 110) (M_mayWind h hk hj (by omega)) dX11_mayGo_15 kvX11_105 gk_110 rfl ?_
      refine xz_if_eq 27 dX11_mayGo_18 (by decide) (fun c => ?_) (fun c => ?_)
      · rw [c] at k
        refine xe_iconst (v := nI 0) dX11_mayGo_27 (by decide) ?_
        refine xe_ior dX11_mayGo_28 ?_
        rw [show a ||| nI 0 = a by rw [nI_0]; exact Int32.or_zero]
        refine xe_istore_n dX11_mayGo_29 (by decide) ?_
        refine xn_inc dX11_mayGo_30 rfl (by decide) ?_
        refine xe_goto 4 dX11_mayGo_33 (by decide) ?_
        exact k
      · rw [c] at k
        refine xe_iconst (v := nI 1) dX11_mayGo_21 (by decide) ?_
        refine xe_iload_n dX11_mayGo_22 rfl ?_
        refine xe_ishl dX11_mayGo_23 ?_
        refine xe_goto 28 dX11_mayGo_24 (by decide) ?_
        refine xe_ior dX11_mayGo_28 ?_
        refine xe_istore_n dX11_mayGo_29 (by decide) ?_
        refine xn_inc dX11_mayGo_30 rfl (by decide) ?_
        refine xe_goto 4 dX11_mayGo_33 (by decide) ?_
        exact k) 12 0 (nI 0) rfl rfl
  refine xe_iconst (v := nI 0) dX11_mayGo_0 (by decide) ?_
  refine xe_istore_n dX11_mayGo_1 (by decide) ?_
  refine xe_iconst (v := nI 0) dX11_mayGo_2 (by decide) ?_
  refine xe_istore_n dX11_mayGo_3 (by decide) ?_
  exact key
theorem Im.cp {f g : Nat → Int32} {b c : Nat} {P : xP} (hp : POk P) (h : Im f b P) (e : ∀ k, k < 53 → g (c + k) = f (b + k)) : Im g c P := by
  obtain ⟨h1, h2, h3⟩ := h
  have h4 := hp.1
  have h48 := hp.len
  refine ⟨fun t ht => by rw [e t (by omega)]; exact h1 t ht, by rw [e 4 (by omega)]; exact h2, fun i s hs => ?_⟩
  have := Ls.lt hs
  have := e (5 + i) (by omega)
  rw [← Nat.add_assoc, ← Nat.add_assoc] at this
  rw [this]
  exact h3 i s hs
theorem M_layTrial (h : Lv σ 0 P) : Cl xs L mX11_layTrial [.ref 110] GS σ GS (fun w t => w = none ∧ Lv t 1 P ∧ FL σ t 1) := by
  show Ev xs L mX11_layTrial 0 [.ref 110, .null] [] GS σ GS _
  have key : ∀ k i (t : xS), i + k = 53 → (∀ q, q < i → t.1 112 (53 + q) = σ.1 112 q) → FL σ t 1 → Ev xs L mX11_layTrial 2 [.ref 110, .int (nI i)] [] GS t GS (fun w t => w = none ∧ Lv t 1 P ∧ FL σ t 1) := by
    intro k
    induction k with
    | zero =>
      intro i t hi ht hf
      refine xe_iload_n dX11_layTrial_2 rfl ?_
      refine xe_bipush (v := nI 53) dX11_layTrial_3 (by decide) ?_
      refine xe_icmp_ge 29 dX11_layTrial_5 (by decide) (fun _ => ?_) (fun c => absurd (nI_le (by omega) (by omega)) c)
      refine xe_vret dX11_layTrial_29 rfl ⟨rfl, ⟨by omega, h.2.1, h.2.2.cp h.2.1 (fun k hk => ?_)⟩, hf⟩
      rw [Nat.mul_zero, Nat.zero_add, Nat.mul_one]
      exact ht k (by omega)
    | succ k ih =>
      intro i t hi ht hf
      refine xe_iload_n dX11_layTrial_2 rfl ?_
      refine xe_bipush (v := nI 53) dX11_layTrial_3 (by decide) ?_
      refine xe_icmp_ge 29 dX11_layTrial_5 (by decide) (fun c => absurd c (nI_ge (by omega) (by omega))) (fun _ => ?_)
      refine xe_aload_n dX11_layTrial_8 rfl ?_
      refine e_getA (G := GS) (r := 110) dX11_layTrial_9 fdX11_13 rfl gk_110 gr_110_2 ?_
      refine xe_bipush (v := nI 53) dX11_layTrial_12 (by decide) ?_
      refine xe_iload_n dX11_layTrial_14 rfl ?_
      first | refine xn_iadd dX11_layTrial_15 ?_ | refine xe_iadd dX11_layTrial_15 ?_
      refine xe_aload_n dX11_layTrial_16 rfl ?_
      refine e_getA (G := GS) (r := 110) dX11_layTrial_17 fdX11_13 rfl gk_110 gr_110_2 ?_
      refine xe_iload_n dX11_layTrial_20 rfl ?_
      refine e_iald (G := GS) (a := 112) dX11_layTrial_21 gk_112 gn_112 (by omega) (by decide) (hf.2.1 i (by omega)) ?_
      refine e_iast (G := GS) (a := 112) dX11_layTrial_22 gk_112 gn_112 (by omega) (by decide) ?_
      refine xn_inc dX11_layTrial_23 rfl (by decide) ?_
      refine xe_goto 2 dX11_layTrial_26 (by decide) ?_
      refine ih (i + 1) _ (by omega) (fun q hq => ?_) (hf.pi _ (by omega) (by omega))
      by_cases e : q = i
      · subst e
        rw [xpi_rd, if_pos (by omega)]
      · rw [xpi_rd, if_neg (by omega)]
        exact ht q (by omega)
  refine xe_iconst (v := nI 0) dX11_layTrial_0 (by decide) ?_
  refine xe_istore_n dX11_layTrial_1 (by decide) ?_
  exact key 53 0 σ (by omega) (fun q hq => absurd hq (Nat.not_lt_zero _)) (FL.rf σ 1)
theorem M_clearLevel (hv : v < 2) : Cl xs L mX11_clearLevel [.ref 110, .int (nI v)] GS σ GS (fun w t => w = none ∧ Lv t v nilP ∧ FL σ t v) := by
  show Ev xs L mX11_clearLevel 0 [.ref 110, .int (nI v), .null] [] GS σ GS _
  have key : ∀ k i (t : xS), i + k = 53 → (∀ q, q < i → t.1 112 (53 * v + q) = nI 0) → FL σ t v → Ev xs L mX11_clearLevel 2 [.ref 110, .int (nI v), .int (nI i)] [] GS t GS (fun w t => w = none ∧ Lv t v nilP ∧ FL σ t v) := by
    intro k
    induction k with
    | zero =>
      intro i t hi ht hf
      refine xe_iload_n dX11_clearLevel_2 rfl ?_
      refine xe_bipush (v := nI 53) dX11_clearLevel_3 (by decide) ?_
      refine xe_icmp_ge 26 dX11_clearLevel_5 (by decide) (fun _ => ?_) (fun c => absurd (nI_le (by omega) (by omega)) c)
      exact xe_vret dX11_clearLevel_26 rfl ⟨rfl, ⟨hv, nil_ok, fun u hu => absurd hu (Nat.not_lt_zero _), ht 4 (by omega), fun i s hs => (by cases hs)⟩, hf⟩
    | succ k ih =>
      intro i t hi ht hf
      refine xe_iload_n dX11_clearLevel_2 rfl ?_
      refine xe_bipush (v := nI 53) dX11_clearLevel_3 (by decide) ?_
      refine xe_icmp_ge 26 dX11_clearLevel_5 (by decide) (fun c => absurd c (nI_ge (by omega) (by omega))) (fun _ => ?_)
      refine xe_aload_n dX11_clearLevel_8 rfl ?_
      refine e_getA (G := GS) (r := 110) dX11_clearLevel_9 fdX11_13 rfl gk_110 gr_110_2 ?_
      refine xe_bipush (v := nI 53) dX11_clearLevel_12 (by decide) ?_
      refine xe_iload_n dX11_clearLevel_14 rfl ?_
      first | refine xn_imul dX11_clearLevel_15 ?_ | refine xe_imul dX11_clearLevel_15 ?_
      refine xe_iload_n dX11_clearLevel_16 rfl ?_
      first | refine xn_iadd dX11_clearLevel_17 ?_ | refine xe_iadd dX11_clearLevel_17 ?_
      refine xe_iconst (v := nI 0) dX11_clearLevel_18 (by decide) ?_
      refine e_iast (G := GS) (a := 112) dX11_clearLevel_19 gk_112 gn_112 (by omega) (by decide) ?_
      refine xn_inc dX11_clearLevel_20 rfl (by decide) ?_
      refine xe_goto 2 dX11_clearLevel_23 (by decide) ?_
      refine ih (i + 1) _ (by omega) (fun q hq => ?_) (hf.pi _ (by omega) (by omega))
      by_cases e : q = i
      · subst e
        rw [xpi_rd, if_pos (by omega)]
      · rw [xpi_rd, if_neg (by omega)]
        exact ht q (by omega)
  refine xe_iconst (v := nI 0) dX11_clearLevel_0 (by decide) ?_
  refine xe_istore_n dX11_clearLevel_1 (by decide) ?_
  exact key 53 0 σ (by omega) (fun q hq => absurd hq (Nat.not_lt_zero _)) (FL.rf σ v)
end MA
