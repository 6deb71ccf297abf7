/-! a board is changed -/
theorem xpi_rd (σ : xS) (i k : Nat) (x : Int32) (a b : Nat) : (xpi σ i k x).1 a b = if a = i ∧ b = k then x else σ.1 a b := by
  by_cases h : a = i
  · subst h
    rw [xpi_at]
    show (if b = k then x else σ.1 a b) = _
    by_cases h2 : b = k
    · rw [if_pos h2, if_pos ⟨rfl, h2⟩]
    · rw [if_neg h2, if_neg (fun z => h2 z.2)]
  · rw [xpi_ne _ _ _ h, if_neg (fun z => h z.1)]
/-- nothing but the board's own cells has changed -/
def Fr (σ t : xS) (B : Nat) : Prop := (∀ c, (c < B ∨ B + 4 < c) → t.1 c = σ.1 c) ∧ t.2 = σ.2
theorem Fr.rf (σ : xS) (B : Nat) : Fr σ σ B := ⟨fun _ _ => rfl, rfl⟩
theorem Fr.tr {σ t u : xS} {B : Nat} (h1 : Fr σ t B) (h2 : Fr t u B) : Fr σ u B := ⟨fun c hc => (h2.1 c hc).trans (h1.1 c hc), h2.2.trans h1.2⟩
theorem Fr.pi {σ t : xS} {B i : Nat} (k : Nat) (x : Int32) (h : Fr σ t B) (h1 : B ≤ i) (h2 : i ≤ B + 4) : Fr σ (xpi t i k x) B := ⟨fun c hc => (xpi_ne t k x (by omega)).trans (h.1 c hc), h.2⟩
/-- a picture and its numbers fit together -/
def POk (P : xP) : Prop := P.1 ≤ 4 ∧ (∀ t, t < P.1 → P.2.1 t < 4 ∧ P.2.2.1 t < 12 ∧ cnt P.2.2.2 t ≤ 12) ∧ (∀ s ∈ P.2.2.2, s.1 < P.1 ∧ SO s) ∧ (∀ t, ((P.2.2.2.filter (fun s => s.1 == t)).map (fun s => s.2.2.2)).Perm (List.range (cnt P.2.2.2 t))) ∧ ∀ s ∈ P.2.2.2, s.2.1 ≠ s.2.2.1
theorem cnt_sum : ∀ z : List xSt, (∀ s ∈ z, s.1 < 4) → z.length = cnt z 0 + cnt z 1 + cnt z 2 + cnt z 3
  | [], _ => rfl
  | s :: r, h => by
    have ih := cnt_sum r (fun u hu => h u (List.mem_cons_of_mem _ hu))
    have hs := h s (List.mem_cons_self ..)
    unfold cnt at ih ⊢
    simp only [List.countP_cons, List.length_cons, beq_iff_eq]
    have : s.1 = 0 ∨ s.1 = 1 ∨ s.1 = 2 ∨ s.1 = 3 := by omega
    rcases this with e | e | e | e <;> simp [e] <;> omega
theorem POk.len {P : xP} (h : POk P) : P.2.2.2.length ≤ 48 := by
  have hc : ∀ t, cnt P.2.2.2 t ≤ 12 := fun t => by
    by_cases ht : t < P.1
    · exact (h.2.1 t ht).2.2
    · have : cnt P.2.2.2 t = 0 := List.countP_eq_zero.mpr (fun s hs => by
        have := (h.2.2.1 s hs).1
        simp only [beq_iff_eq]
        omega)
      omega
  have := cnt_sum P.2.2.2 (fun s hs => (h.2.2.1 s hs).2.1)
  have a0 := hc 0
  have a1 := hc 1
  have a2 := hc 2
  have a3 := hc 3
  omega
/-- the board's cells hold the picture -/
def Bd (σ : xS) (B : Nat) (P : xP) : Prop := POk P ∧ Th σ B P ∧ Ls σ B P.2.2.2 ∧ σ.1 B 6 = nI (crz P.2.2.2)
theorem Bd.fr {σ t : xS} {B B' : Nat} {P : xP} (h : Bd σ B P) (hf : Fr σ t B') (ha : B + 4 < B' ∨ B' + 4 < B) : Bd t B P := by
  obtain ⟨h1, ⟨a1, a2, a3⟩, ⟨b1, b2, b3, b4⟩, h4⟩ := h
  have e : ∀ c, B ≤ c → c ≤ B + 4 → t.1 c = σ.1 c := fun c c1 c2 => hf.1 c (by omega)
  refine ⟨h1, ⟨?_, a2, fun x hx => ?_⟩, ⟨?_, b2, fun i s hs => ?_, b4⟩, ?_⟩
  · rw [e B (by omega) (by omega)]; exact a1
  · rw [e (B + 1) (by omega) (by omega), e (B + 2) (by omega) (by omega), e (B + 3) (by omega) (by omega)]; exact a3 x hx
  · rw [e B (by omega) (by omega)]; exact b1
  · rw [e (B + 4) (by omega) (by omega)]; exact b3 i s hs
  · rw [e B (by omega) (by omega)]; exact h4
theorem crs4_sym : ∀ a, a < 12 → ∀ b, b < 12 → ∀ c, c < 12 → ∀ d, d < 12 → crs4 a b c d = crs4 c d a b := by decide +kernel
theorem crS_self (s : xSt) : crS s s = false := if_pos (Or.inl rfl)
theorem cnt_app (z : List xSt) (s : xSt) (t : Nat) : cnt (z ++ [s]) t = cnt z t + if s.1 = t then 1 else 0 := by
  unfold cnt
  rw [List.countP_append, List.countP_singleton]
  simp only [beq_iff_eq]
theorem crz_app (s : xSt) : ∀ z : List xSt, crz (z ++ [s]) = crz z + crA s.2.1 s.2.2.1 z
  | [] => rfl
  | u :: r => by
    have ih := crz_app s r
    show (r ++ [s]).countP (crS u) + crz (r ++ [s]) = r.countP (crS u) + crz r + crA s.2.1 s.2.2.1 (u :: r)
    rw [ih, List.countP_append, List.countP_singleton]
    unfold crA crc
    rw [List.countP_cons]
    simp only [Bool.true_and]
    show _ + (if crS u s = true then 1 else 0) + _ = _ + (_ + if crs4 u.2.1 u.2.2.1 s.2.1 s.2.2.1 = true then 1 else 0)
    unfold crS
    omega
/-- a thread goes on -/
def wnd (P : xP) (j n : Nat) : xP := (P.1, P.2.1, fun t => if t = j then n else P.2.2.1 t, P.2.2.2 ++ [(j, P.2.2.1 j, n, cnt P.2.2.2 j)])
theorem wnd_ok {P : xP} {j n : Nat} (h : POk P) (hm : mayW P j n = true) : POk (wnd P j n) := by
  obtain ⟨m1, m2, m3, m4⟩ := mayW_lt hm
  obtain ⟨h1, h2, h3, h4, h5⟩ := h
  refine ⟨h1, fun t ht => ⟨(h2 t ht).1, ?_, ?_⟩, fun s hs => ?_, fun t => ?_, fun s hs => ?_⟩
  · show (if t = j then n else P.2.2.1 t) < 12
    split
    · exact m2
    · exact (h2 t ht).2.1
  · show cnt (P.2.2.2 ++ [(j, P.2.2.1 j, n, cnt P.2.2.2 j)]) t ≤ 12
    rw [cnt_app]
    have := (h2 t ht).2.2
    by_cases e : j = t
    · subst e
      rw [if_pos rfl]
      omega
    · rw [if_neg e]
      omega
  · rcases List.mem_append.mp hs with hs | hs
    · exact h3 s hs
    · rw [List.mem_singleton.mp hs]
      exact ⟨m1, by show j < 4; omega, (h2 j m1).2.1, m2, m4⟩
  · show (((P.2.2.2 ++ [(j, P.2.2.1 j, n, cnt P.2.2.2 j)]).filter (fun s => s.1 == t)).map (fun s => s.2.2.2)).Perm (List.range (cnt (P.2.2.2 ++ [(j, P.2.2.1 j, n, cnt P.2.2.2 j)]) t))
    rw [cnt_app, List.filter_append, List.map_append]
    by_cases e : j = t
    · subst e
      rw [if_pos rfl, List.range_succ]
      have : List.filter (fun s : xSt => s.1 == j) [(j, P.2.2.1 j, n, cnt P.2.2.2 j)] = [(j, P.2.2.1 j, n, cnt P.2.2.2 j)] := by simp
      rw [this]
      exact (h4 j).append_right _
    · have : List.filter (fun s : xSt => s.1 == t) [(j, P.2.2.1 j, n, cnt P.2.2.2 j)] = [] := by simp [e]
      rw [this, if_neg e]
      simpa using h4 t
  · rcases List.mem_append.mp hs with hs | hs
    · exact h5 s hs
    · rw [List.mem_singleton.mp hs]
      exact fun q => m3 q.symm
section AC
variable {xs : Nat → Int32} {L : Nat} {σ : xS} {B : Nat} {P : xP}
theorem Bd.hc0 (h : Bd σ B P) : ∀ s ∈ P.2.2.2, s.1 < P.1 := fun s hs => (h.1.2.2.1 s hs).1
theorem E_windOn (hB : IsBd B) (h : Bd σ B P) {j n : Nat} (hm : mayW P j n = true) : Cl xs L mX0_windOn [.ref B, .int (nI j), .int (nI n)] GS σ GS (fun v t => v = some (.int (nI (crA (P.2.2.1 j) n P.2.2.2))) ∧ Bd t B (wnd P j n) ∧ Fr σ t B) := by
  show Ev xs L mX0_windOn 0 [.ref B, .int (nI j), .int (nI n), .null, .null] [] GS σ GS _
  obtain ⟨m1, m2, m3, m4⟩ := mayW_lt hm
  have hok := wnd_ok h.1 hm
  have hlen : P.2.2.2.length + 1 ≤ 48 := by
    have := hok.len
    have e : (wnd P j n).2.2.2.length = P.2.2.2.length + 1 := List.length_append
    omega
  obtain ⟨hp, hth, hz, h6⟩ := id h
  have h4 := hth.2.1
  obtain ⟨t1, t2, t3, t4, t5, t6⟩ := hth.2.2 j m1
  refine xe_aload_n dX0_windOn_0 rfl ?_
  refine xe_iload_n dX0_windOn_1 rfl ?_
  refine e_callVp (E_hasThreadN hB hth (by omega)) dX0_windOn_2 kvX0_40 (bd_k hB) rfl ?_
  refine xe_if_eq 17 dX0_windOn_5 (by decide) (fun c => absurd c (by rw [decide_eq_true m1]; decide)) (fun _ => ?_)
  refine xe_aload_n dX0_windOn_8 rfl ?_
  refine e_getI dX0_windOn_9 fdX0_28 rfl (bd_k hB) hz.1 ?_
  refine xe_bipush (v := nI 48) dX0_windOn_12 (by decide) ?_
  refine xe_icmp_lt 19 dX0_windOn_14 (by decide) (fun _ => ?_) (fun c => absurd (nI_lt (by omega) (by omega)) c)
  refine xe_aload_n dX0_windOn_19 rfl ?_
  refine e_getA dX0_windOn_20 fdX0_15 rfl (bd_k hB) (bd_r1 hB) ?_
  refine xe_iload_n dX0_windOn_23 rfl ?_
  refine e_iald dX0_windOn_24 (bd_k2 hB) (bd_n2 hB) (by omega) (by decide) t2 ?_
  refine xe_istore_n dX0_windOn_25 (by decide) ?_
  refine xe_aload_n dX0_windOn_26 rfl ?_
  refine xe_iconst (v := nI 0) dX0_windOn_27 (by decide) ?_
  refine xe_iconst (v := -1) dX0_windOn_28 (by decide) ?_
  refine xe_iload_n dX0_windOn_29 rfl ?_
  refine xe_iload_n dX0_windOn_30 rfl ?_
  refine e_callVp (E_crossed hB hz (l := 0) (p := fun _ => true) (Nat.zero_le _) t5 m2 (Or.inl ⟨rfl, fun _ => rfl⟩)) dX0_windOn_31 kvX0_67 (bd_k hB) rfl ?_
  rw [List.drop_zero]
  refine xe_istore dX0_windOn_34 (by decide) ?_
  refine xe_aload_n dX0_windOn_36 rfl ?_
  refine e_getA dX0_windOn_37 fdX0_21 rfl (bd_k hB) (bd_r3 hB) ?_
  refine xe_aload_n dX0_windOn_40 rfl ?_
  refine e_getI dX0_windOn_41 fdX0_28 rfl (bd_k hB) hz.1 ?_
  refine xe_iload_n dX0_windOn_44 rfl ?_
  refine xe_iload_n dX0_windOn_45 rfl ?_
  refine xe_iload_n dX0_windOn_46 rfl ?_
  refine xe_aload_n dX0_windOn_47 rfl ?_
  refine e_getA dX0_windOn_48 fdX0_18 rfl (bd_k hB) (bd_r2 hB) ?_
  refine xe_iload_n dX0_windOn_51 rfl ?_
  refine e_iald dX0_windOn_52 (bd_k3 hB) (bd_n3 hB) (by omega) (by decide) t3 ?_
  refine e_callSp (E_packed (by omega) t5 m2 m4) dX0_windOn_53 ksX0_110 rfl ?_
  refine e_iast dX0_windOn_56 (bd_k4 hB) (bd_n4 hB) (by omega) (by decide) ?_
  refine xe_aload_n dX0_windOn_57 rfl ?_
  refine xe_dup dX0_windOn_58 rfl ?_
  refine e_getI dX0_windOn_59 fdX0_28 rfl (bd_k hB) ((congrFun (xpi_ne σ _ _ (by omega)) 5).trans hz.1) ?_
  refine xe_iconst (v := nI 1) dX0_windOn_62 (by decide) ?_
  refine xe_iadd dX0_windOn_63 ?_
  refine xe_putI dX0_windOn_64 fdX0_28 rfl (bd_k hB) ?_
  refine xe_aload_n dX0_windOn_67 rfl ?_
  refine e_getA dX0_windOn_68 fdX0_18 rfl (bd_k hB) (bd_r2 hB) ?_
  refine xe_iload_n dX0_windOn_71 rfl ?_
  refine xe_dup2 dX0_windOn_72 rfl rfl ?_
  refine e_iald dX0_windOn_73 (bd_k3 hB) (bd_n3 hB) (by omega) (by decide) ((congrFun (xpi_ne _ _ _ (by omega)) j).trans ((congrFun (xpi_ne _ _ _ (by omega)) j).trans t3)) ?_
  refine xe_iconst (v := nI 1) dX0_windOn_74 (by decide) ?_
  refine xe_iadd dX0_windOn_75 ?_
  refine e_iast dX0_windOn_76 (bd_k3 hB) (bd_n3 hB) (by omega) (by decide) ?_
  refine xe_aload_n dX0_windOn_77 rfl ?_
  refine e_getA dX0_windOn_78 fdX0_15 rfl (bd_k hB) (bd_r1 hB) ?_
  refine xe_iload_n dX0_windOn_81 rfl ?_
  refine xe_iload_n dX0_windOn_82 rfl ?_
  refine e_iast dX0_windOn_83 (bd_k2 hB) (bd_n2 hB) (by omega) (by decide) ?_
  refine xe_aload_n dX0_windOn_84 rfl ?_
  refine xe_dup dX0_windOn_85 rfl ?_
  refine e_getI dX0_windOn_86 fdX0_31 rfl (bd_k hB) (show _ = nI (crz P.2.2.2) by rw [xpi_rd, if_neg (by omega), xpi_rd, if_neg (by omega), xpi_rd, if_neg (by omega), xpi_rd, if_neg (by omega)]; exact h6) ?_
  refine xe_iload dX0_windOn_89 rfl ?_
  refine xe_iadd dX0_windOn_91 ?_
  refine xe_putI dX0_windOn_92 fdX0_31 rfl (bd_k hB) ?_
  refine xe_iload dX0_windOn_95 rfl ?_
  refine xe_iret dX0_windOn_97 rfl ⟨rfl, ⟨hok, ⟨?_, h4, fun t ht => ?_⟩, ⟨?_, hok.len, fun i s hs => ?_, fun s hs => (hok.2.2.1 s hs).2⟩, ?_⟩, ?_⟩
  · rw [xpi_rd, if_neg (by omega), xpi_rd, if_neg (by omega), xpi_rd, if_neg (by omega), xpi_rd, if_neg (by omega), xpi_rd, if_neg (by omega)]
    exact hth.1
  · obtain ⟨u1, u2, u3, u4, u5, u6⟩ := hth.2.2 t ht
    refine ⟨?_, ?_, ?_, (hok.2.1 t ht).1, (hok.2.1 t ht).2.1, (hok.2.1 t ht).2.2⟩
    · rw [xpi_rd, if_neg (by omega), xpi_rd, if_neg (by omega), xpi_rd, if_neg (by omega), xpi_rd, if_neg (by omega), xpi_rd, if_neg (by omega)]
      exact u1
    · rw [xpi_rd, if_neg (by omega)]
      by_cases e : t = j
      · rw [xpi_rd, if_pos (by omega)]
        show _ = nI (if t = j then n else _)
        rw [if_pos e]
      · rw [xpi_rd, if_neg (by omega), xpi_rd, if_neg (by omega), xpi_rd, if_neg (by omega), xpi_rd, if_neg (by omega)]
        show _ = nI (if t = j then n else _)
        rw [if_neg e]
        exact u2
    · rw [xpi_rd, if_neg (by omega), xpi_rd, if_neg (by omega)]
      show _ = nI (cnt (P.2.2.2 ++ [(j, P.2.2.1 j, n, cnt P.2.2.2 j)]) t)
      rw [cnt_app]
      by_cases e : t = j
      · subst e
        rw [xpi_rd, if_pos (by omega), if_pos rfl, nI_add]
      · rw [xpi_rd, if_neg (by omega), xpi_rd, if_neg (by omega), xpi_rd, if_neg (by omega), if_neg (fun q => e q.symm)]
        exact u3
  · rw [xpi_rd, if_neg (by omega), xpi_rd, if_neg (by omega), xpi_rd, if_neg (by omega), xpi_rd, if_pos (by omega), nI_add]
    show _ = nI (P.2.2.2 ++ [_]).length
    rw [List.length_append]
    rfl
  · rw [xpi_rd, if_neg (by omega), xpi_rd, if_neg (by omega), xpi_rd, if_neg (by omega), xpi_rd, if_neg (by omega)]
    have hs : (P.2.2.2 ++ [(j, P.2.2.1 j, n, cnt P.2.2.2 j)])[i]? = some s := hs
    by_cases e : i < P.2.2.2.length
    · rw [List.getElem?_append_left e] at hs
      rw [xpi_rd, if_neg (by omega)]
      exact hz.2.2.1 i s hs
    · rw [List.getElem?_append_right (by omega)] at hs
      have hz0 : i - P.2.2.2.length < 1 := (List.getElem?_eq_some_iff.mp hs).1
      rw [show i - P.2.2.2.length = 0 by omega] at hs
      cases hs
      rw [xpi_rd, if_pos (by omega)]
  · rw [xpi_rd, if_pos (by omega)]
    show _ = nI (crz (P.2.2.2 ++ [(j, P.2.2.1 j, n, cnt P.2.2.2 j)]))
    rw [crz_app, nI_add]
  · exact (((((Fr.rf σ B).pi _ _ (by omega) (by omega)).pi _ _ (by omega) (by omega)).pi _ _ (by omega) (by omega)).pi _ _ (by omega) (by omega)).pi _ _ (by omega) (by omega)
end AC
