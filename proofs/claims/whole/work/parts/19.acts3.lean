/-! a board is changed, further -/
def xcp (σ : xS) (a0 a : Nat) : xS := (fun b => if b = a then (fun k => if k < 4 then σ.1 a0 k else σ.1 a k) else σ.1 b, σ.2)
theorem xcp_at (σ : xS) (a0 a : Nat) {k : Nat} (h : k < 4) : (xcp σ a0 a).1 a k = σ.1 a0 k := by
  show (if a = a then (fun k => if k < 4 then σ.1 a0 k else σ.1 a k) else σ.1 a) k = _
  rw [if_pos rfl]
  exact if_pos h
theorem xcp_ne (σ : xS) (a0 : Nat) {a b : Nat} (h : b ≠ a) : (xcp σ a0 a).1 b = σ.1 b := if_neg h
theorem Fr.cp {σ t : xS} {B a0 a : Nat} (h : Fr σ t B) (h1 : B ≤ a) (h2 : a ≤ B + 4) : Fr σ (xcp t a0 a) B := ⟨fun c hc => (xcp_ne t a0 (by omega)).trans (h.1 c hc), h.2⟩
def wst (j k : Nat) : Nat → xP → xP × Nat × Nat
  | 0, P => (P, 0, 0)
  | n + 1, P => if mayW P j ((P.2.2.1 j + k) % 12) then ((wst j k n (wnd P j ((P.2.2.1 j + k) % 12))).1, crA (P.2.2.1 j) ((P.2.2.1 j + k) % 12) P.2.2.2 + (wst j k n (wnd P j ((P.2.2.1 j + k) % 12))).2.1, (wst j k n (wnd P j ((P.2.2.1 j + k) % 12))).2.2 + 1) else (P, 0, 0)
theorem stp_all : ∀ a, a < 12 → ∀ k, k < 12 → fmod (nI a + nI k) 12 = nI ((a + k) % 12) := by decide +kernel
section A2
variable {xs : Nat → Int32} {L : Nat} {σ : xS} {B : Nat} {P : xP}
theorem e_copy {M : xM} {pc : Nat} {lv st : List Value} {Q : Option Value → xS → Prop} {idx a0 a : Nat} (hd : decode M.2.1 pc = .ok (.invokestatic idx, 3)) (hl : Cond.methodLink M.1.cls idx arraycopyName ∈ GT) (k0 : xk GS a0 = 11) (k1 : xk GS a = 11) (n0 : xn GS a0 = 4) (n1 : xn GS a = 4) (hw : (st.map fun v => v.category).sum + 18 ≤ M.2.2.2.2.2) (hf : 1 ≤ M.2.2.2.2.1) (kk : Ev xs L M (pc + 3) lv st GS (xcp σ a0 a) GS Q) : Ev xs L M pc lv (.int (nI 4) :: .int (nI 0) :: .ref a :: .int (nI 0) :: .ref a0 :: st) GS σ GS Q := by
  refine xe_copy hd hl gw368 gw367 gw64 k0 k1 (by decide) (by decide) (by decide) (by rw [n0]; decide) (by rw [n1]; decide) hw hf ?_
  have e : va_cpy (σ.1 a0) (σ.1 a) (nI 0).toNatClampNeg (nI 0).toNatClampNeg (nI 4).toNatClampNeg = fun k => if k < 4 then σ.1 a0 k else σ.1 a k := by
    rw [show (nI 0).toNatClampNeg = 0 by decide, show (nI 4).toNatClampNeg = 4 by decide]
    funext k
    simp only [va_cpy]
    by_cases h : k < 4
    · rw [if_pos (by omega), if_pos h, Nat.zero_add, Nat.sub_zero]
    · rw [if_neg (by omega), if_neg h]
  rw [e]
  exact kk
theorem E_unwindLast (hB : IsBd B) (h : Bd σ B P) {j i : Nat} {s : xSt} (hl : las P.2.2.2 j = some i) (hs : P.2.2.2[i]? = some s) : Cl xs L mX0_unwindLast [.ref B, .int (nI j)] GS σ GS (fun v t => v = some (.int (nI s.2.1)) ∧ Bd t B (uwd P j i s) ∧ Fr σ t B) := by
  show Ev xs L mX0_unwindLast 0 [.ref B, .int (nI j), .null, .null] [] GS σ GS _
  obtain ⟨hp, hth, hz, h6⟩ := id h
  obtain ⟨hok, hcn, hcr, e1, m1⟩ := uwd_ok hp hl hs
  have h4 := hth.2.1
  have h48 := hz.2.1
  have hil := Ls.lt hs
  obtain ⟨o1, o2, o3, o4⟩ := hz.so hs
  obtain ⟨t1, t2, t3, t4, t5, t6⟩ := hth.2.2 j m1
  have hcl := crc_le (fun _ => true) s.2.1 s.2.2.1 P.2.2.2
  have hpos : 0 < cnt P.2.2.2 j := by
    have := hcn j
    rw [if_pos rfl] at this
    omega
  refine xe_aload_n dX0_unwindLast_0 rfl ?_
  refine xe_iload_n dX0_unwindLast_1 rfl ?_
  refine e_callVp (E_lastOf hB hth hz h.hc0 (by omega)) dX0_unwindLast_2 kvX0_104 (bd_k hB) rfl ?_
  rw [hl, show oI (some i) = nI i from rfl]
  refine xe_istore_n dX0_unwindLast_5 (by decide) ?_
  refine xe_aload_n dX0_unwindLast_6 rfl ?_
  refine xe_iload_n dX0_unwindLast_7 rfl ?_
  refine e_callVp (E_hasThreadN hB hth (by omega)) dX0_unwindLast_8 kvX0_40 (bd_k hB) rfl ?_
  refine xe_if_eq 19 dX0_unwindLast_11 (by decide) (fun c => absurd c (by rw [decide_eq_true m1]; decide)) (fun _ => ?_)
  refine xe_iload_n dX0_unwindLast_14 rfl ?_
  refine xe_iconst (v := -1) dX0_unwindLast_15 (by decide) ?_
  refine xe_icmp_ne 21 dX0_unwindLast_16 (by decide) (fun _ => ?_) (fun c => absurd c (nI_m1 (by omega)))
  refine xe_aload_n dX0_unwindLast_21 rfl ?_
  refine xe_dup dX0_unwindLast_22 rfl ?_
  refine e_getI dX0_unwindLast_23 fdX0_31 rfl (bd_k hB) h6 ?_
  refine xe_aload_n dX0_unwindLast_26 rfl ?_
  refine xe_iconst (v := nI 0) dX0_unwindLast_27 (by decide) ?_
  refine xe_iconst (v := -1) dX0_unwindLast_28 (by decide) ?_
  refine xe_aload_n dX0_unwindLast_29 rfl ?_
  refine xe_iload_n dX0_unwindLast_30 rfl ?_
  refine e_callVp (E_fromAt hB hz hs) dX0_unwindLast_31 kvX0_48 (bd_k hB) rfl ?_
  refine xe_aload_n dX0_unwindLast_34 rfl ?_
  refine xe_iload_n dX0_unwindLast_35 rfl ?_
  refine e_callVp (E_toAt hB hz hs) dX0_unwindLast_36 kvX0_51 (bd_k hB) rfl ?_
  refine e_callVp (E_crossed hB hz (l := 0) (p := fun _ => true) (Nat.zero_le _) o2 o3 (Or.inl ⟨rfl, fun _ => rfl⟩)) dX0_unwindLast_39 kvX0_67 (bd_k hB) rfl ?_
  rw [List.drop_zero]
  refine xe_isub dX0_unwindLast_42 ?_
  rw [pk_sub (show crc (fun _ => true) s.2.1 s.2.2.1 P.2.2.2 ≤ crz P.2.2.2 from by show crA _ _ _ ≤ _; omega), show crz P.2.2.2 - crc (fun _ => true) s.2.1 s.2.2.1 P.2.2.2 = crz (P.2.2.2.eraseIdx i) from by show crz P.2.2.2 - crA _ _ _ = _; omega]
  refine xe_putI dX0_unwindLast_43 fdX0_31 rfl (bd_k hB) ?_
  refine xe_aload_n dX0_unwindLast_46 rfl ?_
  refine e_getA dX0_unwindLast_47 fdX0_15 rfl (bd_k hB) (bd_r1 hB) ?_
  refine xe_iload_n dX0_unwindLast_50 rfl ?_
  refine xe_aload_n dX0_unwindLast_51 rfl ?_
  refine xe_iload_n dX0_unwindLast_52 rfl ?_
  refine e_callVp (E_fromAt hB (hz.fr (t := xpi σ B 6 (nI (crz (P.2.2.2.eraseIdx i)))) (by rw [xpi_rd, if_neg (by omega)]) (xpi_ne _ _ _ (by omega))) hs) dX0_unwindLast_53 kvX0_48 (bd_k hB) rfl ?_
  refine e_iast dX0_unwindLast_56 (bd_k2 hB) (bd_n2 hB) (by omega) (by decide) ?_
  refine xe_aload_n dX0_unwindLast_57 rfl ?_
  refine e_getA dX0_unwindLast_58 fdX0_18 rfl (bd_k hB) (bd_r2 hB) ?_
  refine xe_iload_n dX0_unwindLast_61 rfl ?_
  refine xe_dup2 dX0_unwindLast_62 rfl rfl ?_
  refine e_iald dX0_unwindLast_63 (bd_k3 hB) (bd_n3 hB) (by omega) (by decide) (show _ = nI (cnt P.2.2.2 j) by rw [xpi_rd, if_neg (by omega), xpi_rd, if_neg (by omega)]; exact t3) ?_
  refine xe_iconst (v := nI 1) dX0_unwindLast_64 (by decide) ?_
  refine xe_isub dX0_unwindLast_65 ?_
  rw [pk_sub (by omega)]
  refine e_iast dX0_unwindLast_66 (bd_k3 hB) (bd_n3 hB) (by omega) (by decide) ?_
  refine xe_iload_n dX0_unwindLast_67 rfl ?_
  refine xe_iconst (v := nI 1) dX0_unwindLast_68 (by decide) ?_
  refine xe_iadd dX0_unwindLast_69 ?_
  rw [nI_add]
  refine xe_istore_n dX0_unwindLast_70 (by decide) ?_
  generalize hτ : xpi (xpi (xpi σ B 6 (nI (crz (P.2.2.2.eraseIdx i)))) (B + 2) j (nI s.2.1)) (B + 3) j (nI (cnt P.2.2.2 j - 1)) = τ
  have f4 : τ.1 (B + 4) = σ.1 (B + 4) := by rw [← hτ, xpi_ne _ _ _ (by omega), xpi_ne _ _ _ (by omega), xpi_ne _ _ _ (by omega)]
  have f5 : τ.1 B 5 = nI P.2.2.2.length := by rw [← hτ, xpi_rd, if_neg (by omega), xpi_rd, if_neg (by omega), xpi_rd, if_neg (by omega)]; exact hz.1
  have key : ∀ k q (t : xS), q + k = P.2.2.2.length → i + 1 ≤ q → (∀ p, t.1 (B + 4) p = if i ≤ p ∧ p + 1 < q then σ.1 (B + 4) (p + 1) else σ.1 (B + 4) p) → (∀ c, c ≠ B + 4 → t.1 c = τ.1 c) → t.2 = τ.2 → Ev xs L mX0_unwindLast 71 [.ref B, .int (nI j), .int (nI i), .int (nI q)] [] GS t GS (fun v t => v = some (.int (nI s.2.1)) ∧ Bd t B (uwd P j i s) ∧ Fr σ t B) := by
    intro k
    induction k with
    | zero =>
      intro q t hq hi ha hc h2
      have eq : q = P.2.2.2.length := by omega
      subst eq
      have g5 : t.1 B 5 = nI P.2.2.2.length := by rw [hc B (by omega)]; exact f5
      refine xe_iload_n dX0_unwindLast_71 rfl ?_
      refine xe_aload_n dX0_unwindLast_72 rfl ?_
      refine e_getI dX0_unwindLast_73 fdX0_28 rfl (bd_k hB) g5 ?_
      refine xe_icmp_ge 99 dX0_unwindLast_76 (by decide) (fun _ => ?_) (fun c => absurd (nI_le (Nat.le_refl _) (by omega)) c)
      refine xe_aload_n dX0_unwindLast_99 rfl ?_
      refine xe_dup dX0_unwindLast_100 rfl ?_
      refine e_getI dX0_unwindLast_101 fdX0_28 rfl (bd_k hB) g5 ?_
      refine xe_iconst (v := nI 1) dX0_unwindLast_104 (by decide) ?_
      refine xe_isub dX0_unwindLast_105 ?_
      rw [pk_sub (by omega)]
      refine xe_putI dX0_unwindLast_106 fdX0_28 rfl (bd_k hB) ?_
      refine xe_aload_n dX0_unwindLast_109 rfl ?_
      refine e_getA dX0_unwindLast_110 fdX0_15 rfl (bd_k hB) (bd_r1 hB) ?_
      refine xe_iload_n dX0_unwindLast_113 rfl ?_
      refine e_iald dX0_unwindLast_114 (bd_k2 hB) (bd_n2 hB) (by omega) (by decide) (show _ = nI s.2.1 by rw [xpi_rd, if_neg (by omega), hc (B + 2) (by omega), ← hτ, xpi_rd, if_neg (by omega), xpi_rd, if_pos (by omega)]) ?_
      refine xe_iret dX0_unwindLast_115 rfl ⟨rfl, ⟨hok, ⟨?_, h4, fun u hu => ?_⟩, ⟨?_, hok.len, fun p u hu => ?_, fun u hu => (hok.2.2.1 u hu).2⟩, ?_⟩, ?_, ?_⟩
      · rw [xpi_rd, if_neg (by omega), hc B (by omega), ← hτ, xpi_rd, if_neg (by omega), xpi_rd, if_neg (by omega), xpi_rd, if_neg (by omega)]
        exact hth.1
      · obtain ⟨u1, u2, u3, u4, u5, u6⟩ := hth.2.2 u hu
        refine ⟨?_, ?_, ?_, (hok.2.1 u hu).1, (hok.2.1 u hu).2.1, (hok.2.1 u hu).2.2⟩
        · rw [xpi_rd, if_neg (by omega), hc (B + 1) (by omega), ← hτ, xpi_rd, if_neg (by omega), xpi_rd, if_neg (by omega), xpi_rd, if_neg (by omega)]
          exact u1
        · rw [xpi_rd, if_neg (by omega), hc (B + 2) (by omega), ← hτ, xpi_rd, if_neg (by omega)]
          show _ = nI (if u = j then s.2.1 else P.2.2.1 u)
          by_cases e : u = j
          · rw [if_pos e, xpi_rd, if_pos (by omega)]
          · rw [if_neg e, xpi_rd, if_neg (by omega), xpi_rd, if_neg (by omega)]
            exact u2
        · rw [xpi_rd, if_neg (by omega), hc (B + 3) (by omega), ← hτ]
          show _ = nI (cnt (P.2.2.2.eraseIdx i) u)
          have hcu := hcn u
          by_cases e : u = j
          · rw [if_pos e.symm] at hcu
            rw [xpi_rd, if_pos (by omega)]
            congr 1
            rw [e] at hcu ⊢
            omega
          · rw [if_neg (fun z => e z.symm)] at hcu
            rw [xpi_rd, if_neg (by omega), xpi_rd, if_neg (by omega), xpi_rd, if_neg (by omega), u3]
            congr 1
            omega
      · rw [xpi_rd, if_pos (by omega)]
        show _ = nI (P.2.2.2.eraseIdx i).length
        rw [List.length_eraseIdx_of_lt hil]
      · have hu : (P.2.2.2.eraseIdx i)[p]? = some u := hu
        rw [List.getElem?_eraseIdx] at hu
        rw [xpi_rd, if_neg (by omega), ha p]
        by_cases e : p < i
        · rw [if_pos e] at hu
          rw [if_neg (by omega)]
          exact hz.2.2.1 p u hu
        · rw [if_neg e] at hu
          rw [if_pos (by have := Ls.lt hu; omega)]
          exact hz.2.2.1 (p + 1) u hu
      · rw [xpi_rd, if_neg (by omega), hc B (by omega), ← hτ, xpi_rd, if_neg (by omega), xpi_rd, if_neg (by omega), xpi_rd, if_pos (by omega)]
        rfl
      · intro c hcc
        rw [xpi_ne _ _ _ (by omega), hc c (by omega), ← hτ, xpi_ne _ _ _ (by omega), xpi_ne _ _ _ (by omega), xpi_ne _ _ _ (by omega)]
      · show t.2 = σ.2
        rw [h2, ← hτ]
        rfl
    | succ k ih =>
      intro q t hq hi ha hc h2
      have g5 : t.1 B 5 = nI P.2.2.2.length := by rw [hc B (by omega)]; exact f5
      refine xe_iload_n dX0_unwindLast_71 rfl ?_
      refine xe_aload_n dX0_unwindLast_72 rfl ?_
      refine e_getI dX0_unwindLast_73 fdX0_28 rfl (bd_k hB) g5 ?_
      refine xe_icmp_ge 99 dX0_unwindLast_76 (by decide) (fun c => absurd c (nI_ge (by omega) (by omega))) (fun _ => ?_)
      refine xe_aload_n dX0_unwindLast_79 rfl ?_
      refine e_getA dX0_unwindLast_80 fdX0_21 rfl (bd_k hB) (bd_r3 hB) ?_
      refine xe_iload_n dX0_unwindLast_83 rfl ?_
      refine xe_iconst (v := nI 1) dX0_unwindLast_84 (by decide) ?_
      refine xe_isub dX0_unwindLast_85 ?_
      rw [pk_sub (by omega)]
      refine xe_aload_n dX0_unwindLast_86 rfl ?_
      refine e_getA dX0_unwindLast_87 fdX0_21 rfl (bd_k hB) (bd_r3 hB) ?_
      refine xe_iload_n dX0_unwindLast_90 rfl ?_
      refine e_iald dX0_unwindLast_91 (bd_k4 hB) (bd_n4 hB) (by omega) (by decide) rfl ?_
      refine e_iast dX0_unwindLast_92 (bd_k4 hB) (bd_n4 hB) (by omega) (by decide) ?_
      refine xe_inc dX0_unwindLast_93 rfl (by decide) ?_
      refine xe_goto 71 dX0_unwindLast_96 (by decide) ?_
      rw [nI_1]
      refine ih (q + 1) _ (by omega) (by omega) (fun p => ?_) (fun c hcc => (xpi_ne _ _ _ hcc).trans (hc c hcc)) h2
      rw [xpi_rd]
      by_cases e : p = q - 1
      · have e3 : p + 1 = q := by omega
        rw [if_pos ⟨rfl, e⟩, if_pos (by omega), ha q, if_neg (by omega), e3]
      · rw [if_neg (fun z => e z.2), ha p]
        by_cases e2 : i ≤ p ∧ p + 1 < q
        · rw [if_pos e2, if_pos (by omega)]
        · rw [if_neg e2, if_neg (by omega)]
  exact key (P.2.2.2.length - (i + 1)) (i + 1) τ (by omega) (Nat.le_refl _) (fun p => by rw [f4, if_neg (by omega)]) (fun _ _ => rfl) rfl
theorem E_cutOff (hB : IsBd B) (h : Bd σ B P) {j : Nat} (m1 : j < P.1) : Cl xs L mX0_cutOff [.ref B, .int (nI j)] GS σ GS (fun v t => v = some (.int (nI (cnt P.2.2.2 j))) ∧ Bd t B (cutP P j) ∧ Fr σ t B) := by
  show Ev xs L mX0_cutOff 0 [.ref B, .int (nI j), .null, .null, .null] [] GS σ GS _
  obtain ⟨hp, hth, hz, h6⟩ := id h
  have hok := cut_ok (j := j) hp
  have h4 := hth.2.1
  have h48 := hz.2.1
  have hcl : (P.2.2.2.filter (fun s => s.1 != j)).length + cnt P.2.2.2 j = P.2.2.2.length := by
    have := List.length_eq_countP_add_countP (fun s : xSt => s.1 == j) (l := P.2.2.2)
    rw [← List.countP_eq_length_filter]
    have e : P.2.2.2.countP (fun s : xSt => s.1 != j) = P.2.2.2.countP (fun s : xSt => decide ¬(s.1 == j) = true) := List.countP_congr (fun s _ => by simp)
    rw [e]
    unfold cnt
    omega
  -- the second loop
  have key2 : ∀ k i a (t : xS), i + k = (P.2.2.2.filter (fun s => s.1 != j)).length → a + crz ((P.2.2.2.filter (fun s => s.1 != j)).drop i) = crz (P.2.2.2.filter (fun s => s.1 != j)) → Ls t B (P.2.2.2.filter (fun s => s.1 != j)) → Th t B (cutP P j) → t.1 B 6 = nI a → Fr σ t B → ∀ w : Value, Ev xs L mX0_cutOff 79 [.ref B, .int (nI j), w, .int (nI (cnt P.2.2.2 j)), .int (nI i)] [] GS t GS (fun v t => v = some (.int (nI (cnt P.2.2.2 j))) ∧ Bd t B (cutP P j) ∧ Fr σ t B) := by
    intro k
    generalize hzf : P.2.2.2.filter (fun s => s.1 != j) = zf
    induction k with
    | zero =>
      intro i a t hi ha hl ht h6t hf w
      have e : i = zf.length := by omega
      subst e
      rw [List.drop_length] at ha
      have ha : a + 0 = crz zf := ha
      have g48 := hl.2.1
      refine xe_iload dX0_cutOff_79 rfl ?_
      refine xe_aload_n dX0_cutOff_81 rfl ?_
      refine e_getI dX0_cutOff_82 fdX0_28 rfl (bd_k hB) hl.1 ?_
      refine xe_icmp_ge 124 dX0_cutOff_85 (by decide) (fun _ => ?_) (fun c => absurd (nI_le (Nat.le_refl _) (by omega)) c)
      refine xe_iload_n dX0_cutOff_124 rfl ?_
      refine xe_iret dX0_cutOff_125 rfl ⟨rfl, ⟨hok, ht, ?_, ?_⟩, hf⟩
      · show Ls t B (P.2.2.2.filter (fun s => s.1 != j))
        rw [hzf]
        exact hl
      · show _ = nI (crz (P.2.2.2.filter (fun s => s.1 != j)))
        rw [hzf, h6t, ← ha]
        rfl
    | succ k ih =>
      intro i a t hi ha hl ht h6t hf w
      have g48 := hl.2.1
      have hil : i < zf.length := by omega
      have hs : zf[i]? = some zf[i] := List.getElem?_eq_getElem hil
      rw [List.drop_eq_getElem_cons hil] at ha
      generalize zf[i] = s at hs ha
      have ha : a + ((zf.drop (i + 1)).countP (crS s) + crz (zf.drop (i + 1))) = crz zf := ha
      obtain ⟨o1, o2, o3, o4⟩ := hl.so hs
      rw [countP_sym ⟨o1, o2, o3, o4⟩ (fun u hu => hl.2.2.2 u (List.mem_of_mem_drop hu))] at ha
      refine xe_iload dX0_cutOff_79 rfl ?_
      refine xe_aload_n dX0_cutOff_81 rfl ?_
      refine e_getI dX0_cutOff_82 fdX0_28 rfl (bd_k hB) hl.1 ?_
      refine xe_icmp_ge 124 dX0_cutOff_85 (by decide) (fun c => absurd c (nI_ge hil (by omega))) (fun _ => ?_)
      refine xe_aload_n dX0_cutOff_88 rfl ?_
      refine xe_dup dX0_cutOff_89 rfl ?_
      refine e_getI dX0_cutOff_90 fdX0_31 rfl (bd_k hB) h6t ?_
      refine xe_aload_n dX0_cutOff_93 rfl ?_
      refine xe_iload dX0_cutOff_94 rfl ?_
      refine xe_iconst (v := nI 1) dX0_cutOff_96 (by decide) ?_
      refine xe_iadd dX0_cutOff_97 ?_
      rw [nI_add]
      refine xe_iconst (v := -1) dX0_cutOff_98 (by decide) ?_
      refine xe_aload_n dX0_cutOff_99 rfl ?_
      refine xe_iload dX0_cutOff_100 rfl ?_
      refine e_callVp (E_fromAt hB hl hs) dX0_cutOff_102 kvX0_48 (bd_k hB) rfl ?_
      refine xe_aload_n dX0_cutOff_105 rfl ?_
      refine xe_iload dX0_cutOff_106 rfl ?_
      refine e_callVp (E_toAt hB hl hs) dX0_cutOff_108 kvX0_51 (bd_k hB) rfl ?_
      refine e_callVp (E_crossed hB hl (l := i + 1) (p := fun _ => true) (by omega) o2 o3 (Or.inl ⟨rfl, fun _ => rfl⟩)) dX0_cutOff_111 kvX0_67 (bd_k hB) rfl ?_
      refine xe_iadd dX0_cutOff_114 ?_
      rw [nI_add]
      refine xe_putI dX0_cutOff_115 fdX0_31 rfl (bd_k hB) ?_
      refine xe_inc dX0_cutOff_118 rfl (by decide) ?_
      refine xe_goto 79 dX0_cutOff_121 (by decide) ?_
      rw [nI_1]
      refine ih (i + 1) _ _ (by omega) (by show a + crA s.2.1 s.2.2.1 (zf.drop (i + 1)) + _ = _; omega) (hl.fr (by rw [xpi_rd, if_neg (by omega)]) (xpi_ne _ _ _ (by omega))) ?_ (by rw [xpi_rd, if_pos (by omega)]) (hf.pi _ _ (by omega) (by omega)) w
      obtain ⟨b1, b2, b3⟩ := ht
      refine ⟨by rw [xpi_rd, if_neg (by omega)]; exact b1, b2, fun u hu => ?_⟩
      rw [xpi_ne _ _ _ (by omega), xpi_ne _ _ _ (by omega), xpi_ne _ _ _ (by omega)]
      exact b3 u hu
  -- the first loop
  have key1 : ∀ k i (w : List xSt) (t : xS), i + k = P.2.2.2.length → w.length = P.2.2.2.length → (∀ p, i ≤ p → w[p]? = P.2.2.2[p]?) → (∀ p, p < ((P.2.2.2.take i).filter (fun s => s.1 != j)).length → w[p]? = ((P.2.2.2.take i).filter (fun s => s.1 != j))[p]?) → Ls t B w → (∀ c, c ≠ B + 4 → t.1 c = σ.1 c) → t.2 = σ.2 → ∀ v : Value, Ev xs L mX0_cutOff 14 [.ref B, .int (nI j), .int (nI ((P.2.2.2.take i).filter (fun s => s.1 != j)).length), .int (nI i), v] [] GS t GS (fun v t => v = some (.int (nI (cnt P.2.2.2 j))) ∧ Bd t B (cutP P j) ∧ Fr σ t B) := by
    intro k
    induction k with
    | zero =>
      intro i w t hi hwl hw1 hw2 hl hc h2 v
      have e : i = P.2.2.2.length := by omega
      subst e
      rw [List.take_length] at hw2 ⊢
      refine xe_iload_n dX0_cutOff_14 rfl ?_
      refine xe_aload_n dX0_cutOff_15 rfl ?_
      refine e_getI dX0_cutOff_16 fdX0_28 rfl (bd_k hB) hl.1 ?_
      refine xe_icmp_ge 52 dX0_cutOff_19 (by decide) (fun _ => ?_) (fun c => absurd (nI_le (by omega) (by omega)) c)
      refine xe_aload_n dX0_cutOff_52 rfl ?_
      refine e_getI dX0_cutOff_53 fdX0_28 rfl (bd_k hB) hl.1 ?_
      refine xe_iload_n dX0_cutOff_56 rfl ?_
      refine xe_isub dX0_cutOff_57 ?_
      rw [pk_sub (by omega), show w.length - (P.2.2.2.filter (fun s => s.1 != j)).length = cnt P.2.2.2 j by omega]
      refine xe_istore_n dX0_cutOff_58 (by decide) ?_
      refine xe_aload_n dX0_cutOff_59 rfl ?_
      refine xe_iload_n dX0_cutOff_60 rfl ?_
      refine xe_putI dX0_cutOff_61 fdX0_28 rfl (bd_k hB) ?_
      refine xe_aload_n dX0_cutOff_64 rfl ?_
      refine e_getA dX0_cutOff_65 fdX0_18 rfl (bd_k hB) (bd_r2 hB) ?_
      refine xe_iload_n dX0_cutOff_68 rfl ?_
      refine xe_iconst (v := nI 0) dX0_cutOff_69 (by decide) ?_
      refine e_iast dX0_cutOff_70 (bd_k3 hB) (bd_n3 hB) (by omega) (by decide) ?_
      refine xe_aload_n dX0_cutOff_71 rfl ?_
      refine xe_iconst (v := nI 0) dX0_cutOff_72 (by decide) ?_
      refine xe_putI dX0_cutOff_73 fdX0_31 rfl (bd_k hB) ?_
      refine xe_iconst (v := nI 0) dX0_cutOff_76 (by decide) ?_
      refine xe_istore dX0_cutOff_77 (by decide) ?_
      have hfr : Fr σ t B := ⟨fun c hcc => hc c (by omega), h2⟩
      refine key2 (P.2.2.2.filter (fun s => s.1 != j)).length 0 0 _ (by omega) (by rw [List.drop_zero, Nat.zero_add]) ⟨?_, by omega, fun p u hu => ?_, fun u hu => (hok.2.2.1 u hu).2⟩ ⟨?_, h4, fun u hu => ?_⟩ (by rw [xpi_rd, if_pos (by omega)]) ((((hfr.pi _ _ (by omega) (by omega)).pi _ _ (by omega) (by omega)).pi _ _ (by omega) (by omega))) _
      · rw [xpi_rd, if_neg (by omega), xpi_rd, if_neg (by omega), xpi_rd, if_pos (by omega)]
      · rw [xpi_rd, if_neg (by omega), xpi_rd, if_neg (by omega), xpi_rd, if_neg (by omega)]
        exact hl.2.2.1 p u ((hw2 p (Ls.lt hu)).trans hu)
      · rw [xpi_rd, if_neg (by omega), xpi_rd, if_neg (by omega), xpi_rd, if_neg (by omega), hc B (by omega)]
        exact hth.1
      · obtain ⟨u1, u2, u3, u4, u5, u6⟩ := hth.2.2 u hu
        refine ⟨?_, ?_, ?_, (hok.2.1 u hu).1, (hok.2.1 u hu).2.1, (hok.2.1 u hu).2.2⟩
        · rw [xpi_rd, if_neg (by omega), xpi_rd, if_neg (by omega), xpi_rd, if_neg (by omega), hc (B + 1) (by omega)]
          exact u1
        · rw [xpi_rd, if_neg (by omega), xpi_rd, if_neg (by omega), xpi_rd, if_neg (by omega), hc (B + 2) (by omega)]
          exact u2
        · show _ = nI (cnt (P.2.2.2.filter (fun s => s.1 != j)) u)
          rw [cnt_cut, xpi_rd, if_neg (by omega)]
          by_cases e : u = j
          · rw [if_pos e, xpi_rd, if_pos (by omega)]
          · rw [if_neg e, xpi_rd, if_neg (by omega), xpi_rd, if_neg (by omega), hc (B + 3) (by omega)]
            exact u3
    | succ k ih =>
      intro i w t hi hwl hw1 hw2 hl hc h2 v
      have hil : i < P.2.2.2.length := by omega
      have hs0 : P.2.2.2[i]? = some P.2.2.2[i] := List.getElem?_eq_getElem hil
      have hs : w[i]? = some P.2.2.2[i] := (hw1 i (Nat.le_refl _)).trans hs0
      have htk : (P.2.2.2.take (i + 1)).filter (fun s => s.1 != j) = (P.2.2.2.take i).filter (fun s => s.1 != j) ++ (if P.2.2.2[i].1 != j then [P.2.2.2[i]] else []) := by
        rw [List.take_succ_eq_append_getElem hil, List.filter_append, List.filter_cons]
        rfl
      generalize P.2.2.2[i] = s at hs hs0 htk
      have hle : ((P.2.2.2.take i).filter (fun s => s.1 != j)).length ≤ i := by
        have := List.length_filter_le (fun s : xSt => s.1 != j) (P.2.2.2.take i)
        rw [List.length_take] at this
        omega
      obtain ⟨o1, o2, o3, o4⟩ := hl.so hs
      refine xe_iload_n dX0_cutOff_14 rfl ?_
      refine xe_aload_n dX0_cutOff_15 rfl ?_
      refine e_getI dX0_cutOff_16 fdX0_28 rfl (bd_k hB) hl.1 ?_
      refine xe_icmp_ge 52 dX0_cutOff_19 (by decide) (fun c => absurd c (nI_ge (by omega) (by omega))) (fun _ => ?_)
      refine xe_aload_n dX0_cutOff_22 rfl ?_
      refine xe_iload_n dX0_cutOff_23 rfl ?_
      refine e_callVp (E_threadAt hB hl hs) dX0_cutOff_24 kvX0_44 (bd_k hB) rfl ?_
      refine xe_iload_n dX0_cutOff_27 rfl ?_
      refine xn_icmp_eq 46 dX0_cutOff_28 (by decide) (by omega) (by omega) (fun c28 => ?_) (fun c28 => ?_)
      · have ef : (P.2.2.2.take (i + 1)).filter (fun s => s.1 != j) = (P.2.2.2.take i).filter (fun s => s.1 != j) := by rw [htk, if_neg (by simp [c28]), List.append_nil]
        have k := ih (i + 1) w t (by omega) hwl (fun p hp => hw1 p (by omega)) (by rw [ef]; exact hw2) hl hc h2 v
        rw [ef] at k
        refine xe_inc dX0_cutOff_46 rfl (by decide) ?_
        refine xe_goto 14 dX0_cutOff_49 (by decide) ?_
        rw [nI_1]
        exact k
      · have ef : (P.2.2.2.take (i + 1)).filter (fun s => s.1 != j) = (P.2.2.2.take i).filter (fun s => s.1 != j) ++ [s] := by rw [htk, if_pos (by simp [c28])]
        generalize hl0 : ((P.2.2.2.take i).filter (fun s => s.1 != j)).length = l0 at hle hw2 ⊢
        refine xe_aload_n dX0_cutOff_31 rfl ?_
        refine e_getA dX0_cutOff_32 fdX0_21 rfl (bd_k hB) (bd_r3 hB) ?_
        refine xe_iload_n dX0_cutOff_35 rfl ?_
        refine xe_aload_n dX0_cutOff_36 rfl ?_
        refine e_getA dX0_cutOff_37 fdX0_21 rfl (bd_k hB) (bd_r3 hB) ?_
        refine xe_iload_n dX0_cutOff_40 rfl ?_
        refine e_iald dX0_cutOff_41 (bd_k4 hB) (bd_n4 hB) (by omega) (by decide) (hl.2.2.1 i s hs) ?_
        refine e_iast dX0_cutOff_42 (bd_k4 hB) (bd_n4 hB) (by omega) (by decide) ?_
        refine xe_inc dX0_cutOff_43 rfl (by decide) ?_
        refine xe_inc dX0_cutOff_46 rfl (by decide) ?_
        refine xe_goto 14 dX0_cutOff_49 (by decide) ?_
        rw [nI_1, nI_1]
        have k := ih (i + 1) (w.set l0 s) (xpi t (B + 4) l0 (nI (pkC s))) (by omega) (by rw [List.length_set]; exact hwl) (fun p hp => by rw [List.getElem?_set_ne (by omega)]; exact hw1 p (by omega)) (fun p hp => ?_) (hl.set (by omega) ⟨o1, o2, o3, o4⟩) (fun c hcc => (xpi_ne _ _ _ hcc).trans (hc c hcc)) h2 v
        · rw [ef, List.length_append, hl0] at k
          exact k
        · rw [ef] at hp ⊢
          rw [List.length_append, hl0] at hp
          have hp : p < l0 + 1 := hp
          by_cases e : p = l0
          · subst e
            rw [List.getElem?_set_self (by omega), List.getElem?_append_right (by omega), hl0, Nat.sub_self]
            rfl
          · rw [List.getElem?_set_ne (Ne.symm e), List.getElem?_append_left (by omega)]
            exact hw2 p (by omega)
  refine xe_aload_n dX0_cutOff_0 rfl ?_
  refine xe_iload_n dX0_cutOff_1 rfl ?_
  refine e_callVp (E_hasThreadN hB hth (by omega)) dX0_cutOff_2 kvX0_40 (bd_k hB) rfl ?_
  refine xe_if_ne 10 dX0_cutOff_5 (by decide) (fun _ => ?_) (fun c => absurd c (by rw [decide_eq_true m1]; decide))
  refine xe_iconst (v := nI 0) dX0_cutOff_10 (by decide) ?_
  refine xe_istore_n dX0_cutOff_11 (by decide) ?_
  refine xe_iconst (v := nI 0) dX0_cutOff_12 (by decide) ?_
  refine xe_istore_n dX0_cutOff_13 (by decide) ?_
  exact key1 P.2.2.2.length 0 P.2.2.2 σ (by omega) rfl (fun _ _ => rfl) (fun p hp => absurd hp (Nat.not_lt_zero _)) hz (fun _ _ => rfl) rfl .null
end A2
