/-! lines on the board -/
theorem nI_or (a b : Nat) : nI a ||| nI b = nI (a ||| b) := by
  show Int32.ofNat a ||| Int32.ofNat b = Int32.ofNat (a ||| b)
  apply Int32.toBitVec_inj.mp
  simp [BitVec.ofNat_or]
theorem sh_all : ∀ k, k < 32 → ((nI k &&& 31).toBitVec.smod 32).toNat = k := by decide +kernel
theorem bit_shr {m k : Nat} (hm : m < 2 ^ 31) (hk : k < 32) : nI m >>> (nI k &&& 31) = nI (m / 2 ^ k) := pk_shrN hm _ k (sh_all k hk)
theorem bit_n {m k : Nat} (hm : m < 2 ^ 31) (hk : k < 32) : nI m >>> (nI k &&& 31) &&& nI 1 = nI (if m.testBit k then 1 else 0) := by
  have h1 : m / 2 ^ k ≤ m := Nat.div_le_self _ _
  rw [bit_shr hm hk, pk_andN (by omega) 1 (by decide), Nat.testBit_eq_decide_div_mod_eq]
  congr 1
  rcases Nat.mod_two_eq_zero_or_one (m / 2 ^ k) with e | e
  · rw [show (2 : Nat) ^ 1 = 2 by rfl, e]; simp
  · rw [show (2 : Nat) ^ 1 = 2 by rfl, e]; simp
theorem bit_shl {k : Nat} (hk : k < 31) : nI 1 <<< (nI k &&& 31) = nI (2 ^ k) := by
  have : 2 ^ k < 2 ^ 31 := Nat.pow_lt_pow_right (by decide) hk
  rw [pk_shlN _ k (sh_all k (by omega)) (by omega), Nat.one_mul]
/-- how many bits -/
def pcf : Nat → Nat → Nat
  | 0, _ => 0
  | k + 1, m => m % 2 + pcf k (m / 2)
def pc (m : Nat) : Nat := pcf 12 m
theorem pcf_le : ∀ k m, pcf k m ≤ k
  | 0, _ => Nat.le_refl _
  | k + 1, m => by
    have := pcf_le k (m / 2)
    show m % 2 + pcf k (m / 2) ≤ k + 1
    omega
theorem pc_le (m : Nat) : pc m ≤ 12 := pcf_le 12 m
/-- nails to which lines go from a nail, as bits -/
def jst (J : Nat → Nat) (s : xSt) (a : Nat) : Nat := if a = s.2.2.1 then (if a = s.2.1 then J a ||| 2 ^ s.2.2.1 else J a) ||| 2 ^ s.2.1 else (if a = s.2.1 then J a ||| 2 ^ s.2.2.1 else J a)
def jm (z : List xSt) : Nat → Nat := z.foldl jst (fun _ => 0)
theorem two12 {k : Nat} (h : k < 12) : 2 ^ k < 2 ^ 12 := Nat.pow_lt_pow_right (by decide) h
theorem jst_lt {J : Nat → Nat} {s : xSt} (h : ∀ a, J a < 2 ^ 12) (h1 : s.2.1 < 12) (h2 : s.2.2.1 < 12) (a : Nat) : jst J s a < 2 ^ 12 := by
  unfold jst
  have q1 := two12 h1
  have q2 := two12 h2
  split <;> split <;> first
    | exact Nat.or_lt_two_pow (Nat.or_lt_two_pow (h a) q2) q1
    | exact Nat.or_lt_two_pow (h a) q2
    | exact Nat.or_lt_two_pow (h a) q1
    | exact h a
theorem jmf_lt : ∀ (z : List xSt) (J : Nat → Nat), (∀ a, J a < 2 ^ 12) → (∀ s ∈ z, SO s) → ∀ a, z.foldl jst J a < 2 ^ 12
  | [], _, h, _, a => h a
  | s :: r, J, h, hz, a => jmf_lt r (jst J s) (fun a => jst_lt h (hz s (List.mem_cons_self ..)).2.1 (hz s (List.mem_cons_self ..)).2.2.1 a) (fun u hu => hz u (List.mem_cons_of_mem _ hu)) a
theorem jm_lt {z : List xSt} (hz : ∀ s ∈ z, SO s) (a : Nat) : jm z a < 2 ^ 12 := jmf_lt z _ (fun _ => by decide) hz a
def Wb (σ : xS) (J : Nat → Nat) : Prop := (∀ a, J a < 2 ^ 12) ∧ ∀ a, a < 12 → σ.1 104 a = nI (J a)
def FW (σ t : xS) : Prop := (∀ c, c ≠ 104 → t.1 c = σ.1 c) ∧ t.2 = σ.2
theorem FW.rf (σ : xS) : FW σ σ := ⟨fun _ _ => rfl, rfl⟩
theorem FW.tr {σ t u : xS} (h1 : FW σ t) (h2 : FW t u) : FW σ u := ⟨fun c hc => (h2.1 c hc).trans (h1.1 c hc), h2.2.trans h1.2⟩
theorem FW.pi {σ t : xS} (k : Nat) (x : Int32) (h : FW σ t) : FW σ (xpi t 104 k x) := ⟨fun c hc => (xpi_ne t k x hc).trans (h.1 c hc), h.2⟩
theorem Ls.fw {σ t : xS} {B : Nat} {z : List xSt} (hB : IsBd B) (h : Ls σ B z) (f : FW σ t) : Ls t B z := by
  have := bd_lo hB
  exact h.fr (by rw [f.1 B (by omega)]) (by rw [f.1 (B + 4) (by omega)])
theorem Bd.fw {σ t : xS} {B : Nat} {P : xP} (hB : IsBd B) (h : Bd σ B P) (f : FW σ t) : Bd t B P := by
  have := bd_lo hB
  obtain ⟨h1, ⟨a1, a2, a3⟩, hz, h4⟩ := h
  refine ⟨h1, ⟨?_, a2, fun y hy => ?_⟩, hz.fw hB f, ?_⟩
  · rw [f.1 B (by omega)]; exact a1
  · rw [f.1 (B + 1) (by omega), f.1 (B + 2) (by omega), f.1 (B + 3) (by omega)]; exact a3 y hy
  · rw [f.1 B (by omega)]; exact h4
def cup (J : Nat → Nat) (a b : Nat) : Nat := foldN (fun c w => c + pc (J w / 2 ^ (b + 1))) (a + 1) (b - (a + 1)) 0
def prI (J : Nat → Nat) (a : Nat) (c : Nat) (b : Nat) : Nat := if (J a).testBit b then c + (1 + cup J a b) else c
def prO (J : Nat → Nat) (c : Nat) (a : Nat) : Nat := foldN (prI J a) (a + 1) (11 - a) c
def prt (J : Nat → Nat) : Nat := foldN (prO J) 0 12 1
def grI (J : Nat → Nat) (g n : Nat) : Nat := if g.testBit n then g ||| J n else g
def grO (J : Nat → Nat) (g _n : Nat) : Nat := foldN (grI J) 0 12 g
def grp (J : Nat → Nat) (a : Nat) : Nat := foldN (grO J) 0 12 (2 ^ a)
def odI (J : Nat → Nat) (g c n : Nat) : Nat := if g.testBit n then c + pc (J n) % 2 else c
def odd (J : Nat → Nat) (g : Nat) : Nat := foldN (odI J g) 0 12 0
def stS (J : Nat → Nat) (q : Nat × Nat) (n : Nat) : Nat × Nat := if J n ≠ 0 ∧ q.2.testBit n = false then (q.1 + max 1 (odd J (grp J n) / 2), q.2 ||| grp J n) else q
def stk (J : Nat → Nat) : Nat := (foldN (stS J) 0 12 (0, 0)).1
theorem foldN_le {f : Nat → Nat → Nat} {d : Nat} (h : ∀ a i, f a i ≤ a + d) : ∀ k i a, foldN f i k a ≤ a + d * k := by
  intro k
  induction k with
  | zero => intro i a; exact Nat.le_add_right _ _
  | succ k ih =>
    intro i a
    have h1 := ih (i + 1) (f a i)
    have h2 := h a i
    show foldN f (i + 1) k (f a i) ≤ _
    rw [Nat.mul_succ]
    omega
theorem cup_le (J : Nat → Nat) {a b : Nat} (hb : b ≤ 12) : cup J a b ≤ 144 := by
  have := foldN_le (f := fun c w => c + pc (J w / 2 ^ (b + 1))) (d := 12) (fun c w => by have := pc_le (J w / 2 ^ (b + 1)); show c + _ ≤ _; omega) (b - (a + 1)) (a + 1) 0
  unfold cup
  omega
theorem odd_le (J : Nat → Nat) (g : Nat) : odd J g ≤ 12 := by
  have := foldN_le (f := odI J g) (d := 1) (fun c n => by unfold odI; split <;> omega) 12 0 0
  unfold odd
  omega
theorem grI_lt {J : Nat → Nat} (h : ∀ a, J a < 2 ^ 12) {g : Nat} (hg : g < 2 ^ 12) (n : Nat) : grI J g n < 2 ^ 12 := by
  unfold grI
  split
  · exact Nat.or_lt_two_pow hg (h n)
  · exact hg
theorem grO_lt {J : Nat → Nat} (h : ∀ a, J a < 2 ^ 12) {g : Nat} (hg : g < 2 ^ 12) (n : Nat) : grO J g n < 2 ^ 12 := foldN_inv (fun g => g < 2 ^ 12) (fun g n hg => grI_lt h hg n) 12 0 g hg
theorem grp_lt {J : Nat → Nat} (h : ∀ a, J a < 2 ^ 12) {a : Nat} (ha : a < 12) : grp J a < 2 ^ 12 := foldN_inv (fun g => g < 2 ^ 12) (fun g n hg => grO_lt h hg n) 12 0 _ (two12 ha)
section WB
variable {xs : Nat → Int32} {L : Nat} {σ : xS} {B : Nat} {z : List xSt} {J : Nat → Nat} {G : xG}
def bcE (x : Int32) : Int32 :=
  let x1 := x - ((x.toUInt32 >>> ((nI 1).toUInt32 &&& Int32.toUInt32 31)).toInt32 &&& 1431655765)
  let x2 := (x1 &&& 858993459) + ((x1.toUInt32 >>> ((nI 2).toUInt32 &&& Int32.toUInt32 31)).toInt32 &&& 858993459)
  let x3 := (x2 + (x2.toUInt32 >>> ((nI 4).toUInt32 &&& Int32.toUInt32 31)).toInt32) &&& 252645135
  let x4 := x3 + (x3.toUInt32 >>> ((nI 8).toUInt32 &&& Int32.toUInt32 31)).toInt32
  let x5 := x4 + (x4.toUInt32 >>> ((nI 16).toUInt32 &&& Int32.toUInt32 31)).toInt32
  x5 &&& nI 63
theorem bcE_a : ∀ a, a < 64 → ∀ b, b < 64 → bcE (nI (64 * a + b)) = nI (pc (64 * a + b)) := by decide +kernel
theorem bcE_all (m : Nat) (h : m < 4096) : bcE (nI m) = nI (pc m) := by
  have := bcE_a (m / 64) (by omega) (m % 64) (by omega)
  rwa [Nat.div_add_mod] at this
theorem E_bc {x : Int32} : Cl xs L mJ6_bitCount_0f7a4 [.int x] G σ G (pI σ (bcE x)) := by
  show Ev xs L mJ6_bitCount_0f7a4 0 [.int x] [] G σ G _
  refine xe_iload_n dJ6_bitCount_0f7a4_0 rfl ?_
  refine xe_iload_n dJ6_bitCount_0f7a4_1 rfl ?_
  refine xe_iconst (v := nI 1) dJ6_bitCount_0f7a4_2 (by decide) ?_
  refine xe_iushr dJ6_bitCount_0f7a4_3 ?_
  refine xe_ldcw dJ6_bitCount_0f7a4_4 gw546 ?_
  refine xe_iand dJ6_bitCount_0f7a4_7 ?_
  refine xe_isub dJ6_bitCount_0f7a4_8 ?_
  refine xe_istore_n dJ6_bitCount_0f7a4_9 (by decide) ?_
  refine xe_iload_n dJ6_bitCount_0f7a4_10 rfl ?_
  refine xe_ldcw dJ6_bitCount_0f7a4_11 gw547 ?_
  refine xe_iand dJ6_bitCount_0f7a4_14 ?_
  refine xe_iload_n dJ6_bitCount_0f7a4_15 rfl ?_
  refine xe_iconst (v := nI 2) dJ6_bitCount_0f7a4_16 (by decide) ?_
  refine xe_iushr dJ6_bitCount_0f7a4_17 ?_
  refine xe_ldcw dJ6_bitCount_0f7a4_18 gw547 ?_
  refine xe_iand dJ6_bitCount_0f7a4_21 ?_
  refine xe_iadd dJ6_bitCount_0f7a4_22 ?_
  refine xe_istore_n dJ6_bitCount_0f7a4_23 (by decide) ?_
  refine xe_iload_n dJ6_bitCount_0f7a4_24 rfl ?_
  refine xe_iload_n dJ6_bitCount_0f7a4_25 rfl ?_
  refine xe_iconst (v := nI 4) dJ6_bitCount_0f7a4_26 (by decide) ?_
  refine xe_iushr dJ6_bitCount_0f7a4_27 ?_
  refine xe_iadd dJ6_bitCount_0f7a4_28 ?_
  refine xe_ldcw dJ6_bitCount_0f7a4_29 gw548 ?_
  refine xe_iand dJ6_bitCount_0f7a4_32 ?_
  refine xe_istore_n dJ6_bitCount_0f7a4_33 (by decide) ?_
  refine xe_iload_n dJ6_bitCount_0f7a4_34 rfl ?_
  refine xe_iload_n dJ6_bitCount_0f7a4_35 rfl ?_
  refine xe_bipush (v := nI 8) dJ6_bitCount_0f7a4_36 (by decide) ?_
  refine xe_iushr dJ6_bitCount_0f7a4_38 ?_
  refine xe_iadd dJ6_bitCount_0f7a4_39 ?_
  refine xe_istore_n dJ6_bitCount_0f7a4_40 (by decide) ?_
  refine xe_iload_n dJ6_bitCount_0f7a4_41 rfl ?_
  refine xe_iload_n dJ6_bitCount_0f7a4_42 rfl ?_
  refine xe_bipush (v := nI 16) dJ6_bitCount_0f7a4_43 (by decide) ?_
  refine xe_iushr dJ6_bitCount_0f7a4_45 ?_
  refine xe_iadd dJ6_bitCount_0f7a4_46 ?_
  refine xe_istore_n dJ6_bitCount_0f7a4_47 (by decide) ?_
  refine xe_iload_n dJ6_bitCount_0f7a4_48 rfl ?_
  refine xe_bipush (v := nI 63) dJ6_bitCount_0f7a4_49 (by decide) ?_
  refine xe_iand dJ6_bitCount_0f7a4_51 ?_
  exact e_iret dJ6_bitCount_0f7a4_52 rfl rfl
theorem E_bitCount {m : Nat} (hm : m < 2 ^ 12) : Cl xs L mJ6_bitCount_0f7a4 [.int (nI m)] G σ G (pI σ (nI (pc m))) := by
  rw [← bcE_all m hm]
  exact E_bc
theorem E_join (h : Wb σ J) {s : xSt} (h1 : s.2.1 < 12) (h2 : s.2.2.1 < 12) : Cl xs L mX9_join [.ref 103, .int (nI s.2.1), .int (nI s.2.2.1)] GS σ GS (fun v t => v = none ∧ Wb t (jst J s) ∧ FW σ t) := by
  show Ev xs L mX9_join 0 [.ref 103, .int (nI s.2.1), .int (nI s.2.2.1)] [] GS σ GS _
  refine xe_iload_n dX9_join_0 rfl ?_
  refine xe_iconst (v := nI 0) dX9_join_1 (by decide) ?_
  refine xe_bipush (v := nI 11) dX9_join_2 (by decide) ?_
  refine e_callSp (E_isOutside) dX9_join_4 ksX9_32 rfl ?_
  rw [out_n (by omega) (by omega)]
  refine xe_if_ne 44 dX9_join_7 (by decide) (fun c => absurd c (by rw [decide_eq_true (show s.2.1 ≤ 11 by omega)]; decide)) (fun _ => ?_)
  refine xe_iload_n dX9_join_10 rfl ?_
  refine xe_iconst (v := nI 0) dX9_join_11 (by decide) ?_
  refine xe_bipush (v := nI 11) dX9_join_12 (by decide) ?_
  refine e_callSp (E_isOutside) dX9_join_14 ksX9_32 rfl ?_
  rw [out_n (by omega) (by omega)]
  refine xe_if_ne 44 dX9_join_17 (by decide) (fun c => absurd c (by rw [decide_eq_true (show s.2.2.1 ≤ 11 by omega)]; decide)) (fun _ => ?_)
  refine xe_aload_n dX9_join_20 rfl ?_
  refine e_getA (G := GS) (r := 103) dX9_join_21 fdX9_9 rfl gk_103 gr_103_0 ?_
  refine xe_iload_n dX9_join_24 rfl ?_
  refine xe_dup2 dX9_join_25 rfl rfl ?_
  refine e_iald (G := GS) (a := 104) dX9_join_26 gk_104 gn_104 h1 (by decide) (h.2 _ h1) ?_
  refine xe_iconst (v := nI 1) dX9_join_27 (by decide) ?_
  refine xe_iload_n dX9_join_28 rfl ?_
  refine xe_ishl dX9_join_29 ?_
  rw [bit_shl (by omega)]
  refine xe_ior dX9_join_30 ?_
  rw [nI_or]
  have e : ∀ b, b < 12 → (xpi σ 104 s.2.1 (nI (J s.2.1 ||| 2 ^ s.2.2.1))).1 104 b = nI (if b = s.2.1 then J b ||| 2 ^ s.2.2.1 else J b) := by
    intro b hb
    by_cases q : b = s.2.1
    · rw [xpi_rd, if_pos (by omega), if_pos q, q]
    · rw [xpi_rd, if_neg (by omega), if_neg q]
      exact h.2 b hb
  refine e_iast (G := GS) (a := 104) dX9_join_31 gk_104 gn_104 h1 (by decide) ?_
  refine xe_aload_n dX9_join_32 rfl ?_
  refine e_getA (G := GS) (r := 103) dX9_join_33 fdX9_9 rfl gk_103 gr_103_0 ?_
  refine xe_iload_n dX9_join_36 rfl ?_
  refine xe_dup2 dX9_join_37 rfl rfl ?_
  refine e_iald (G := GS) (a := 104) dX9_join_38 gk_104 gn_104 h2 (by decide) (e _ h2) ?_
  refine xe_iconst (v := nI 1) dX9_join_39 (by decide) ?_
  refine xe_iload_n dX9_join_40 rfl ?_
  refine xe_ishl dX9_join_41 ?_
  rw [bit_shl (by omega)]
  refine xe_ior dX9_join_42 ?_
  rw [nI_or]
  refine e_iast (G := GS) (a := 104) dX9_join_43 gk_104 gn_104 h2 (by decide) ?_
  refine xe_vret dX9_join_44 rfl ⟨rfl, ⟨fun a => jst_lt h.1 h1 h2 a, fun b hb => ?_⟩, ((FW.rf σ).pi _ _).pi _ _⟩
  unfold jst
  by_cases q : b = s.2.2.1
  · rw [xpi_rd, if_pos (by omega), if_pos q, q]
  · rw [xpi_rd, if_neg (fun z => q z.2), if_neg q]
    exact e b hb
theorem E_draw (hB : IsBd B) (hz : Ls σ B z) : Cl xs L mX9_draw [.ref 103, .ref B] GS σ GS (fun v t => v = none ∧ Wb t (jm z) ∧ FW σ t) := by
  show Ev xs L mX9_draw 0 [.ref 103, .ref B, .null] [] GS σ GS _
  have h48 := hz.2.1
  have key2 : ∀ k i (t : xS), i + k = z.length → Wb t (jm (z.take i)) → FW σ t → Ev xs L mX9_draw 23 [.ref 103, .ref B, .int (nI i)] [] GS t GS (fun v t => v = none ∧ Wb t (jm z) ∧ FW σ t) := by
    intro k
    induction k with
    | zero =>
      intro i t hi hw hf
      have e : i = z.length := by omega
      subst e
      rw [List.take_length] at hw
      refine xe_iload_n dX9_draw_23 rfl ?_
      refine xe_aload_n dX9_draw_24 rfl ?_
      refine e_callVp (E_size hB (hz.fw hB hf)) dX9_draw_25 kvX9_15 (bd_k hB) rfl ?_
      refine xe_icmp_ge 51 dX9_draw_28 (by decide) (fun _ => ?_) (fun c => absurd (nI_le (Nat.le_refl _) (by omega)) c)
      exact xe_vret dX9_draw_51 rfl ⟨rfl, hw, hf⟩
    | succ k ih =>
      intro i t hi hw hf
      have hl : i < z.length := by omega
      have hs : z[i]? = some z[i] := List.getElem?_eq_getElem hl
      have ht : jm (z.take (i + 1)) = jst (jm (z.take i)) z[i] := by
        unfold jm
        rw [List.take_succ_eq_append_getElem hl, List.foldl_append]
        rfl
      generalize z[i] = s at hs ht
      obtain ⟨o1, o2, o3, o4⟩ := hz.so hs
      refine xe_iload_n dX9_draw_23 rfl ?_
      refine xe_aload_n dX9_draw_24 rfl ?_
      refine e_callVp (E_size hB (hz.fw hB hf)) dX9_draw_25 kvX9_15 (bd_k hB) rfl ?_
      refine xe_icmp_ge 51 dX9_draw_28 (by decide) (fun c => absurd c (nI_ge hl (by omega))) (fun _ => ?_)
      refine xe_aload_n dX9_draw_31 rfl ?_
      refine xe_aload_n dX9_draw_32 rfl ?_
      refine xe_iload_n dX9_draw_33 rfl ?_
      refine e_callVp (E_fromAt hB (hz.fw hB hf) hs) dX9_draw_34 kvX9_21 (bd_k hB) rfl ?_
      refine xe_aload_n dX9_draw_37 rfl ?_
      refine xe_iload_n dX9_draw_38 rfl ?_
      refine e_callVp (E_toAt hB (hz.fw hB hf) hs) dX9_draw_39 kvX9_25 (bd_k hB) rfl ?_
      refine e_callV (G := GS) (r := 103) (E_join hw o2 o3) dX9_draw_42 kvX9_28 gk_103 rfl ?_
      rintro v u ⟨rfl, hu, hfu⟩
      refine xe_inc dX9_draw_45 rfl (by decide) ?_
      refine xe_goto 23 dX9_draw_48 (by decide) ?_
      rw [nI_1]
      rw [← ht] at hu
      exact ih (i + 1) u (by omega) hu (hf.tr hfu)
  have key1 : ∀ k i (t : xS), i + k = 12 → (∀ a, a < i → t.1 104 a = nI 0) → FW σ t → Ev xs L mX9_draw 2 [.ref 103, .ref B, .int (nI i)] [] GS t GS (fun v t => v = none ∧ Wb t (jm z) ∧ FW σ t) := by
    intro k
    induction k with
    | zero =>
      intro i t hi hw hf
      have e : i = 12 := by omega
      subst e
      refine xe_iload_n dX9_draw_2 rfl ?_
      refine xe_bipush (v := nI 12) dX9_draw_3 (by decide) ?_
      refine xe_icmp_ge 21 dX9_draw_5 (by decide) (fun _ => ?_) (fun c => absurd (by decide) c)
      refine xe_iconst (v := nI 0) dX9_draw_21 (by decide) ?_
      refine xe_istore_n dX9_draw_22 (by decide) ?_
      exact key2 z.length 0 t (by omega) ⟨fun a => by show (0 : Nat) < 2 ^ 12; decide, fun a ha => hw a ha⟩ hf
    | succ k ih =>
      intro i t hi hw hf
      refine xe_iload_n dX9_draw_2 rfl ?_
      refine xe_bipush (v := nI 12) dX9_draw_3 (by decide) ?_
      refine xe_icmp_ge 21 dX9_draw_5 (by decide) (fun c => absurd c (nI_ge (by omega) (by omega))) (fun _ => ?_)
      refine xe_aload_n dX9_draw_8 rfl ?_
      refine e_getA (G := GS) (r := 103) dX9_draw_9 fdX9_9 rfl gk_103 gr_103_0 ?_
      refine xe_iload_n dX9_draw_12 rfl ?_
      refine xe_iconst (v := nI 0) dX9_draw_13 (by decide) ?_
      refine e_iast (G := GS) (a := 104) dX9_draw_14 gk_104 gn_104 (by omega) (by decide) ?_
      refine xe_inc dX9_draw_15 rfl (by decide) ?_
      refine xe_goto 2 dX9_draw_18 (by decide) ?_
      rw [nI_1]
      refine ih (i + 1) _ (by omega) (fun a ha => ?_) (hf.pi _ _)
      by_cases q : a = i
      · rw [xpi_rd, if_pos (by omega)]
      · rw [xpi_rd, if_neg (by omega)]
        exact hw a (by omega)
  refine xe_iconst (v := nI 0) dX9_draw_0 (by decide) ?_
  refine xe_istore_n dX9_draw_1 (by decide) ?_
  exact key1 12 0 σ (by omega) (fun a ha => absurd ha (Nat.not_lt_zero _)) (FW.rf σ)
theorem E_areJoined (h : Wb σ J) {a b : Nat} (ha : a < 12) (hb : b < 12) : Cl xs L mX9_areJoined [.ref 103, .int (nI a), .int (nI b)] GS σ GS (pI σ (bI ((J a).testBit b))) := by
  show Ev xs L mX9_areJoined 0 [.ref 103, .int (nI a), .int (nI b)] [] GS σ GS _
  have := h.1 a
  refine xe_aload_n dX9_areJoined_0 rfl ?_
  refine e_getA (G := GS) (r := 103) dX9_areJoined_1 fdX9_9 rfl gk_103 gr_103_0 ?_
  refine xe_iload_n dX9_areJoined_4 rfl ?_
  refine e_iald (G := GS) (a := 104) dX9_areJoined_5 gk_104 gn_104 ha (by decide) (h.2 a ha) ?_
  refine xe_iload_n dX9_areJoined_6 rfl ?_
  refine xe_ishr dX9_areJoined_7 ?_
  refine xe_iconst (v := nI 1) dX9_areJoined_8 (by decide) ?_
  refine xe_iand dX9_areJoined_9 ?_
  rw [bit_n (by omega) (by omega)]
  refine xe_iconst (v := nI 1) dX9_areJoined_10 (by decide) ?_
  cases hc : (J a).testBit b with
  | false =>
    refine xe_icmp_ne 18 dX9_areJoined_11 (by decide) (fun _ => ?_) (fun c => absurd c (by decide))
    refine xe_iconst (v := nI 0) dX9_areJoined_18 (by decide) ?_
    exact e_zret dX9_areJoined_19 rfl rfl
  | true =>
    refine xe_icmp_ne 18 dX9_areJoined_11 (by decide) (fun c => absurd c (fun q => q rfl)) (fun _ => ?_)
    refine xe_iconst (v := nI 1) dX9_areJoined_14 (by decide) ?_
    refine xe_goto 19 dX9_areJoined_15 (by decide) ?_
    exact e_zret dX9_areJoined_19 rfl rfl
theorem E_crossedUpwards (h : Wb σ J) {a b : Nat} (hab : a < b) (hb : b < 12) : Cl xs L mX9_crossedUpwards [.ref 103, .int (nI a), .int (nI b)] GS σ GS (pI σ (nI (cup J a b))) := by
  show Ev xs L mX9_crossedUpwards 0 [.ref 103, .int (nI a), .int (nI b), .null, .null] [] GS σ GS _
  have key := goN b (fun c w => c + pc (J w / 2 ^ (b + 1))) (fun i c => Ev xs L mX9_crossedUpwards 7 [.ref 103, .int (nI a), .int (nI b), .int (nI c), .int (nI i)] [] GS σ GS (pI σ (nI (cup J a b)))) (cup J a b) (by
      refine xe_iload dX9_crossedUpwards_7 rfl ?_
      refine xe_iload_n dX9_crossedUpwards_9 rfl ?_
      refine xe_icmp_ge 36 dX9_crossedUpwards_10 (by decide) (fun _ => ?_) (fun c => absurd (nI_le (Nat.le_refl _) (by omega)) c)
      refine xe_iload_n dX9_crossedUpwards_36 rfl ?_
      exact e_iret dX9_crossedUpwards_37 rfl rfl) (by
      intro i c hi k
      have hJ := h.1 i
      have hd : J i / 2 ^ (b + 1) ≤ J i := Nat.div_le_self _ _
      refine xe_iload dX9_crossedUpwards_7 rfl ?_
      refine xe_iload_n dX9_crossedUpwards_9 rfl ?_
      refine xe_icmp_ge 36 dX9_crossedUpwards_10 (by decide) (fun c => absurd c (nI_ge hi (by omega))) (fun _ => ?_)
      refine xe_iload_n dX9_crossedUpwards_13 rfl ?_
      refine xe_aload_n dX9_crossedUpwards_14 rfl ?_
      refine e_getA (G := GS) (r := 103) dX9_crossedUpwards_15 fdX9_9 rfl gk_103 gr_103_0 ?_
      refine xe_iload dX9_crossedUpwards_18 rfl ?_
      refine e_iald (G := GS) (a := 104) dX9_crossedUpwards_20 gk_104 gn_104 (by omega) (by decide) (h.2 i (by omega)) ?_
      refine xe_iload_n dX9_crossedUpwards_21 rfl ?_
      refine xe_iconst (v := nI 1) dX9_crossedUpwards_22 (by decide) ?_
      refine xe_iadd dX9_crossedUpwards_23 ?_
      rw [nI_add]
      refine xe_ishr dX9_crossedUpwards_24 ?_
      rw [bit_shr (by omega) (by omega)]
      refine e_callSp (E_bitCount (by omega)) dX9_crossedUpwards_25 ksX9_48 rfl ?_
      refine xe_iadd dX9_crossedUpwards_28 ?_
      rw [nI_add]
      refine xe_istore_n dX9_crossedUpwards_29 (by decide) ?_
      refine xe_inc dX9_crossedUpwards_30 rfl (by decide) ?_
      refine xe_goto 7 dX9_crossedUpwards_33 (by decide) ?_
      rw [nI_1]
      exact k) (b - (a + 1)) (a + 1) 0 (by omega) rfl
  refine xe_iconst (v := nI 0) dX9_crossedUpwards_0 (by decide) ?_
  refine xe_istore_n dX9_crossedUpwards_1 (by decide) ?_
  refine xe_iload_n dX9_crossedUpwards_2 rfl ?_
  refine xe_iconst (v := nI 1) dX9_crossedUpwards_3 (by decide) ?_
  refine xe_iadd dX9_crossedUpwards_4 ?_
  rw [nI_add]
  refine xe_istore dX9_crossedUpwards_5 (by decide) ?_
  exact key
theorem E_partsOf (hB : IsBd B) (hz : Ls σ B z) : Cl xs L mX9_partsOf [.ref 103, .ref B] GS σ GS (fun v t => v = some (.int (nI (prt (jm z)))) ∧ FW σ t) := by
  show Ev xs L mX9_partsOf 0 [.ref 103, .ref B, .null, .null, .null] [] GS σ GS _
  refine xe_aload_n dX9_partsOf_0 rfl ?_
  refine xe_aload_n dX9_partsOf_1 rfl ?_
  refine e_callV (G := GS) (r := 103) (E_draw hB hz) dX9_partsOf_2 kvX9_36 gk_103 rfl ?_
  rintro v t ⟨rfl, h, hf⟩
  generalize jm z = J at h
  have key := goN 12 (prO J) (fun a c => ∀ w : Value, Ev xs L mX9_partsOf 9 [.ref 103, .ref B, .int (nI c), .int (nI a), w] [] GS t GS (fun v t => v = some (.int (nI (prt J))) ∧ FW σ t)) (prt J) (by
      intro w
      refine xe_iload_n dX9_partsOf_9 rfl ?_
      refine xe_bipush (v := nI 12) dX9_partsOf_10 (by decide) ?_
      refine xe_icmp_ge 61 dX9_partsOf_12 (by decide) (fun _ => ?_) (fun c => absurd (by decide) c)
      refine xe_iload_n dX9_partsOf_61 rfl ?_
      exact xe_iret dX9_partsOf_62 rfl ⟨rfl, hf⟩) (by
      intro a c ha kk w
      have inner := goN 12 (prI J a) (fun b c => a < b → Ev xs L mX9_partsOf 20 [.ref 103, .ref B, .int (nI c), .int (nI a), .int (nI b)] [] GS t GS (fun v t => v = some (.int (nI (prt J))) ∧ FW σ t)) (prO J c a) (by
          intro _
          refine xe_iload dX9_partsOf_20 rfl ?_
          refine xe_bipush (v := nI 12) dX9_partsOf_22 (by decide) ?_
          refine xe_icmp_ge 55 dX9_partsOf_24 (by decide) (fun _ => ?_) (fun c => absurd (by decide) c)
          refine xe_inc dX9_partsOf_55 rfl (by decide) ?_
          refine xe_goto 9 dX9_partsOf_58 (by decide) ?_
          rw [nI_1]
          exact kk _) (by
          intro b c hb k2 hab
          have k2 := k2 (by omega)
          unfold prI at k2
          refine xe_iload dX9_partsOf_20 rfl ?_
          refine xe_bipush (v := nI 12) dX9_partsOf_22 (by decide) ?_
          refine xe_icmp_ge 55 dX9_partsOf_24 (by decide) (fun c => absurd c (nI_ge hb (by omega))) (fun _ => ?_)
          refine xe_aload_n dX9_partsOf_27 rfl ?_
          refine xe_iload_n dX9_partsOf_28 rfl ?_
          refine xe_iload dX9_partsOf_29 rfl ?_
          refine e_callVp (G := GS) (r := 103) (E_areJoined h ha hb) dX9_partsOf_31 kvX9_40 gk_103 rfl ?_
          refine xz_if_eq 49 dX9_partsOf_34 (by decide) (fun d => ?_) (fun d => ?_)
          · rw [d] at k2
            refine xe_inc dX9_partsOf_49 rfl (by decide) ?_
            refine xe_goto 20 dX9_partsOf_52 (by decide) ?_
            rw [nI_1]
            exact k2
          · rw [d] at k2
            refine xe_iload_n dX9_partsOf_37 rfl ?_
            refine xe_iconst (v := nI 1) dX9_partsOf_38 (by decide) ?_
            refine xe_aload_n dX9_partsOf_39 rfl ?_
            refine xe_iload_n dX9_partsOf_40 rfl ?_
            refine xe_iload dX9_partsOf_41 rfl ?_
            refine e_callVp (G := GS) (r := 103) (E_crossedUpwards h hab hb) dX9_partsOf_43 kvX9_44 gk_103 rfl ?_
            refine xe_iadd dX9_partsOf_46 ?_
            rw [nI_add]
            refine xe_iadd dX9_partsOf_47 ?_
            rw [nI_add]
            refine xe_istore_n dX9_partsOf_48 (by decide) ?_
            refine xe_inc dX9_partsOf_49 rfl (by decide) ?_
            refine xe_goto 20 dX9_partsOf_52 (by decide) ?_
            rw [nI_1]
            exact k2) (11 - a) (a + 1) c (by omega) rfl
      refine xe_iload_n dX9_partsOf_9 rfl ?_
      refine xe_bipush (v := nI 12) dX9_partsOf_10 (by decide) ?_
      refine xe_icmp_ge 61 dX9_partsOf_12 (by decide) (fun c => absurd c (nI_ge ha (by omega))) (fun _ => ?_)
      refine xe_iload_n dX9_partsOf_15 rfl ?_
      refine xe_iconst (v := nI 1) dX9_partsOf_16 (by decide) ?_
      refine xe_iadd dX9_partsOf_17 ?_
      rw [nI_add]
      refine xe_istore dX9_partsOf_18 (by decide) ?_
      exact inner (by omega)) 12 0 1 (by omega) rfl
  refine xe_iconst (v := nI 1) dX9_partsOf_5 (by decide) ?_
  refine xe_istore_n dX9_partsOf_6 (by decide) ?_
  refine xe_iconst (v := nI 0) dX9_partsOf_7 (by decide) ?_
  refine xe_istore_n dX9_partsOf_8 (by decide) ?_
  exact key .null
theorem E_groupOf (h : Wb σ J) {a : Nat} (ha : a < 12) : Cl xs L mX9_groupOf [.ref 103, .int (nI a)] GS σ GS (pI σ (nI (grp J a))) := by
  show Ev xs L mX9_groupOf 0 [.ref 103, .int (nI a), .null, .null, .null] [] GS σ GS _
  have key := goN 12 (grO J) (fun i g => g < 2 ^ 12 → ∀ w : Value, Ev xs L mX9_groupOf 6 [.ref 103, .int (nI a), .int (nI g), .int (nI i), w] [] GS σ GS (pI σ (nI (grp J a)))) (grp J a) (by
      intro _ w
      refine xe_iload_n dX9_groupOf_6 rfl ?_
      refine xe_bipush (v := nI 12) dX9_groupOf_7 (by decide) ?_
      refine xe_icmp_ge 54 dX9_groupOf_9 (by decide) (fun _ => ?_) (fun c => absurd (by decide) c)
      refine xe_iload_n dX9_groupOf_54 rfl ?_
      exact e_iret dX9_groupOf_55 rfl rfl) (by
      intro i g hi kk hg w
      have kk := kk (grO_lt h.1 hg i)
      have inner := goN 12 (grI J) (fun n g => g < 2 ^ 12 → Ev xs L mX9_groupOf 15 [.ref 103, .int (nI a), .int (nI g), .int (nI i), .int (nI n)] [] GS σ GS (pI σ (nI (grp J a)))) (grO J g i) (by
          intro _
          refine xe_iload dX9_groupOf_15 rfl ?_
          refine xe_bipush (v := nI 12) dX9_groupOf_17 (by decide) ?_
          refine xe_icmp_ge 48 dX9_groupOf_19 (by decide) (fun _ => ?_) (fun c => absurd (by decide) c)
          refine xe_inc dX9_groupOf_48 rfl (by decide) ?_
          refine xe_goto 6 dX9_groupOf_51 (by decide) ?_
          rw [nI_1]
          exact kk _) (by
          intro n g hn k2 hg
          have k2 := k2 (grI_lt h.1 hg n)
          unfold grI at k2
          refine xe_iload dX9_groupOf_15 rfl ?_
          refine xe_bipush (v := nI 12) dX9_groupOf_17 (by decide) ?_
          refine xe_icmp_ge 48 dX9_groupOf_19 (by decide) (fun c => absurd c (nI_ge hn (by omega))) (fun _ => ?_)
          refine xe_iload_n dX9_groupOf_22 rfl ?_
          refine xe_iload dX9_groupOf_23 rfl ?_
          refine xe_ishr dX9_groupOf_25 ?_
          refine xe_iconst (v := nI 1) dX9_groupOf_26 (by decide) ?_
          refine xe_iand dX9_groupOf_27 ?_
          rw [bit_n (by omega) (by omega)]
          refine xe_iconst (v := nI 1) dX9_groupOf_28 (by decide) ?_
          cases hc : g.testBit n with
          | false =>
            rw [hc] at k2
            refine xe_icmp_ne 42 dX9_groupOf_29 (by decide) (fun _ => ?_) (fun c => absurd c (by decide))
            refine xe_inc dX9_groupOf_42 rfl (by decide) ?_
            refine xe_goto 15 dX9_groupOf_45 (by decide) ?_
            rw [nI_1]
            exact k2
          | true =>
            rw [hc] at k2
            refine xe_icmp_ne 42 dX9_groupOf_29 (by decide) (fun c => absurd c (fun q => q rfl)) (fun _ => ?_)
            refine xe_iload_n dX9_groupOf_32 rfl ?_
            refine xe_aload_n dX9_groupOf_33 rfl ?_
            refine e_getA (G := GS) (r := 103) dX9_groupOf_34 fdX9_9 rfl gk_103 gr_103_0 ?_
            refine xe_iload dX9_groupOf_37 rfl ?_
            refine e_iald (G := GS) (a := 104) dX9_groupOf_39 gk_104 gn_104 hn (by decide) (h.2 n hn) ?_
            refine xe_ior dX9_groupOf_40 ?_
            rw [nI_or]
            refine xe_istore_n dX9_groupOf_41 (by decide) ?_
            refine xe_inc dX9_groupOf_42 rfl (by decide) ?_
            refine xe_goto 15 dX9_groupOf_45 (by decide) ?_
            rw [nI_1]
            exact k2) 12 0 g (by omega) rfl
      refine xe_iload_n dX9_groupOf_6 rfl ?_
      refine xe_bipush (v := nI 12) dX9_groupOf_7 (by decide) ?_
      refine xe_icmp_ge 54 dX9_groupOf_9 (by decide) (fun c => absurd c (nI_ge hi (by omega))) (fun _ => ?_)
      refine xe_iconst (v := nI 0) dX9_groupOf_12 (by decide) ?_
      refine xe_istore dX9_groupOf_13 (by decide) ?_
      exact inner hg) 12 0 (2 ^ a) (by omega) rfl
  refine xe_iconst (v := nI 1) dX9_groupOf_0 (by decide) ?_
  refine xe_iload_n dX9_groupOf_1 rfl ?_
  refine xe_ishl dX9_groupOf_2 ?_
  rw [bit_shl (by omega)]
  refine xe_istore_n dX9_groupOf_3 (by decide) ?_
  refine xe_iconst (v := nI 0) dX9_groupOf_4 (by decide) ?_
  refine xe_istore_n dX9_groupOf_5 (by decide) ?_
  exact key (two12 ha) .null
theorem E_oddNails (h : Wb σ J) {g : Nat} (hg : g < 2 ^ 12) : Cl xs L mX9_oddNails [.ref 103, .int (nI g)] GS σ GS (pI σ (nI (odd J g))) := by
  show Ev xs L mX9_oddNails 0 [.ref 103, .int (nI g), .null, .null] [] GS σ GS _
  have key := goN 12 (odI J g) (fun n c => Ev xs L mX9_oddNails 4 [.ref 103, .int (nI g), .int (nI c), .int (nI n)] [] GS σ GS (pI σ (nI (odd J g)))) (odd J g) (by
      refine xe_iload_n dX9_oddNails_4 rfl ?_
      refine xe_bipush (v := nI 12) dX9_oddNails_5 (by decide) ?_
      refine xe_icmp_ge 39 dX9_oddNails_7 (by decide) (fun _ => ?_) (fun c => absurd (by decide) c)
      refine xe_iload_n dX9_oddNails_39 rfl ?_
      exact e_iret dX9_oddNails_40 rfl rfl) (by
      intro n c hn k2
      unfold odI at k2
      refine xe_iload_n dX9_oddNails_4 rfl ?_
      refine xe_bipush (v := nI 12) dX9_oddNails_5 (by decide) ?_
      refine xe_icmp_ge 39 dX9_oddNails_7 (by decide) (fun c => absurd c (nI_ge hn (by omega))) (fun _ => ?_)
      refine xe_iload_n dX9_oddNails_10 rfl ?_
      refine xe_iload_n dX9_oddNails_11 rfl ?_
      refine xe_ishr dX9_oddNails_12 ?_
      refine xe_iconst (v := nI 1) dX9_oddNails_13 (by decide) ?_
      refine xe_iand dX9_oddNails_14 ?_
      rw [bit_n (by omega) (by omega)]
      refine xe_iconst (v := nI 1) dX9_oddNails_15 (by decide) ?_
      cases hc : g.testBit n with
      | false =>
        rw [hc] at k2
        refine xe_icmp_ne 33 dX9_oddNails_16 (by decide) (fun _ => ?_) (fun c => absurd c (by decide))
        refine xe_inc dX9_oddNails_33 rfl (by decide) ?_
        refine xe_goto 4 dX9_oddNails_36 (by decide) ?_
        rw [nI_1]
        exact k2
      | true =>
        rw [hc] at k2
        have hp := pc_le (J n)
        refine xe_icmp_ne 33 dX9_oddNails_16 (by decide) (fun c => absurd c (fun q => q rfl)) (fun _ => ?_)
        refine xe_iload_n dX9_oddNails_19 rfl ?_
        refine xe_aload_n dX9_oddNails_20 rfl ?_
        refine e_getA (G := GS) (r := 103) dX9_oddNails_21 fdX9_9 rfl gk_103 gr_103_0 ?_
        refine xe_iload_n dX9_oddNails_24 rfl ?_
        refine e_iald (G := GS) (a := 104) dX9_oddNails_25 gk_104 gn_104 hn (by decide) (h.2 n hn) ?_
        refine e_callSp (E_bitCount (h.1 n)) dX9_oddNails_26 ksX9_48 rfl ?_
        refine xe_iconst (v := nI 1) dX9_oddNails_29 (by decide) ?_
        refine xe_iand dX9_oddNails_30 ?_
        rw [pk_andN (by omega) 1 (by decide)]
        refine xe_iadd dX9_oddNails_31 ?_
        rw [nI_add]
        refine xe_istore_n dX9_oddNails_32 (by decide) ?_
        refine xe_inc dX9_oddNails_33 rfl (by decide) ?_
        refine xe_goto 4 dX9_oddNails_36 (by decide) ?_
        rw [nI_1]
        exact k2) 12 0 0 (by omega) rfl
  refine xe_iconst (v := nI 0) dX9_oddNails_0 (by decide) ?_
  refine xe_istore_n dX9_oddNails_1 (by decide) ?_
  refine xe_iconst (v := nI 0) dX9_oddNails_2 (by decide) ?_
  refine xe_istore_n dX9_oddNails_3 (by decide) ?_
  exact key
theorem E_strokesOf (hB : IsBd B) (hz : Ls σ B z) : Cl xs L mX9_strokesOf [.ref 103, .ref B] GS σ GS (fun v t => v = some (.int (nI (stk (jm z)))) ∧ FW σ t) := by
  show Ev xs L mX9_strokesOf 0 [.ref 103, .ref B, .null, .null, .null, .null] [] GS σ GS _
  refine xe_aload_n dX9_strokesOf_0 rfl ?_
  refine xe_aload_n dX9_strokesOf_1 rfl ?_
  refine e_callV (G := GS) (r := 103) (E_draw hB hz) dX9_strokesOf_2 kvX9_36 gk_103 rfl ?_
  rintro v t ⟨rfl, h, hf⟩
  generalize jm z = J at h
  have key := goN 12 (stS J) (fun n q => q.2 < 2 ^ 12 → ∀ w : Value, Ev xs L mX9_strokesOf 12 [.ref 103, .ref B, .int (nI q.1), .int (nI q.2), .int (nI n), w] [] GS t GS (fun v t => v = some (.int (nI (stk J))) ∧ FW σ t)) (foldN (stS J) 0 12 (0, 0)) (by
      intro _ w
      refine xe_iload dX9_strokesOf_12 rfl ?_
      refine xe_bipush (v := nI 12) dX9_strokesOf_14 (by decide) ?_
      refine xe_icmp_ge 72 dX9_strokesOf_16 (by decide) (fun _ => ?_) (fun c => absurd (by decide) c)
      refine xe_iload_n dX9_strokesOf_72 rfl ?_
      exact xe_iret dX9_strokesOf_73 rfl ⟨rfl, hf⟩) (by
      intro n q hn k2 hq w
      have hJ := h.1 n
      have hg := grp_lt h.1 hn
      have ho := odd_le J (grp J n)
      unfold stS at k2
      have no : ¬ (J n ≠ 0 ∧ q.2.testBit n = false) → Ev xs L mX9_strokesOf 66 [.ref 103, .ref B, .int (nI q.1), .int (nI q.2), .int (nI n), w] [] GS t GS (fun v t => v = some (.int (nI (stk J))) ∧ FW σ t) := by
        intro hc
        rw [if_neg hc] at k2
        refine xe_inc dX9_strokesOf_66 rfl (by decide) ?_
        refine xe_goto 12 dX9_strokesOf_69 (by decide) ?_
        rw [nI_1]
        exact k2 hq w
      refine xe_iload dX9_strokesOf_12 rfl ?_
      refine xe_bipush (v := nI 12) dX9_strokesOf_14 (by decide) ?_
      refine xe_icmp_ge 72 dX9_strokesOf_16 (by decide) (fun c => absurd c (nI_ge hn (by omega))) (fun _ => ?_)
      refine xe_aload_n dX9_strokesOf_19 rfl ?_
      refine e_getA (G := GS) (r := 103) dX9_strokesOf_20 fdX9_9 rfl gk_103 gr_103_0 ?_
      refine xe_iload dX9_strokesOf_23 rfl ?_
      refine e_iald (G := GS) (a := 104) dX9_strokesOf_25 gk_104 gn_104 hn (by decide) (h.2 n hn) ?_
      refine xn_if_eq 66 dX9_strokesOf_26 (by decide) (by omega) (fun c26 => ?_) (fun c26 => ?_)
      · exact no (fun hc => hc.1 c26)
      refine xe_iload_n dX9_strokesOf_29 rfl ?_
      refine xe_iload dX9_strokesOf_30 rfl ?_
      refine xe_ishr dX9_strokesOf_32 ?_
      refine xe_iconst (v := nI 1) dX9_strokesOf_33 (by decide) ?_
      refine xe_iand dX9_strokesOf_34 ?_
      rw [bit_n (by omega) (by omega)]
      cases hc : q.2.testBit n with
      | true =>
        refine xe_if_ne 66 dX9_strokesOf_35 (by decide) (fun _ => ?_) (fun c => absurd c (by decide))
        exact no (fun hh => by rw [hc] at hh; exact absurd hh.2 (by decide))
      | false =>
        rw [if_pos ⟨by omega, hc⟩] at k2
        refine xe_if_ne 66 dX9_strokesOf_35 (by decide) (fun c => absurd c (fun q => q rfl)) (fun _ => ?_)
        refine xe_aload_n dX9_strokesOf_38 rfl ?_
        refine xe_iload dX9_strokesOf_39 rfl ?_
        refine e_callVp (G := GS) (r := 103) (E_groupOf h hn) dX9_strokesOf_41 kvX9_53 gk_103 rfl ?_
        refine xe_istore dX9_strokesOf_44 (by decide) ?_
        refine xe_iload_n dX9_strokesOf_46 rfl ?_
        refine xe_iconst (v := nI 1) dX9_strokesOf_47 (by decide) ?_
        refine xe_aload_n dX9_strokesOf_48 rfl ?_
        refine xe_iload dX9_strokesOf_49 rfl ?_
        refine e_callVp (G := GS) (r := 103) (E_oddNails h hg) dX9_strokesOf_51 kvX9_56 gk_103 rfl ?_
        refine xe_iconst (v := nI 2) dX9_strokesOf_54 (by decide) ?_
        refine xe_idiv dX9_strokesOf_55 (by decide) ?_
        rw [pk_div (by omega) (by decide) (by decide)]
        refine e_callSp (E_max) dX9_strokesOf_56 ksX9_59 rfl ?_
        have e : (if nI 1 < nI (odd J (grp J n) / 2) then nI (odd J (grp J n) / 2) else nI 1) = nI (max 1 (odd J (grp J n) / 2)) := by
          by_cases c : 1 < odd J (grp J n) / 2
          · rw [if_pos (nI_lt c (by omega)), Nat.max_eq_right (by omega)]
          · rw [if_neg (nI_nlt (by omega) (by omega)), Nat.max_eq_left (by omega)]
        rw [e]
        refine xe_iadd dX9_strokesOf_59 ?_
        rw [nI_add]
        refine xe_istore_n dX9_strokesOf_60 (by decide) ?_
        refine xe_iload_n dX9_strokesOf_61 rfl ?_
        refine xe_iload dX9_strokesOf_62 rfl ?_
        refine xe_ior dX9_strokesOf_64 ?_
        rw [nI_or]
        refine xe_istore_n dX9_strokesOf_65 (by decide) ?_
        refine xe_inc dX9_strokesOf_66 rfl (by decide) ?_
        refine xe_goto 12 dX9_strokesOf_69 (by decide) ?_
        rw [nI_1]
        exact k2 (Nat.or_lt_two_pow hq hg) _) 12 0 (0, 0) (by omega) rfl
  refine xe_iconst (v := nI 0) dX9_strokesOf_5 (by decide) ?_
  refine xe_istore_n dX9_strokesOf_6 (by decide) ?_
  refine xe_iconst (v := nI 0) dX9_strokesOf_7 (by decide) ?_
  refine xe_istore_n dX9_strokesOf_8 (by decide) ?_
  refine xe_iconst (v := nI 0) dX9_strokesOf_9 (by decide) ?_
  refine xe_istore dX9_strokesOf_10 (by decide) ?_
  exact key (by decide) .null
end WB
