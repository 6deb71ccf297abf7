/-! the model: small methods, a level is read -/
section XN
variable {xs : Nat → Int32} {L : Nat} {M : xM} {pc : Nat} {lv st : List Value} {σ : xS} {Q : Option Value → xS → Prop} {G G' : xG}
theorem xn_iadd {a b : Nat} (hd : decode M.2.1 pc = .ok (.iadd, 1)) (k : Ev xs L M (pc + 1) lv (.int (nI (a + b)) :: st) G σ G' Q) : Ev xs L M pc lv (.int (nI b) :: .int (nI a) :: st) G σ G' Q := xe_iadd hd (by rw [nI_add]; exact k)
theorem xn_imul {a b : Nat} (hd : decode M.2.1 pc = .ok (.imul, 1)) (k : Ev xs L M (pc + 1) lv (.int (nI (a * b)) :: st) G σ G' Q) : Ev xs L M pc lv (.int (nI b) :: .int (nI a) :: st) G σ G' Q := xe_imul hd (by rw [pk_mul]; exact k)
theorem xn_isub {a b : Nat} (hd : decode M.2.1 pc = .ok (.isub, 1)) (h : b ≤ a) (k : Ev xs L M (pc + 1) lv (.int (nI (a - b)) :: st) G σ G' Q) : Ev xs L M pc lv (.int (nI b) :: .int (nI a) :: st) G σ G' Q := xe_isub hd (by rw [pk_sub h]; exact k)
theorem xn_idiv {a b : Nat} (hd : decode M.2.1 pc = .ok (.idiv, 1)) (ha : a < 2 ^ 31) (h0 : 0 < b) (hb : b < 2 ^ 31) (k : Ev xs L M (pc + 1) lv (.int (nI (a / b)) :: st) G σ G' Q) : Ev xs L M pc lv (.int (nI b) :: .int (nI a) :: st) G σ G' Q := xe_idiv hd (nI_ne0 h0 hb) (by rw [pk_div ha h0 hb]; exact k)
theorem xn_irem {a b : Nat} (hd : decode M.2.1 pc = .ok (.irem, 1)) (ha : a < 2 ^ 31) (h0 : 0 < b) (hb : b < 2 ^ 31) (k : Ev xs L M (pc + 1) lv (.int (nI (a % b)) :: st) G σ G' Q) : Ev xs L M pc lv (.int (nI b) :: .int (nI a) :: st) G σ G' Q := xe_irem hd (nI_ne0 h0 hb) (by rw [pk_rem ha h0 hb]; exact k)
theorem xn_inc {i a : Nat} (hd : decode M.2.1 pc = .ok (.iinc i 1, 3)) (hl : lv[i]? = some (.int (nI a))) (hn : i < M.2.2.1) (k : Ev xs L M (pc + 3) (xst lv i (.int (nI (a + 1)))) st G σ G' Q) : Ev xs L M pc lv st G σ G' Q := xe_inc hd hl hn (by rw [nI_1]; exact k)
theorem xe_ldc2n {idx n : Nat} {v : Int64} (hd : decode M.2.1 pc = .ok (.ldc2_w idx, 3)) (hw : Cond.constantLong M.1.cls idx v ∈ GT) (e : v = lN n) (k : Ev xs L M (pc + 3) lv (.long (lN n) :: st) G σ G' Q) : Ev xs L M pc lv st G σ G' Q := xe_ldc2 hd hw (by rw [e]; exact k)
end XN
def enc (s : xSt) : Nat := ((s.1 * 12 + s.2.1) * 12 + s.2.2.1) * 12 + s.2.2.2
theorem enc_lt {s : xSt} (h : SO s) : enc s < 6912 := by
  obtain ⟨h1, h2, h3, h4⟩ := h
  unfold enc
  omega
theorem enc_t {s : xSt} (h : SO s) : enc s / 1728 = s.1 := by
  obtain ⟨h1, h2, h3, h4⟩ := h
  unfold enc
  omega
theorem enc_f {s : xSt} (h : SO s) : enc s / 144 % 12 = s.2.1 := by
  obtain ⟨h1, h2, h3, h4⟩ := h
  unfold enc
  omega
theorem enc_o {s : xSt} (h : SO s) : enc s / 12 % 12 = s.2.2.1 := by
  obtain ⟨h1, h2, h3, h4⟩ := h
  unfold enc
  omega
theorem enc_p {s : xSt} (h : SO s) : enc s % 12 = s.2.2.2 := by
  obtain ⟨h1, h2, h3, h4⟩ := h
  unfold enc
  omega
/-- fifty-three numbers that hold a board -/
def Im (f : Nat → Int32) (b : Nat) (P : xP) : Prop := (∀ t, t < P.1 → f (b + t) = nI (P.2.2.1 t)) ∧ f (b + 4) = nI P.2.2.2.length ∧ ∀ i s, P.2.2.2[i]? = some s → f (b + 5 + i) = nI (enc s)
def Lv (σ : xS) (v : Nat) (P : xP) : Prop := v < 2 ∧ POk P ∧ Im (σ.1 112) (53 * v) P
/-- nothing but a level has changed -/
def FL (σ t : xS) (v : Nat) : Prop := (∀ c, c ≠ 112 → t.1 c = σ.1 c) ∧ (∀ k, (k < 53 * v ∨ 53 * v + 53 ≤ k) → t.1 112 k = σ.1 112 k) ∧ t.2 = σ.2
theorem FL.rf (σ : xS) (v : Nat) : FL σ σ v := ⟨fun _ _ => rfl, fun _ _ => rfl, rfl⟩
theorem FL.tr {σ t u : xS} {v : Nat} (h1 : FL σ t v) (h2 : FL t u v) : FL σ u v := ⟨fun c hc => (h2.1 c hc).trans (h1.1 c hc), fun k hk => (h2.2.1 k hk).trans (h1.2.1 k hk), h2.2.2.trans h1.2.2⟩
theorem FL.pi {σ t : xS} {v k : Nat} (x : Int32) (h : FL σ t v) (h1 : 53 * v ≤ k) (h2 : k < 53 * v + 53) : FL σ (xpi t 112 k x) v := ⟨fun c hc => (xpi_ne t k x hc).trans (h.1 c hc), fun q hq => by rw [xpi_rd, if_neg (by omega)]; exact h.2.1 q hq, h.2.2⟩
theorem Lv.so {σ : xS} {v : Nat} {P : xP} (h : Lv σ v P) {i : Nat} {s : xSt} (hs : P.2.2.2[i]? = some s) : SO s := (h.2.1.2.2.1 s (List.mem_of_getElem? hs)).2
theorem Lv.ne {σ : xS} {v : Nat} {P : xP} (h : Lv σ v P) {i : Nat} {s : xSt} (hs : P.2.2.2[i]? = some s) : s.2.1 ≠ s.2.2.1 := h.2.1.2.2.2.2 s (List.mem_of_getElem? hs)
theorem Lv.to {σ t : xS} {v : Nat} {P : xP} (h : Lv σ v P) (e : ∀ k, 53 * v ≤ k → k < 53 * v + 53 → t.1 112 k = σ.1 112 k) : Lv t v P := by
  obtain ⟨h1, h2, h3, h4, h5⟩ := h
  have h48 := h2.len
  have ht4 := h2.1
  refine ⟨h1, h2, fun u hu => ?_, ?_, fun i s hs => ?_⟩
  · rw [e _ (by omega) (by omega)]; exact h3 u hu
  · rw [e _ (by omega) (by omega)]; exact h4
  · have := Ls.lt hs
    rw [e _ (by omega) (by omega)]; exact h5 i s hs
theorem Lv.fl {σ t : xS} {v w : Nat} {P : xP} (h : Lv σ v P) (f : FL σ t w) (hn : v ≠ w) : Lv t v P := h.to (fun k k1 k2 => f.2.1 k (by omega))
/-- the kind of a thread of a level -/
def Kd (σ : xS) (v : Nat) (P : xP) : Prop := ∃ r : Bool, σ.1 110 7 = bI r ∧ ∀ t, t < P.1 → (if v = 1 ∧ r = true then σ.1 113 t else σ.1 111 t) = nI (P.2.1 t)
theorem Kd.fl {σ t : xS} {v w : Nat} {P : xP} (h : Kd σ v P) (f : FL σ t w) : Kd t v P := by
  obtain ⟨r, h1, h2⟩ := h
  refine ⟨r, by rw [f.1 110 (by omega)]; exact h1, fun u hu => ?_⟩
  rw [f.1 113 (by omega), f.1 111 (by omega)]
  exact h2 u hu
theorem in_out {x : Int32} {a b : Nat} (ha : a < 2 ^ 31) (hb : b < 2 ^ 31) : (decide (lN a ≤ x.toInt64) && decide (x.toInt64 ≤ lN b)) = !outQ x a b := by
  have e1 : lN a ≤ x.toInt64 ↔ ¬ x < nI a := by
    rw [Int64.le_iff_toInt_le, Int32.toInt_toInt64, lN_toInt ha, Int32.lt_iff_toInt_lt, nI_toInt ha]
    omega
  have e2 : x.toInt64 ≤ lN b ↔ x ≤ nI b := by
    rw [Int64.le_iff_toInt_le, Int32.toInt_toInt64, lN_toInt hb, Int32.le_iff_toInt_le, nI_toInt hb]
  unfold outQ
  by_cases h1 : x < nI a
  · rw [decide_eq_true h1, decide_eq_false (fun q => e1.mp q h1)]
    rfl
  · rw [decide_eq_false h1, decide_eq_true (e1.mpr h1)]
    by_cases h2 : x ≤ nI b
    · rw [decide_eq_true h2, decide_eq_true (e2.mpr h2)]
      rfl
    · rw [decide_eq_false h2, decide_eq_false (fun q => h2 (e2.mp q))]
      rfl
theorem in_hasT {x : Int32} {T : Nat} (hT : T < 2 ^ 31) : (decide (lN 0 ≤ x.toInt64) && decide (x.toInt64 ≤ (nI T - nI 1).toInt64)) = hasT T x := by
  have e1 : lN 0 ≤ x.toInt64 ↔ ¬ x < 0 := by
    rw [Int64.le_iff_toInt_le, Int32.toInt_toInt64, lN_toInt (by decide), Int32.lt_iff_toInt_lt, show (0 : Int32).toInt = 0 by decide]
    omega
  have e3 : (nI T - nI 1).toInt = (T : Int) - 1 := by
    rcases Nat.eq_zero_or_pos T with h | h
    · subst h
      decide
    · rw [pk_sub h, nI_toInt (by omega)]
      omega
  have e2 : x.toInt64 ≤ (nI T - nI 1).toInt64 ↔ ¬ nI T ≤ x := by
    rw [Int64.le_iff_toInt_le, Int32.toInt_toInt64, Int32.toInt_toInt64, e3, Int32.le_iff_toInt_le, nI_toInt hT]
    omega
  unfold hasT
  congr 1
  · by_cases q : x < 0
    · rw [decide_eq_true q, decide_eq_false (fun z => e1.mp z q)]
      rfl
    · rw [decide_eq_false q, decide_eq_true (e1.mpr q)]
      rfl
  · by_cases q : nI T ≤ x
    · rw [decide_eq_true q, decide_eq_false (fun z => e2.mp z q)]
      rfl
    · rw [decide_eq_false q, decide_eq_true (e2.mpr q)]
      rfl
def mbt (p q n : Nat) : Bool := decide ((n + 12 - p) % 12 < (q + 12 - p) % 12)
theorem mcr_all : ∀ a, a < 12 → ∀ b, b < 12 → ∀ c, c < 12 → ∀ d, d < 12 → (if a = c ∨ a = d ∨ b = c ∨ b = d then false else (mbt a b c != mbt a b d)) = crs4 a b c d := by decide +kernel
theorem msub_all : ∀ a, a < 12 → ∀ b, b < 12 → nI a - nI b + nI 12 = nI (a + 12 - b) := by decide +kernel
def map2 (p q : Nat) : Nat := if (p + 12 - q) % 12 ≤ 6 then (p + 12 - q) % 12 else 12 - (p + 12 - q) % 12
theorem map2_all : ∀ p, p < 12 → ∀ q, q < 12 → (decide (map2 p q = 1) = decide (apN p q = 1)) ∧ map2 p q ≤ 6 ∧ (p ≠ q → (match map2 p q with
  | 1 => 5
  | 2 => 10
  | 3 => 14
  | 4 => 17
  | 5 => 19
  | _ => 20) = lnb p q) := by decide +kernel
section ML
variable {xs : Nat → Int32} {L : Nat} {σ : xS} {v : Nat} {P : xP} {G : xG}
theorem M_in {x a b : Int64} : Cl xs L mX11_in [.long x, .long a, .long b] G σ G (pI σ (bI (decide (a ≤ x) && decide (x ≤ b)))) := by
  show Ev xs L mX11_in 0 [.long x, .null, .long a, .null, .long b, .null] [] G σ G _
  refine xe_lload_n dX11_in_0 rfl ?_
  refine xe_lload_n dX11_in_1 rfl ?_
  refine xe_lcmp dX11_in_2 ?_
  refine xe_if_lt 17 dX11_in_3 (by decide) (fun c => ?_) (fun c => ?_)
  · rw [lg_cmp_lt] at c
    refine xe_iconst (v := nI 0) dX11_in_17 (by decide) ?_
    exact e_zret dX11_in_18 rfl (by rw [decide_eq_false (Int64.not_le.mpr c)]; rfl)
  · rw [lg_cmp_lt] at c
    refine xe_lload_n dX11_in_6 rfl ?_
    refine xe_lload dX11_in_7 rfl ?_
    refine xe_lcmp dX11_in_9 ?_
    refine xe_if_gt 17 dX11_in_10 (by decide) (fun c2 => ?_) (fun c2 => ?_)
    · rw [lg_cmp_gt] at c2
      refine xe_iconst (v := nI 0) dX11_in_17 (by decide) ?_
      exact e_zret dX11_in_18 rfl (by rw [decide_eq_false (Int64.not_le.mpr c2), Bool.and_false]; rfl)
    · rw [lg_cmp_gt] at c2
      refine xe_iconst (v := nI 1) dX11_in_13 (by decide) ?_
      refine xe_goto 18 dX11_in_14 (by decide) ?_
      exact e_zret dX11_in_18 rfl (by rw [decide_eq_true (Int64.not_lt.mp c), decide_eq_true (Int64.not_lt.mp c2)]; rfl)
theorem M_inO {x : Int32} {a b : Nat} (ha : a < 2 ^ 31) (hb : b < 2 ^ 31) : Cl xs L mX11_in [.long x.toInt64, .long (lN a), .long (lN b)] G σ G (pI σ (bI (!outQ x a b))) := by
  rw [← in_out ha hb]
  exact M_in
theorem M_has {m k : Nat} (hm : m < 2 ^ 31) (hk : k < 32) : Cl xs L mX11_has [.int (nI m), .int (nI k)] G σ G (pI σ (bI (m.testBit k))) := by
  show Ev xs L mX11_has 0 [.int (nI m), .int (nI k)] [] G σ G _
  refine xe_iload_n dX11_has_0 rfl ?_
  refine xe_iload_n dX11_has_1 rfl ?_
  refine xe_ishr dX11_has_2 ?_
  refine xe_iconst (v := nI 1) dX11_has_3 (by decide) ?_
  refine xe_iand dX11_has_4 ?_
  rw [bit_n hm hk]
  refine xe_iconst (v := nI 1) dX11_has_5 (by decide) ?_
  cases hc : m.testBit k with
  | false =>
    refine xe_icmp_ne 13 dX11_has_6 (by decide) (fun _ => ?_) (fun c => absurd c (by decide))
    refine xe_iconst (v := nI 0) dX11_has_13 (by decide) ?_
    exact e_zret dX11_has_14 rfl rfl
  | true =>
    refine xe_icmp_ne 13 dX11_has_6 (by decide) (fun c => absurd c (fun q => q rfl)) (fun _ => ?_)
    refine xe_iconst (v := nI 1) dX11_has_9 (by decide) ?_
    refine xe_goto 14 dX11_has_10 (by decide) ?_
    exact e_zret dX11_has_14 rfl rfl
theorem M_isNail {x : Int32} : Cl xs L mX11_isNail [.int x] G σ G (pI σ (bI (!outQ x 0 11))) := by
  show Ev xs L mX11_isNail 0 [.int x] [] G σ G _
  refine xe_iload_n dX11_isNail_0 rfl ?_
  refine xe_i2l dX11_isNail_1 ?_
  refine xe_lconst (v := lN 0) dX11_isNail_2 (by decide) ?_
  refine xe_ldc2n (n := 11) dX11_isNail_3 gw911 (by decide) ?_
  refine e_callSp (M_inO (by decide) (by decide)) dX11_isNail_6 ksX11_49 rfl ?_
  exact e_zret dX11_isNail_9 rfl rfl
theorem M_apart {p q : Nat} (hp : p < 12) (hq : q < 12) : Cl xs L mX11_apart [.int (nI p), .int (nI q)] G σ G (pI σ (nI (map2 p q))) := by
  show Ev xs L mX11_apart 0 [.int (nI p), .int (nI q), .null] [] G σ G _
  refine xe_iload_n dX11_apart_0 rfl ?_
  refine xe_iload_n dX11_apart_1 rfl ?_
  refine xe_isub dX11_apart_2 ?_
  refine xe_bipush (v := nI 12) dX11_apart_3 (by decide) ?_
  refine xe_iadd dX11_apart_5 ?_
  rw [msub_all p hp q hq]
  refine xe_bipush (v := nI 12) dX11_apart_6 (by decide) ?_
  refine xn_irem dX11_apart_8 (by omega) (by decide) (by decide) ?_
  have : (p + 12 - q) % 12 < 12 := Nat.mod_lt _ (by decide)
  unfold map2
  refine xe_istore_n dX11_apart_9 (by decide) ?_
  refine xe_iload_n dX11_apart_10 rfl ?_
  refine xe_bipush (v := nI 6) dX11_apart_11 (by decide) ?_
  refine xn_icmp_le 23 dX11_apart_13 (by decide) (by omega) (by omega) (fun c => ?_) (fun c => ?_)
  · rw [if_pos c]
    refine xe_iload_n dX11_apart_23 rfl ?_
    exact e_iret dX11_apart_24 rfl rfl
  · rw [if_neg (by omega)]
    refine xe_bipush (v := nI 12) dX11_apart_16 (by decide) ?_
    refine xe_iload_n dX11_apart_18 rfl ?_
    refine xn_isub dX11_apart_19 (by omega) ?_
    refine xe_goto 24 dX11_apart_20 (by decide) ?_
    exact e_iret dX11_apart_24 rfl rfl
theorem M_longBy {p q : Nat} (hp : p < 12) (hq : q < 12) (hn : p ≠ q) : Cl xs L mX11_longBy [.int (nI p), .int (nI q)] G σ G (pI σ (nI (lnb p q))) := by
  show Ev xs L mX11_longBy 0 [.int (nI p), .int (nI q)] [] G σ G _
  obtain ⟨-, m6, me⟩ := map2_all p hp q hq
  rw [← me hn]
  refine xe_iload_n dX11_longBy_0 rfl ?_
  refine xe_iload_n dX11_longBy_1 rfl ?_
  refine e_callSp (M_apart hp hq) dX11_longBy_2 ksX11_53 rfl ?_
  generalize map2 p q = m at m6 ⊢
  match m, m6 with
  | 0, _ =>
    refine xe_tableOut 54 dX11_longBy_5 (Or.inl (by decide)) (by decide) ?_
    refine xe_bipush (v := nI 20) dX11_longBy_54 (by decide) ?_
    exact e_iret dX11_longBy_56 rfl rfl
  | 1, _ =>
    refine xe_tableIn 40 dX11_longBy_5 (by decide) (by decide) rfl (by decide) ?_
    refine xe_iconst (v := nI 5) dX11_longBy_40 (by decide) ?_
    exact e_iret dX11_longBy_41 rfl rfl
  | 2, _ =>
    refine xe_tableIn 42 dX11_longBy_5 (by decide) (by decide) rfl (by decide) ?_
    refine xe_bipush (v := nI 10) dX11_longBy_42 (by decide) ?_
    exact e_iret dX11_longBy_44 rfl rfl
  | 3, _ =>
    refine xe_tableIn 45 dX11_longBy_5 (by decide) (by decide) rfl (by decide) ?_
    refine xe_bipush (v := nI 14) dX11_longBy_45 (by decide) ?_
    exact e_iret dX11_longBy_47 rfl rfl
  | 4, _ =>
    refine xe_tableIn 48 dX11_longBy_5 (by decide) (by decide) rfl (by decide) ?_
    refine xe_bipush (v := nI 17) dX11_longBy_48 (by decide) ?_
    exact e_iret dX11_longBy_50 rfl rfl
  | 5, _ =>
    refine xe_tableIn 51 dX11_longBy_5 (by decide) (by decide) rfl (by decide) ?_
    refine xe_bipush (v := nI 19) dX11_longBy_51 (by decide) ?_
    exact e_iret dX11_longBy_53 rfl rfl
  | 6, _ =>
    refine xe_tableOut 54 dX11_longBy_5 (Or.inr (by decide)) (by decide) ?_
    refine xe_bipush (v := nI 20) dX11_longBy_54 (by decide) ?_
    exact e_iret dX11_longBy_56 rfl rfl
  | m + 7, h => omega
theorem M_isBetween {p q n : Nat} (hp : p < 12) (hq : q < 12) (hn : n < 12) : Cl xs L mX11_isBetween [.int (nI p), .int (nI q), .int (nI n)] G σ G (pI σ (bI (mbt p q n))) := by
  show Ev xs L mX11_isBetween 0 [.int (nI p), .int (nI q), .int (nI n)] [] G σ G _
  refine xe_iload_n dX11_isBetween_0 rfl ?_
  refine xe_iload_n dX11_isBetween_1 rfl ?_
  refine xe_isub dX11_isBetween_2 ?_
  refine xe_bipush (v := nI 12) dX11_isBetween_3 (by decide) ?_
  refine xe_iadd dX11_isBetween_5 ?_
  rw [msub_all n hn p hp]
  refine xe_bipush (v := nI 12) dX11_isBetween_6 (by decide) ?_
  refine xn_irem dX11_isBetween_8 (by omega) (by decide) (by decide) ?_
  refine xe_iload_n dX11_isBetween_9 rfl ?_
  refine xe_iload_n dX11_isBetween_10 rfl ?_
  refine xe_isub dX11_isBetween_11 ?_
  refine xe_bipush (v := nI 12) dX11_isBetween_12 (by decide) ?_
  refine xe_iadd dX11_isBetween_14 ?_
  rw [msub_all q hq p hp]
  refine xe_bipush (v := nI 12) dX11_isBetween_15 (by decide) ?_
  refine xn_irem dX11_isBetween_17 (by omega) (by decide) (by decide) ?_
  have h1 : (n + 12 - p) % 12 < 12 := Nat.mod_lt _ (by decide)
  have h2 : (q + 12 - p) % 12 < 12 := Nat.mod_lt _ (by decide)
  unfold mbt
  refine xn_icmp_ge 25 dX11_isBetween_18 (by decide) (by omega) (by omega) (fun c => ?_) (fun c => ?_)
  · rw [decide_eq_false (by omega)]
    refine xe_iconst (v := nI 0) dX11_isBetween_25 (by decide) ?_
    exact e_zret dX11_isBetween_26 rfl rfl
  · rw [decide_eq_true c]
    refine xe_iconst (v := nI 1) dX11_isBetween_21 (by decide) ?_
    refine xe_goto 26 dX11_isBetween_22 (by decide) ?_
    exact e_zret dX11_isBetween_26 rfl rfl
theorem M_cross {a b c d : Nat} (ha : a < 12) (hb : b < 12) (hc : c < 12) (hd : d < 12) : Cl xs L mX11_cross [.int (nI a), .int (nI b), .int (nI c), .int (nI d)] G σ G (pI σ (bI (crs4 a b c d))) := by
  show Ev xs L mX11_cross 0 [.int (nI a), .int (nI b), .int (nI c), .int (nI d)] [] G σ G _
  rw [← mcr_all a ha b hb c hc d hd]
  have k20 : ∀ lv : List Value, (a = c ∨ a = d ∨ b = c ∨ b = d) → Ev xs L mX11_cross 20 lv [] G σ G (pI σ (bI (if a = c ∨ a = d ∨ b = c ∨ b = d then false else (mbt a b c != mbt a b d)))) := by
    intro lv h
    rw [if_pos h]
    refine xe_iconst (v := nI 0) dX11_cross_20 (by decide) ?_
    exact e_zret dX11_cross_21 rfl rfl
  refine xe_iload_n dX11_cross_0 rfl ?_
  refine xe_iload_n dX11_cross_1 rfl ?_
  refine xn_icmp_eq 20 dX11_cross_2 (by decide) (by omega) (by omega) (fun c2 => ?_) (fun c2 => ?_)
  · exact k20 _ (by omega)
  refine xe_iload_n dX11_cross_5 rfl ?_
  refine xe_iload_n dX11_cross_6 rfl ?_
  refine xn_icmp_eq 20 dX11_cross_7 (by decide) (by omega) (by omega) (fun c7 => ?_) (fun c7 => ?_)
  · exact k20 _ (by omega)
  refine xe_iload_n dX11_cross_10 rfl ?_
  refine xe_iload_n dX11_cross_11 rfl ?_
  refine xn_icmp_eq 20 dX11_cross_12 (by decide) (by omega) (by omega) (fun c12 => ?_) (fun c12 => ?_)
  · exact k20 _ (by omega)
  refine xe_iload_n dX11_cross_15 rfl ?_
  refine xe_iload_n dX11_cross_16 rfl ?_
  refine xn_icmp_ne 22 dX11_cross_17 (by decide) (by omega) (by omega) (fun c17 => ?_) (fun c17 => ?_)
  · rw [if_neg (by omega)]
    refine xe_iload_n dX11_cross_22 rfl ?_
    refine xe_iload_n dX11_cross_23 rfl ?_
    refine xe_iload_n dX11_cross_24 rfl ?_
    refine e_callSp (M_isBetween ha hb hc) dX11_cross_25 ksX11_57 rfl ?_
    refine xe_iload_n dX11_cross_28 rfl ?_
    refine xe_iload_n dX11_cross_29 rfl ?_
    refine xe_iload_n dX11_cross_30 rfl ?_
    refine e_callSp (M_isBetween ha hb hd) dX11_cross_31 ksX11_57 rfl ?_
    refine xe_icmp_eq 41 dX11_cross_34 (by decide) (fun e => ?_) (fun e => ?_)
    · have : mbt a b c = mbt a b d := by
        revert e
        cases mbt a b c <;> cases mbt a b d <;> decide
      refine xe_iconst (v := nI 0) dX11_cross_41 (by decide) ?_
      exact e_zret dX11_cross_42 rfl (by rw [this]; cases mbt a b d <;> rfl)
    · have : (mbt a b c != mbt a b d) = true := by
        revert e
        cases mbt a b c <;> cases mbt a b d <;> decide
      refine xe_iconst (v := nI 1) dX11_cross_37 (by decide) ?_
      refine xe_goto 42 dX11_cross_38 (by decide) ?_
      exact e_zret dX11_cross_42 rfl (by rw [this]; rfl)
  · exact k20 _ (by omega)
theorem M_asOne {t f o p : Nat} : Cl xs L mX11_asOne [.int (nI t), .int (nI f), .int (nI o), .int (nI p)] G σ G (pI σ (nI (enc (t, f, o, p)))) := by
  show Ev xs L mX11_asOne 0 [.int (nI t), .int (nI f), .int (nI o), .int (nI p)] [] G σ G _
  refine xe_iload_n dX11_asOne_0 rfl ?_
  refine xe_bipush (v := nI 12) dX11_asOne_1 (by decide) ?_
  first | refine xn_imul dX11_asOne_3 ?_ | refine xe_imul dX11_asOne_3 ?_
  refine xe_iload_n dX11_asOne_4 rfl ?_
  first | refine xn_iadd dX11_asOne_5 ?_ | refine xe_iadd dX11_asOne_5 ?_
  refine xe_bipush (v := nI 12) dX11_asOne_6 (by decide) ?_
  first | refine xn_imul dX11_asOne_8 ?_ | refine xe_imul dX11_asOne_8 ?_
  refine xe_iload_n dX11_asOne_9 rfl ?_
  first | refine xn_iadd dX11_asOne_10 ?_ | refine xe_iadd dX11_asOne_10 ?_
  refine xe_bipush (v := nI 12) dX11_asOne_11 (by decide) ?_
  first | refine xn_imul dX11_asOne_13 ?_ | refine xe_imul dX11_asOne_13 ?_
  refine xe_iload_n dX11_asOne_14 rfl ?_
  first | refine xn_iadd dX11_asOne_15 ?_ | refine xe_iadd dX11_asOne_15 ?_
  exact e_iret dX11_asOne_16 rfl rfl
theorem M_threadOf {s : xSt} (h : SO s) : Cl xs L mX11_threadOf [.int (nI (enc s))] G σ G (pI σ (nI s.1)) := by
  show Ev xs L mX11_threadOf 0 [.int (nI (enc s))] [] G σ G _
  have := enc_lt h
  refine xe_iload_n dX11_threadOf_0 rfl ?_
  refine xe_sipush (v := nI 1728) dX11_threadOf_1 (by decide) ?_
  refine xn_idiv dX11_threadOf_4 (by omega) (by decide) (by decide) ?_
  exact e_iret dX11_threadOf_5 rfl (by rw [enc_t h])
theorem M_fromOf {s : xSt} (h : SO s) : Cl xs L mX11_fromOf [.int (nI (enc s))] G σ G (pI σ (nI s.2.1)) := by
  show Ev xs L mX11_fromOf 0 [.int (nI (enc s))] [] G σ G _
  have := enc_lt h
  refine xe_iload_n dX11_fromOf_0 rfl ?_
  refine xe_sipush (v := nI 144) dX11_fromOf_1 (by decide) ?_
  refine xn_idiv dX11_fromOf_4 (by omega) (by decide) (by decide) ?_
  refine xe_bipush (v := nI 12) dX11_fromOf_5 (by decide) ?_
  refine xn_irem dX11_fromOf_7 (by omega) (by decide) (by decide) ?_
  exact e_iret dX11_fromOf_8 rfl (by rw [enc_f h])
theorem M_toOf {s : xSt} (h : SO s) : Cl xs L mX11_toOf [.int (nI (enc s))] G σ G (pI σ (nI s.2.2.1)) := by
  show Ev xs L mX11_toOf 0 [.int (nI (enc s))] [] G σ G _
  have := enc_lt h
  refine xe_iload_n dX11_toOf_0 rfl ?_
  refine xe_bipush (v := nI 12) dX11_toOf_1 (by decide) ?_
  refine xn_idiv dX11_toOf_3 (by omega) (by decide) (by decide) ?_
  refine xe_bipush (v := nI 12) dX11_toOf_4 (by decide) ?_
  refine xn_irem dX11_toOf_6 (by omega) (by decide) (by decide) ?_
  exact e_iret dX11_toOf_7 rfl (by rw [enc_o h])
theorem M_whichOf {s : xSt} (h : SO s) : Cl xs L mX11_whichOf [.int (nI (enc s))] G σ G (pI σ (nI s.2.2.2)) := by
  show Ev xs L mX11_whichOf 0 [.int (nI (enc s))] [] G σ G _
  have := enc_lt h
  refine xe_iload_n dX11_whichOf_0 rfl ?_
  refine xe_bipush (v := nI 12) dX11_whichOf_1 (by decide) ?_
  refine xn_irem dX11_whichOf_3 (by omega) (by decide) (by decide) ?_
  exact e_iret dX11_whichOf_4 rfl (by rw [enc_p h])
theorem M_crossOnes {s u : xSt} (h : SO s) (hu : SO u) : Cl xs L mX11_crossOnes [.int (nI (enc s)), .int (nI (enc u))] G σ G (pI σ (bI (crS s u))) := by
  show Ev xs L mX11_crossOnes 0 [.int (nI (enc s)), .int (nI (enc u))] [] G σ G _
  refine xe_iload_n dX11_crossOnes_0 rfl ?_
  refine e_callSp (M_fromOf h) dX11_crossOnes_1 ksX11_61 rfl ?_
  refine xe_iload_n dX11_crossOnes_4 rfl ?_
  refine e_callSp (M_toOf h) dX11_crossOnes_5 ksX11_65 rfl ?_
  refine xe_iload_n dX11_crossOnes_8 rfl ?_
  refine e_callSp (M_fromOf hu) dX11_crossOnes_9 ksX11_61 rfl ?_
  refine xe_iload_n dX11_crossOnes_12 rfl ?_
  refine e_callSp (M_toOf hu) dX11_crossOnes_13 ksX11_65 rfl ?_
  refine e_callSp (M_cross h.2.1 h.2.2.1 hu.2.1 hu.2.2.1) dX11_crossOnes_16 ksX11_68 rfl ?_
  exact e_zret dX11_crossOnes_19 rfl rfl
theorem M_many (h : Lv σ v P) : Cl xs L mX11_many [.ref 110, .int (nI v)] GS σ GS (pI σ (nI P.2.2.2.length)) := by
  show Ev xs L mX11_many 0 [.ref 110, .int (nI v)] [] GS σ GS _
  refine xe_aload_n dX11_many_0 rfl ?_
  refine e_getA (G := GS) (r := 110) dX11_many_1 fdX11_13 rfl gk_110 gr_110_2 ?_
  refine xe_bipush (v := nI 53) dX11_many_4 (by decide) ?_
  refine xe_iload_n dX11_many_6 rfl ?_
  first | refine xn_imul dX11_many_7 ?_ | refine xe_imul dX11_many_7 ?_
  refine xe_iconst (v := nI 4) dX11_many_8 (by decide) ?_
  first | refine xn_iadd dX11_many_9 ?_ | refine xe_iadd dX11_many_9 ?_
  refine e_iald (G := GS) (a := 112) dX11_many_10 gk_112 gn_112 (by have := h.1; omega) (by decide) h.2.2.2.1 ?_
  exact e_iret dX11_many_11 rfl (by first | rfl | simp [*])
theorem M_laid (h : Lv σ v P) {i : Nat} {s : xSt} (hs : P.2.2.2[i]? = some s) : Cl xs L mX11_laid [.ref 110, .int (nI v), .int (nI i)] GS σ GS (pI σ (nI (enc s))) := by
  show Ev xs L mX11_laid 0 [.ref 110, .int (nI v), .int (nI i)] [] GS σ GS _
  refine xe_aload_n dX11_laid_0 rfl ?_
  refine e_getA (G := GS) (r := 110) dX11_laid_1 fdX11_13 rfl gk_110 gr_110_2 ?_
  refine xe_bipush (v := nI 53) dX11_laid_4 (by decide) ?_
  refine xe_iload_n dX11_laid_6 rfl ?_
  first | refine xn_imul dX11_laid_7 ?_ | refine xe_imul dX11_laid_7 ?_
  refine xe_iconst (v := nI 5) dX11_laid_8 (by decide) ?_
  first | refine xn_iadd dX11_laid_9 ?_ | refine xe_iadd dX11_laid_9 ?_
  refine xe_iload_n dX11_laid_10 rfl ?_
  first | refine xn_iadd dX11_laid_11 ?_ | refine xe_iadd dX11_laid_11 ?_
  refine e_iald (G := GS) (a := 112) dX11_laid_12 gk_112 gn_112 (by have := h.1; have := Ls.lt hs; have := h.2.1.len; omega) (by decide) (h.2.2.2.2 i s hs) ?_
  exact e_iret dX11_laid_13 rfl (by first | rfl | simp [*])
theorem M_isThread {T : Nat} (hT : T < 2 ^ 31) (h : σ.1 110 0 = nI T) {x : Int32} : Cl xs L mX11_isThread [.ref 110, .int x] GS σ GS (pI σ (bI (hasT T x))) := by
  show Ev xs L mX11_isThread 0 [.ref 110, .int x] [] GS σ GS _
  refine xe_iload_n dX11_isThread_0 rfl ?_
  refine xe_i2l dX11_isThread_1 ?_
  refine xe_lconst (v := lN 0) dX11_isThread_2 (by decide) ?_
  refine xe_aload_n dX11_isThread_3 rfl ?_
  refine e_getI (G := GS) (r := 110) dX11_isThread_4 fdX11_115 rfl gk_110 h ?_
  refine xe_iconst (v := nI 1) dX11_isThread_7 (by decide) ?_
  refine xe_isub dX11_isThread_8 ?_
  refine xe_i2l dX11_isThread_9 ?_
  rw [← in_hasT hT]
  refine e_callSp (M_in) dX11_isThread_10 ksX11_49 rfl ?_
  exact e_zret dX11_isThread_13 rfl rfl
theorem M_kindOf (hv : v < 2) (h : Kd σ v P) {j : Nat} (hj : j < P.1) (h4 : P.1 ≤ 4) : Cl xs L mX11_kindOf [.ref 110, .int (nI v), .int (nI j)] GS σ GS (pI σ (nI (P.2.1 j))) := by
  show Ev xs L mX11_kindOf 0 [.ref 110, .int (nI v), .int (nI j)] [] GS σ GS _
  obtain ⟨r, h1, h2⟩ := h
  have h2 := h2 j hj
  refine xe_iload_n dX11_kindOf_0 rfl ?_
  refine xe_iconst (v := nI 1) dX11_kindOf_1 (by decide) ?_
  refine xn_icmp_ne 21 dX11_kindOf_2 (by decide) (by omega) (by omega) (fun c => ?_) (fun c => ?_)
  · rw [if_neg (fun q => c q.1)] at h2
    refine xe_aload_n dX11_kindOf_21 rfl ?_
    refine e_getA (G := GS) (r := 110) dX11_kindOf_22 fdX11_7 rfl gk_110 gr_110_1 ?_
    refine xe_iload_n dX11_kindOf_25 rfl ?_
    refine e_iald (G := GS) (a := 111) dX11_kindOf_26 gk_111 gn_111 (by omega) (by decide) h2 ?_
    exact e_iret dX11_kindOf_27 rfl rfl
  · refine xe_aload_n dX11_kindOf_5 rfl ?_
    refine xe_getZ (G := GS) (r := 110) dX11_kindOf_6 fdX11_78 rfl gk_110 ?_
    rw [h1]
    refine xz_if_eq 21 dX11_kindOf_9 (by decide) (fun d => ?_) (fun d => ?_)
    · rw [if_neg (fun q => by rw [d] at q; exact absurd q.2 (by decide))] at h2
      refine xe_aload_n dX11_kindOf_21 rfl ?_
      refine e_getA (G := GS) (r := 110) dX11_kindOf_22 fdX11_7 rfl gk_110 gr_110_1 ?_
      refine xe_iload_n dX11_kindOf_25 rfl ?_
      refine e_iald (G := GS) (a := 111) dX11_kindOf_26 gk_111 gn_111 (by omega) (by decide) h2 ?_
      exact e_iret dX11_kindOf_27 rfl rfl
    · rw [if_pos ⟨c, d⟩] at h2
      refine xe_aload_n dX11_kindOf_12 rfl ?_
      refine e_getA (G := GS) (r := 110) dX11_kindOf_13 fdX11_16 rfl gk_110 gr_110_3 ?_
      refine xe_iload_n dX11_kindOf_16 rfl ?_
      refine e_iald (G := GS) (a := 113) dX11_kindOf_17 gk_113 gn_113 (by omega) (by decide) h2 ?_
      refine xe_goto 27 dX11_kindOf_18 (by decide) ?_
      exact e_iret dX11_kindOf_27 rfl rfl
theorem M_stretchesOf (h : Lv σ v P) {j : Nat} (hj : j < 2 ^ 31) : Cl xs L mX11_stretchesOf [.ref 110, .int (nI v), .int (nI j)] GS σ GS (pI σ (nI (cnt P.2.2.2 j))) := by
  show Ev xs L mX11_stretchesOf 0 [.ref 110, .int (nI v), .int (nI j), .null, .null] [] GS σ GS _
  have h48 := h.2.1.len
  have key := goZ P.2.2.2 (fun a s => if s.1 == j then a + 1 else a) (fun i a => Ev xs L mX11_stretchesOf 5 [.ref 110, .int (nI v), .int (nI j), .int (nI a), .int (nI i)] [] GS σ GS (pI σ (nI (cnt P.2.2.2 j)))) (cnt P.2.2.2 j) (by
      refine xe_iload dX11_stretchesOf_5 rfl ?_
      refine xe_aload_n dX11_stretchesOf_7 rfl ?_
      refine xe_iload_n dX11_stretchesOf_8 rfl ?_
      refine e_callVp (G := GS) (r := 110) (M_many h) dX11_stretchesOf_9 kvX11_121 gk_110 rfl ?_
      refine xe_icmp_ge 43 dX11_stretchesOf_12 (by decide) (fun _ => ?_) (fun c => absurd (nI_le (Nat.le_refl _) (by omega)) c)
      refine xe_iload_n dX11_stretchesOf_43 rfl ?_
      exact e_iret dX11_stretchesOf_44 rfl rfl) (by
      intro i s a hs k
      have hl := Ls.lt hs
      obtain ⟨o1, o2, o3, o4⟩ := h.so hs
      refine xe_iload dX11_stretchesOf_5 rfl ?_
      refine xe_aload_n dX11_stretchesOf_7 rfl ?_
      refine xe_iload_n dX11_stretchesOf_8 rfl ?_
      refine e_callVp (G := GS) (r := 110) (M_many h) dX11_stretchesOf_9 kvX11_121 gk_110 rfl ?_
      refine xe_icmp_ge 43 dX11_stretchesOf_12 (by decide) (fun c => absurd c (nI_ge hl (by omega))) (fun _ => ?_)
      refine xe_iload_n dX11_stretchesOf_15 rfl ?_
      refine xe_aload_n dX11_stretchesOf_16 rfl ?_
      refine xe_iload_n dX11_stretchesOf_17 rfl ?_
      refine xe_iload dX11_stretchesOf_18 rfl ?_
      refine e_callVp (G := GS) (r := 110) (M_laid h hs) dX11_stretchesOf_20 kvX11_124 gk_110 rfl ?_
      refine e_callSp (M_threadOf (h.so hs)) dX11_stretchesOf_23 ksX11_127 rfl ?_
      refine xe_iload_n dX11_stretchesOf_26 rfl ?_
      refine xn_icmp_ne 34 dX11_stretchesOf_27 (by decide) (by omega) (by omega) (fun c => ?_) (fun c => ?_)
      · rw [beq_false_of_ne c] at k
        refine xe_iconst (v := nI 0) dX11_stretchesOf_34 (by decide) ?_
        first | refine xn_iadd dX11_stretchesOf_35 ?_ | refine xe_iadd dX11_stretchesOf_35 ?_
        refine xe_istore_n dX11_stretchesOf_36 (by decide) ?_
        refine xn_inc dX11_stretchesOf_37 rfl (by decide) ?_
        refine xe_goto 5 dX11_stretchesOf_40 (by decide) ?_
        exact k
      · rw [c, beq_self_eq_true] at k
        refine xe_iconst (v := nI 1) dX11_stretchesOf_30 (by decide) ?_
        refine xe_goto 35 dX11_stretchesOf_31 (by decide) ?_
        first | refine xn_iadd dX11_stretchesOf_35 ?_ | refine xe_iadd dX11_stretchesOf_35 ?_
        refine xe_istore_n dX11_stretchesOf_36 (by decide) ?_
        refine xn_inc dX11_stretchesOf_37 rfl (by decide) ?_
        refine xe_goto 5 dX11_stretchesOf_40 (by decide) ?_
        exact k) P.2.2.2.length 0 0 (by omega) (by rw [List.drop_zero, fold_cnt, Nat.zero_add]; rfl)
  refine xe_iconst (v := nI 0) dX11_stretchesOf_0 (by decide) ?_
  refine xe_istore_n dX11_stretchesOf_1 (by decide) ?_
  refine xe_iconst (v := nI 0) dX11_stretchesOf_2 (by decide) ?_
  refine xe_istore dX11_stretchesOf_3 (by decide) ?_
  exact key
theorem M_longOf (h : Lv σ v P) {j : Nat} (hj : j < 2 ^ 31) : Cl xs L mX11_longOf [.ref 110, .int (nI v), .int (nI j)] GS σ GS (pI σ (nI (lenT P.2.2.2 j))) := by
  show Ev xs L mX11_longOf 0 [.ref 110, .int (nI v), .int (nI j), .null, .null] [] GS σ GS _
  have h48 := h.2.1.len
  have key := goZ P.2.2.2 (fun a s => a + if s.1 = j then lnb s.2.1 s.2.2.1 else 0) (fun i a => Ev xs L mX11_longOf 5 [.ref 110, .int (nI v), .int (nI j), .int (nI a), .int (nI i)] [] GS σ GS (pI σ (nI (lenT P.2.2.2 j)))) (lenT P.2.2.2 j) (by
      refine xe_iload dX11_longOf_5 rfl ?_
      refine xe_aload_n dX11_longOf_7 rfl ?_
      refine xe_iload_n dX11_longOf_8 rfl ?_
      refine e_callVp (G := GS) (r := 110) (M_many h) dX11_longOf_9 kvX11_121 gk_110 rfl ?_
      refine xe_icmp_ge 65 dX11_longOf_12 (by decide) (fun _ => ?_) (fun c => absurd (nI_le (Nat.le_refl _) (by omega)) c)
      refine xe_iload_n dX11_longOf_65 rfl ?_
      exact e_iret dX11_longOf_66 rfl rfl) (by
      intro i s a hs k
      have hl := Ls.lt hs
      obtain ⟨o1, o2, o3, o4⟩ := h.so hs
      refine xe_iload dX11_longOf_5 rfl ?_
      refine xe_aload_n dX11_longOf_7 rfl ?_
      refine xe_iload_n dX11_longOf_8 rfl ?_
      refine e_callVp (G := GS) (r := 110) (M_many h) dX11_longOf_9 kvX11_121 gk_110 rfl ?_
      refine xe_icmp_ge 65 dX11_longOf_12 (by decide) (fun c => absurd c (nI_ge hl (by omega))) (fun _ => ?_)
      refine xe_iload_n dX11_longOf_15 rfl ?_
      refine xe_aload_n dX11_longOf_16 rfl ?_
      refine xe_iload_n dX11_longOf_17 rfl ?_
      refine xe_iload dX11_longOf_18 rfl ?_
      refine e_callVp (G := GS) (r := 110) (M_laid h hs) dX11_longOf_20 kvX11_124 gk_110 rfl ?_
      refine e_callSp (M_threadOf (h.so hs)) dX11_longOf_23 ksX11_127 rfl ?_
      refine xe_iload_n dX11_longOf_26 rfl ?_
      refine xn_icmp_ne 56 dX11_longOf_27 (by decide) (by omega) (by omega) (fun c => ?_) (fun c => ?_)
      · rw [if_neg c] at k
        refine xe_iconst (v := nI 0) dX11_longOf_56 (by decide) ?_
        first | refine xn_iadd dX11_longOf_57 ?_ | refine xe_iadd dX11_longOf_57 ?_
        refine xe_istore_n dX11_longOf_58 (by decide) ?_
        refine xn_inc dX11_longOf_59 rfl (by decide) ?_
        refine xe_goto 5 dX11_longOf_62 (by decide) ?_
        exact k
      · rw [if_pos c] at k
        refine xe_aload_n dX11_longOf_30 rfl ?_
        refine xe_iload_n dX11_longOf_31 rfl ?_
        refine xe_iload dX11_longOf_32 rfl ?_
        refine e_callVp (G := GS) (r := 110) (M_laid h hs) dX11_longOf_34 kvX11_124 gk_110 rfl ?_
        refine e_callSp (M_fromOf (h.so hs)) dX11_longOf_37 ksX11_61 rfl ?_
        refine xe_aload_n dX11_longOf_40 rfl ?_
        refine xe_iload_n dX11_longOf_41 rfl ?_
        refine xe_iload dX11_longOf_42 rfl ?_
        refine e_callVp (G := GS) (r := 110) (M_laid h hs) dX11_longOf_44 kvX11_124 gk_110 rfl ?_
        refine e_callSp (M_toOf (h.so hs)) dX11_longOf_47 ksX11_65 rfl ?_
        refine e_callSp (M_longBy o2 o3 (h.ne hs)) dX11_longOf_50 ksX11_130 rfl ?_
        refine xe_goto 57 dX11_longOf_53 (by decide) ?_
        first | refine xn_iadd dX11_longOf_57 ?_ | refine xe_iadd dX11_longOf_57 ?_
        refine xe_istore_n dX11_longOf_58 (by decide) ?_
        refine xn_inc dX11_longOf_59 rfl (by decide) ?_
        refine xe_goto 5 dX11_longOf_62 (by decide) ?_
        exact k) P.2.2.2.length 0 0 (by omega) (by rw [List.drop_zero, fold_sum, Nat.zero_add]; rfl)
  refine xe_iconst (v := nI 0) dX11_longOf_0 (by decide) ?_
  refine xe_istore_n dX11_longOf_1 (by decide) ?_
  refine xe_iconst (v := nI 0) dX11_longOf_2 (by decide) ?_
  refine xe_istore dX11_longOf_3 (by decide) ?_
  exact key
/-- of all (th = -9), or of a thread -/
theorem M_crossedBy (h : Lv σ v P) {f o : Nat} {th : Int32} {p : Nat → Bool} (hf : f < 12) (ho : o < 12) (hp : (th = -9 ∧ ∀ t, p t = true) ∨ (∃ j : Nat, j < 2 ^ 31 ∧ th = nI j ∧ ∀ t, p t = (t == j))) : Cl xs L mX11_crossedBy [.ref 110, .int (nI v), .int th, .int (nI f), .int (nI o)] GS σ GS (pI σ (nI (crc p f o P.2.2.2))) := by
  show Ev xs L mX11_crossedBy 0 [.ref 110, .int (nI v), .int th, .int (nI f), .int (nI o), .null, .null, .null] [] GS σ GS _
  have h48 := h.2.1.len
  have key := goZ P.2.2.2 (fun a s => if p s.1 && crs4 s.2.1 s.2.2.1 f o then a + 1 else a) (fun i a => ∀ w : Value, Ev xs L mX11_crossedBy 6 [.ref 110, .int (nI v), .int th, .int (nI f), .int (nI o), .int (nI a), .int (nI i), w] [] GS σ GS (pI σ (nI (crc p f o P.2.2.2)))) (crc p f o P.2.2.2) (by
      intro w
      refine xe_iload dX11_crossedBy_6 rfl ?_
      refine xe_aload_n dX11_crossedBy_8 rfl ?_
      refine xe_iload_n dX11_crossedBy_9 rfl ?_
      refine e_callVp (G := GS) (r := 110) (M_many h) dX11_crossedBy_10 kvX11_121 gk_110 rfl ?_
      refine xe_icmp_ge 75 dX11_crossedBy_13 (by decide) (fun _ => ?_) (fun c => absurd (nI_le (Nat.le_refl _) (by omega)) c)
      refine xe_iload dX11_crossedBy_75 rfl ?_
      exact e_iret dX11_crossedBy_77 rfl rfl) (by
      intro i s a hs k w
      have hl := Ls.lt hs
      obtain ⟨o1, o2, o3, o4⟩ := h.so hs
      refine xe_iload dX11_crossedBy_6 rfl ?_
      refine xe_aload_n dX11_crossedBy_8 rfl ?_
      refine xe_iload_n dX11_crossedBy_9 rfl ?_
      refine e_callVp (G := GS) (r := 110) (M_many h) dX11_crossedBy_10 kvX11_121 gk_110 rfl ?_
      refine xe_icmp_ge 75 dX11_crossedBy_13 (by decide) (fun c => absurd c (nI_ge hl (by omega))) (fun _ => ?_)
      refine xe_aload_n dX11_crossedBy_16 rfl ?_
      refine xe_iload_n dX11_crossedBy_17 rfl ?_
      refine xe_iload dX11_crossedBy_18 rfl ?_
      refine e_callVp (G := GS) (r := 110) (M_laid h hs) dX11_crossedBy_20 kvX11_124 gk_110 rfl ?_
      refine xe_istore dX11_crossedBy_23 (by decide) ?_
      refine xe_iload dX11_crossedBy_25 rfl ?_
      refine xe_iload_n dX11_crossedBy_27 rfl ?_
      refine xe_bipush (v := -9) dX11_crossedBy_28 (by decide) ?_
      have no : (p s.1 && crs4 s.2.1 s.2.2.1 f o) = false → Ev xs L mX11_crossedBy 65 [.ref 110, .int (nI v), .int th, .int (nI f), .int (nI o), .int (nI a), .int (nI i), .int (nI (enc s))] [.int (nI a)] GS σ GS (pI σ (nI (crc p f o P.2.2.2))) := by
        intro hn
        rw [hn] at k
        refine xe_iconst (v := nI 0) dX11_crossedBy_65 (by decide) ?_
        first | refine xn_iadd dX11_crossedBy_66 ?_ | refine xe_iadd dX11_crossedBy_66 ?_
        refine xe_istore dX11_crossedBy_67 (by decide) ?_
        refine xn_inc dX11_crossedBy_69 rfl (by decide) ?_
        refine xe_goto 6 dX11_crossedBy_72 (by decide) ?_
        exact k _
      have yes : p s.1 = true → Ev xs L mX11_crossedBy 42 [.ref 110, .int (nI v), .int th, .int (nI f), .int (nI o), .int (nI a), .int (nI i), .int (nI (enc s))] [.int (nI a)] GS σ GS (pI σ (nI (crc p f o P.2.2.2))) := by
        intro hy
        refine xe_iload_n dX11_crossedBy_42 rfl ?_
        refine xe_iload dX11_crossedBy_43 rfl ?_
        refine xe_iload dX11_crossedBy_45 rfl ?_
        refine e_callSp (M_fromOf (h.so hs)) dX11_crossedBy_47 ksX11_61 rfl ?_
        refine xe_iload dX11_crossedBy_50 rfl ?_
        refine e_callSp (M_toOf (h.so hs)) dX11_crossedBy_52 ksX11_65 rfl ?_
        refine e_callSp (M_cross hf ho o2 o3) dX11_crossedBy_55 ksX11_68 rfl ?_
        rw [crs4_sym f hf o ho _ o2 _ o3]
        refine xz_if_eq 65 dX11_crossedBy_58 (by decide) (fun c => ?_) (fun c => ?_)
        · exact no (by rw [c, Bool.and_false])
        · rw [hy, c] at k
          refine xe_iconst (v := nI 1) dX11_crossedBy_61 (by decide) ?_
          refine xe_goto 66 dX11_crossedBy_62 (by decide) ?_
          first | refine xn_iadd dX11_crossedBy_66 ?_ | refine xe_iadd dX11_crossedBy_66 ?_
          refine xe_istore dX11_crossedBy_67 (by decide) ?_
          refine xn_inc dX11_crossedBy_69 rfl (by decide) ?_
          refine xe_goto 6 dX11_crossedBy_72 (by decide) ?_
          exact k _
      rcases hp with ⟨e, hh⟩ | ⟨j, hj, e, hh⟩
      · subst e
        refine xe_icmp_eq 42 dX11_crossedBy_30 (by decide) (fun _ => ?_) (fun c => absurd rfl c)
        exact yes (hh _)
      · subst e
        refine xe_icmp_eq 42 dX11_crossedBy_30 (by decide) (fun c => absurd c (nI_m9 hj)) (fun _ => ?_)
        refine xe_iload dX11_crossedBy_33 rfl ?_
        refine e_callSp (M_threadOf (h.so hs)) dX11_crossedBy_35 ksX11_127 rfl ?_
        refine xe_iload_n dX11_crossedBy_38 rfl ?_
        refine xn_icmp_ne 65 dX11_crossedBy_39 (by decide) (by omega) (by omega) (fun c => ?_) (fun c => ?_)
        · exact no (by rw [hh, beq_false_of_ne c]; rfl)
        · exact yes (by rw [hh, c]; exact beq_self_eq_true _)) P.2.2.2.length 0 0 (by omega) (by rw [List.drop_zero, fold_cnt, Nat.zero_add]; rfl)
  refine xe_iconst (v := nI 0) dX11_crossedBy_0 (by decide) ?_
  refine xe_istore dX11_crossedBy_1 (by decide) ?_
  refine xe_iconst (v := nI 0) dX11_crossedBy_3 (by decide) ?_
  refine xe_istore dX11_crossedBy_4 (by decide) ?_
  exact key .null
theorem M_mayWind (h : Lv σ v P) (hk : Kd σ v P) {j n : Nat} (hj : j < P.1) (hn : n < 2 ^ 31) : Cl xs L mX11_mayWind [.ref 110, .int (nI v), .int (nI j), .int (nI n)] GS σ GS (pI σ (bI (mayW P j n))) := by
  show Ev xs L mX11_mayWind 0 [.ref 110, .int (nI v), .int (nI j), .int (nI n), .null, .null] [] GS σ GS _
  obtain ⟨hv, hp, i1, i2, i3⟩ := id h
  have h4 := hp.1
  have h48 := hp.len
  obtain ⟨t4, t5, t6⟩ := hp.2.1 j hj
  have no : ∀ lv : List Value, mayW P j n = false → Ev xs L mX11_mayWind 37 lv [] GS σ GS (pI σ (bI (mayW P j n))) := by
    intro lv e
    rw [e]
    refine xe_iconst (v := nI 0) dX11_mayWind_37 (by decide) ?_
    exact e_zret dX11_mayWind_38 rfl rfl
  refine xe_aload_n dX11_mayWind_0 rfl ?_
  refine e_getA (G := GS) (r := 110) dX11_mayWind_1 fdX11_13 rfl gk_110 gr_110_2 ?_
  refine xe_bipush (v := nI 53) dX11_mayWind_4 (by decide) ?_
  refine xe_iload_n dX11_mayWind_6 rfl ?_
  first | refine xn_imul dX11_mayWind_7 ?_ | refine xe_imul dX11_mayWind_7 ?_
  refine xe_iload_n dX11_mayWind_8 rfl ?_
  first | refine xn_iadd dX11_mayWind_9 ?_ | refine xe_iadd dX11_mayWind_9 ?_
  refine e_iald (G := GS) (a := 112) dX11_mayWind_10 gk_112 gn_112 (by omega) (by decide) (i1 j hj) ?_
  refine xe_istore dX11_mayWind_11 (by decide) ?_
  refine xe_iload_n dX11_mayWind_13 rfl ?_
  refine e_callSp (M_isNail) dX11_mayWind_14 ksX11_133 rfl ?_
  refine xz_if_eq 37 dX11_mayWind_17 (by decide) (fun c17 => ?_) (fun c17 => ?_)
  · refine no _ ?_
    have : ¬ n ≤ 11 := fun q => by
      rw [outQ_n (by decide) (Nat.zero_le _) q] at c17
      exact absurd c17 (by decide)
    unfold mayW
    rw [decide_eq_false this]
    simp
  have hn11 : n ≤ 11 := by
    have c17 : outQ (nI n) 0 11 = false := by
      revert c17
      cases outQ (nI n) 0 11 <;> decide
    obtain ⟨q, -, hq, e⟩ := outQ_of (by decide) (by decide) c17
    have := (nI_eq hn (by omega)).mp e
    omega
  refine xe_iload_n dX11_mayWind_20 rfl ?_
  refine xe_iload dX11_mayWind_21 rfl ?_
  refine xn_icmp_eq 37 dX11_mayWind_23 (by decide) (by omega) (by omega) (fun c23 => ?_) (fun c23 => ?_)
  · refine no _ ?_
    unfold mayW
    rw [decide_eq_true c23]
    simp
  refine xe_aload_n dX11_mayWind_26 rfl ?_
  refine xe_iload_n dX11_mayWind_27 rfl ?_
  refine xe_iload_n dX11_mayWind_28 rfl ?_
  refine e_callVp (G := GS) (r := 110) (M_stretchesOf h (by omega)) dX11_mayWind_29 kvX11_137 gk_110 rfl ?_
  refine xe_bipush (v := nI 12) dX11_mayWind_32 (by decide) ?_
  refine xn_icmp_lt 39 dX11_mayWind_34 (by decide) (by omega) (by omega) (fun c34 => ?_) (fun c34 => ?_)
  · have base : mayW P j n = (match P.2.1 j with
          | 0 => true
          | 1 => !decide (apN (P.2.2.1 j) n = 1)
          | 2 => decide (crc (fun t => t == j) (P.2.2.1 j) n P.2.2.2 = 0)
          | _ => !decide (apN (P.2.2.1 j) n = 1) && decide (lenT P.2.2.2 j + lnb (P.2.2.1 j) n ≤ 80)) := by
      unfold mayW
      rw [decide_eq_true hj, decide_eq_true hn11, decide_eq_false c23, decide_eq_true c34]
      rfl
    refine xe_aload_n dX11_mayWind_39 rfl ?_
    refine xe_iload_n dX11_mayWind_40 rfl ?_
    refine xe_iload_n dX11_mayWind_41 rfl ?_
    refine e_callVp (G := GS) (r := 110) (M_kindOf hv hk hj h4) dX11_mayWind_42 kvX11_140 gk_110 rfl ?_
    obtain ⟨ma, mb, mc⟩ := map2_all (P.2.2.1 j) t5 n (by omega)
    have hcl := crc_le (fun t => t == j) (P.2.2.1 j) n P.2.2.2
    have l1 := lenT_le P.2.2.2 j
    have l2 := lnb_le (P.2.2.1 j) n
    generalize P.2.1 j = kd at base t4 ⊢
    rw [base]
    match kd, t4 with
    | 0, _ =>
      refine xe_istore dX11_mayWind_45 (by decide) ?_
      refine xe_iload dX11_mayWind_47 rfl ?_
      refine xe_iconst (v := nI 1) dX11_mayWind_49 (by decide) ?_
      refine xe_icmp_eq 59 dX11_mayWind_50 (by decide) (fun c => absurd c (by decide)) (fun _ => ?_)
      refine xe_iload dX11_mayWind_53 rfl ?_
      refine xe_iconst (v := nI 3) dX11_mayWind_55 (by decide) ?_
      refine xe_icmp_ne 71 dX11_mayWind_56 (by decide) (fun _ => ?_) (fun c => absurd c (by decide))
      refine xe_iload dX11_mayWind_71 rfl ?_
      refine xe_iconst (v := nI 2) dX11_mayWind_73 (by decide) ?_
      refine xe_icmp_ne 91 dX11_mayWind_74 (by decide) (fun _ => ?_) (fun c => absurd c (by decide))
      refine xe_iload dX11_mayWind_91 rfl ?_
      refine xe_iconst (v := nI 3) dX11_mayWind_93 (by decide) ?_
      refine xe_icmp_ne 115 dX11_mayWind_94 (by decide) (fun _ => ?_) (fun c => absurd c (by decide))
      refine xe_iconst (v := nI 1) dX11_mayWind_115 (by decide) ?_
      refine xe_goto 120 dX11_mayWind_116 (by decide) ?_
      exact e_zret dX11_mayWind_120 rfl rfl
    | 1, _ =>
      refine xe_istore dX11_mayWind_45 (by decide) ?_
      refine xe_iload dX11_mayWind_47 rfl ?_
      refine xe_iconst (v := nI 1) dX11_mayWind_49 (by decide) ?_
      refine xe_icmp_eq 59 dX11_mayWind_50 (by decide) (fun _ => ?_) (fun c => absurd rfl c)
      refine xe_iload dX11_mayWind_59 rfl ?_
      refine xe_iload_n dX11_mayWind_61 rfl ?_
      refine e_callSp (M_apart t5 (show n < 12 by omega)) dX11_mayWind_62 ksX11_53 rfl ?_
      refine xe_iconst (v := nI 1) dX11_mayWind_65 (by decide) ?_
      refine xn_icmp_ne 71 dX11_mayWind_66 (by decide) (by omega) (by omega) (fun c => ?_) (fun c => ?_)
      · rw [decide_eq_false c] at ma
        refine xe_iload dX11_mayWind_71 rfl ?_
        refine xe_iconst (v := nI 2) dX11_mayWind_73 (by decide) ?_
        refine xe_icmp_ne 91 dX11_mayWind_74 (by decide) (fun _ => ?_) (fun c => absurd c (by decide))
        refine xe_iload dX11_mayWind_91 rfl ?_
        refine xe_iconst (v := nI 3) dX11_mayWind_93 (by decide) ?_
        refine xe_icmp_ne 115 dX11_mayWind_94 (by decide) (fun _ => ?_) (fun c => absurd c (by decide))
        refine xe_iconst (v := nI 1) dX11_mayWind_115 (by decide) ?_
        refine xe_goto 120 dX11_mayWind_116 (by decide) ?_
        exact e_zret dX11_mayWind_120 rfl (by rw [← ma]; rfl)
      · rw [decide_eq_true c] at ma
        refine xe_iconst (v := nI 0) dX11_mayWind_69 (by decide) ?_
        exact e_zret dX11_mayWind_70 rfl (by rw [← ma]; rfl)
    | 2, _ =>
      refine xe_istore dX11_mayWind_45 (by decide) ?_
      refine xe_iload dX11_mayWind_47 rfl ?_
      refine xe_iconst (v := nI 1) dX11_mayWind_49 (by decide) ?_
      refine xe_icmp_eq 59 dX11_mayWind_50 (by decide) (fun c => absurd c (by decide)) (fun _ => ?_)
      refine xe_iload dX11_mayWind_53 rfl ?_
      refine xe_iconst (v := nI 3) dX11_mayWind_55 (by decide) ?_
      refine xe_icmp_ne 71 dX11_mayWind_56 (by decide) (fun _ => ?_) (fun c => absurd c (by decide))
      refine xe_iload dX11_mayWind_71 rfl ?_
      refine xe_iconst (v := nI 2) dX11_mayWind_73 (by decide) ?_
      refine xe_icmp_ne 91 dX11_mayWind_74 (by decide) (fun c => absurd c (fun q => q rfl)) (fun _ => ?_)
      refine xe_aload_n dX11_mayWind_77 rfl ?_
      refine xe_iload_n dX11_mayWind_78 rfl ?_
      refine xe_iload_n dX11_mayWind_79 rfl ?_
      refine xe_iload dX11_mayWind_80 rfl ?_
      refine xe_iload_n dX11_mayWind_82 rfl ?_
      refine e_callVp (G := GS) (r := 110) (M_crossedBy h (p := fun t => t == j) t5 (show n < 12 by omega) (Or.inr ⟨j, by omega, rfl, fun _ => rfl⟩)) dX11_mayWind_83 kvX11_143 gk_110 rfl ?_
      refine xn_if_le 91 dX11_mayWind_86 (by decide) (by omega) (fun c => ?_) (fun c => ?_)
      · refine xe_iload dX11_mayWind_91 rfl ?_
        refine xe_iconst (v := nI 3) dX11_mayWind_93 (by decide) ?_
        refine xe_icmp_ne 115 dX11_mayWind_94 (by decide) (fun _ => ?_) (fun c => absurd c (by decide))
        refine xe_iconst (v := nI 1) dX11_mayWind_115 (by decide) ?_
        refine xe_goto 120 dX11_mayWind_116 (by decide) ?_
        exact e_zret dX11_mayWind_120 rfl (by simp [c, bI, nI_one])
      · refine xe_iconst (v := nI 0) dX11_mayWind_89 (by decide) ?_
        exact e_zret dX11_mayWind_90 rfl (by simp [Nat.ne_of_gt c, bI, nI_0])
    | 3, _ =>
      refine xe_istore dX11_mayWind_45 (by decide) ?_
      refine xe_iload dX11_mayWind_47 rfl ?_
      refine xe_iconst (v := nI 1) dX11_mayWind_49 (by decide) ?_
      refine xe_icmp_eq 59 dX11_mayWind_50 (by decide) (fun c => absurd c (by decide)) (fun _ => ?_)
      refine xe_iload dX11_mayWind_53 rfl ?_
      refine xe_iconst (v := nI 3) dX11_mayWind_55 (by decide) ?_
      refine xe_icmp_ne 71 dX11_mayWind_56 (by decide) (fun c => absurd c (fun q => q rfl)) (fun _ => ?_)
      refine xe_iload dX11_mayWind_59 rfl ?_
      refine xe_iload_n dX11_mayWind_61 rfl ?_
      refine e_callSp (M_apart t5 (show n < 12 by omega)) dX11_mayWind_62 ksX11_53 rfl ?_
      refine xe_iconst (v := nI 1) dX11_mayWind_65 (by decide) ?_
      refine xn_icmp_ne 71 dX11_mayWind_66 (by decide) (by omega) (by omega) (fun c => ?_) (fun c => ?_)
      · rw [decide_eq_false c] at ma
        refine xe_iload dX11_mayWind_71 rfl ?_
        refine xe_iconst (v := nI 2) dX11_mayWind_73 (by decide) ?_
        refine xe_icmp_ne 91 dX11_mayWind_74 (by decide) (fun _ => ?_) (fun c => absurd c (by decide))
        refine xe_iload dX11_mayWind_91 rfl ?_
        refine xe_iconst (v := nI 3) dX11_mayWind_93 (by decide) ?_
        refine xe_icmp_ne 115 dX11_mayWind_94 (by decide) (fun c => absurd c (fun q => q rfl)) (fun _ => ?_)
        refine xe_aload_n dX11_mayWind_97 rfl ?_
        refine xe_iload_n dX11_mayWind_98 rfl ?_
        refine xe_iload_n dX11_mayWind_99 rfl ?_
        refine e_callVp (G := GS) (r := 110) (M_longOf h (by omega)) dX11_mayWind_100 kvX11_147 gk_110 rfl ?_
        refine xe_iload dX11_mayWind_103 rfl ?_
        refine xe_iload_n dX11_mayWind_105 rfl ?_
        refine e_callSp (M_longBy t5 (show n < 12 by omega) (fun q => c23 q.symm)) dX11_mayWind_106 ksX11_130 rfl ?_
        first | refine xn_iadd dX11_mayWind_109 ?_ | refine xe_iadd dX11_mayWind_109 ?_
        refine xe_bipush (v := nI 80) dX11_mayWind_110 (by decide) ?_
        refine xn_icmp_gt 119 dX11_mayWind_112 (by decide) (by omega) (by omega) (fun c2 => ?_) (fun c2 => ?_)
        · refine xe_iconst (v := nI 0) dX11_mayWind_119 (by decide) ?_
          exact e_zret dX11_mayWind_120 rfl (by rw [← ma, decide_eq_false (show ¬ lenT P.2.2.2 j + lnb (P.2.2.1 j) n ≤ 80 by omega)]; rfl)
        · refine xe_iconst (v := nI 1) dX11_mayWind_115 (by decide) ?_
          refine xe_goto 120 dX11_mayWind_116 (by decide) ?_
          exact e_zret dX11_mayWind_120 rfl (by rw [← ma, decide_eq_true c2]; rfl)
      · rw [decide_eq_true c] at ma
        refine xe_iconst (v := nI 0) dX11_mayWind_69 (by decide) ?_
        exact e_zret dX11_mayWind_70 rfl (by rw [← ma]; rfl)
    | k + 4, hk => omega
  · refine no _ ?_
    unfold mayW
    rw [decide_eq_false (by omega : ¬ cnt P.2.2.2 j < 12)]
    simp
end ML
