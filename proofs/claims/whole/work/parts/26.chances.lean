/-! shares, chances, years -/
def euc : Nat → Nat → Nat → Nat
  | 0, h, _ => h
  | f + 1, h, l => if l = 0 then h else euc f l (h % l)
theorem euc_0 : ∀ f h, euc f h 0 = h
  | 0, _ => rfl
  | _ + 1, _ => rfl
theorem euc_gcd : ∀ k f h l, l < 2 ^ k → 2 * k ≤ f → euc f h l = Nat.gcd h l
  | 0, f, h, l, hl, _ => by
    have : l = 0 := by
      have : l < 1 := hl
      omega
    subst this
    rw [euc_0, Nat.gcd_zero_right]
  | k + 1, f, h, l, hl, hf => by
    by_cases l0 : l = 0
    · subst l0
      rw [euc_0, Nat.gcd_zero_right]
    · match f, hf with
      | f + 2, hf =>
        show (if l = 0 then h else euc (f + 1) l (h % l)) = _
        rw [if_neg l0]
        have g1 : Nat.gcd h l = Nat.gcd l (h % l) := by rw [Nat.gcd_comm h l, Nat.gcd_rec l h, Nat.gcd_comm]
        rw [g1]
        have hr : h % l < l := Nat.mod_lt _ (by omega)
        generalize h % l = r at hr
        by_cases r0 : r = 0
        · subst r0
          rw [euc_0, Nat.gcd_zero_right]
        · show (if r = 0 then l else euc f r (l % r)) = _
          rw [if_neg r0]
          have g2 : Nat.gcd l r = Nat.gcd r (l % r) := by rw [Nat.gcd_comm l r, Nat.gcd_rec r l, Nat.gcd_comm]
          rw [g2]
          refine euc_gcd k f r (l % r) ?_ (by omega)
          rw [Nat.pow_succ] at hl
          have h1 : l % r < r := Nat.mod_lt _ (by omega)
          rcases Nat.lt_or_ge l (2 * r) with q | q
          · have : l % r = l - r := by
              rw [Nat.mod_eq_sub_mod (by omega), Nat.mod_eq_of_lt (by omega)]
            omega
          · omega
def tld (u : Bool) (a b : Nat) : Nat := if u then a / Nat.gcd a b else b / Nat.gcd a b
def twI (z : List xSt) (t c o : Nat) : Nat := c + if o = t then 2 * cro z t o else cro z t o
def tws (z : List xSt) (T t : Nat) : Nat := foldN (twI z t) 0 T 0
def camI (z : List xSt) (u a c b : Nat) : Nat := if u.testBit a && u.testBit b then c + cro z a b else c
def camO (z : List xSt) (u c a : Nat) : Nat := foldN (camI z u a) a (4 - a) c
def cam (z : List xSt) (u : Nat) : Nat := foldN (camO z u) 0 4 0
def wofI (x u c i : Nat) : Nat := c * if u.testBit i then 10 - x else x
def wof (T x u : Nat) : Nat := foldN (wofI x u) 0 T 1
def wsI (z : List xSt) (T v x c u : Nat) : Nat := if v ≤ cam z u then c + wof T x u else c
def wsn (z : List xSt) (T v x : Nat) : Nat := foldN (wsI z T v x) 0 (2 ^ T) 0
def nxs (x : Int64) : Int64 := x * 6364136223846793005 + 1442695040888963407
def drw (x : Int64) : Nat := x.toBitVec.toNat / 2 ^ 33 % 60
def lvy (P : xP) (d : Nat) : xP := if d < 48 then (doW P (d / 12) (d % 12)).getD P else if d < 52 then (doU P (d - 48)).getD P else if d < 54 then (doC P (d - 52)).getD P else if d < 57 then trnP P else ovrP P
theorem cam_lt {z : List xSt} (h : z.length ≤ 48) (u : Nat) : cam z u ≤ 50000 := by
  have h1 : ∀ a k i c, foldN (camI z u a) i k c ≤ c + 2304 * k := fun a => foldN_le (fun c b => by
    unfold camI
    have := cro_lt h a b
    split <;> omega)
  have h2 : ∀ c a, camO z u c a ≤ c + 9216 := by
    intro c a
    have := h1 a (4 - a) a c
    unfold camO
    omega
  have := foldN_le (f := camO z u) (d := 9216) h2 4 0 0
  unfold cam
  omega
theorem wof_le {x : Nat} (hx : x ≤ 10) (u : Nat) : ∀ k i c, foldN (wofI x u) i k c ≤ c * 10 ^ k := by
  intro k
  induction k with
  | zero => intro i c; show c ≤ c * 1; omega
  | succ k ih =>
    intro i c
    have h1 := ih (i + 1) (wofI x u c i)
    have h2 : wofI x u c i ≤ c * 10 := by
      unfold wofI
      refine Nat.mul_le_mul_left _ ?_
      split <;> omega
    have h3 : wofI x u c i * 10 ^ k ≤ c * 10 * 10 ^ k := Nat.mul_le_mul_right _ h2
    show foldN (wofI x u) (i + 1) k (wofI x u c i) ≤ c * 10 ^ (k + 1)
    rw [Nat.pow_succ', ← Nat.mul_assoc]
    omega
theorem wsn_lt {z : List xSt} {T v x : Nat} (hT : T ≤ 4) (hx : x ≤ 10) : wsn z T v x ≤ 160000 := by
  have h1 : ∀ u, wof T x u ≤ 10000 := by
    intro u
    have := wof_le hx u T 0 1
    have h2 : (10 : Nat) ^ T ≤ 10 ^ 4 := Nat.pow_le_pow_right (by decide) hT
    unfold wof
    omega
  have h2 := foldN_le (f := wsI z T v x) (d := 10000) (fun c u => by
    unfold wsI
    have := h1 u
    split <;> omega) (2 ^ T) 0 0
  have h3 : (2 : Nat) ^ T ≤ 2 ^ 4 := Nat.pow_le_pow_right (by decide) hT
  unfold wsn
  omega
theorem tws_lt {z : List xSt} (h : z.length ≤ 48) {T t : Nat} (hT : T ≤ 4) : tws z T t ≤ 20000 := by
  have := foldN_le (f := twI z t) (d := 4608) (fun c o => by
    unfold twI
    have := cro_lt h t o
    split <;> omega) T 0 0
  have h2 : 4608 * T ≤ 4608 * 4 := Nat.mul_le_mul_left _ hT
  unfold tws
  omega
theorem drw_lt (x : Int64) : drw x < 60 := Nat.mod_lt _ (by decide)
theorem drw_eq (x : Int64) : (((x.toUInt64 >>> ((nI 33).toInt64.toUInt64 &&& Int64.toUInt64 63)).toInt64 - (x.toUInt64 >>> ((nI 33).toInt64.toUInt64 &&& Int64.toUInt64 63)).toInt64 / 60 * 60)).toInt32 = nI (drw x) := by
  obtain ⟨n, hn, rfl⟩ := wb_of x
  unfold drw
  rw [wb_tn hn, wb_shr hn (by decide), show (60 : Int64) = lN 60 by decide, pk_lRem (by omega) (by decide) (by decide), lN_i]
def Bt (σ : xS) (z : List xSt) : Prop := ∀ a b, a ≤ b → b < 4 → σ.1 109 (4 * a + b) = nI (cro z a b)
section CH
variable {xs : Nat → Int32} {L : Nat} {σ : xS} {B : Nat} {P : xP} {G : xG}
theorem E_commonDivisor {a b : Nat} (ha : a < 2 ^ 31) (hb : b < 2 ^ 31) : Cl xs L mX1_commonDivisor [.int (nI a), .int (nI b)] G σ G (pI σ (nI (Nat.gcd a b))) := by
  show Ev xs L mX1_commonDivisor 0 [.int (nI a), .int (nI b), .null, .null, .null, .null] [] G σ G _
  have fin : ∀ (h : Nat) (lv : List Value), lv[2]? = some (.int (nI h)) → h < 2 ^ 31 → Ev xs L mX1_commonDivisor 34 lv [] G σ G (pI σ (nI h)) := by
    intro h lv hlv hh
    refine xe_iload_n dX1_commonDivisor_34 hlv ?_
    refine e_callSp (E_abs) dX1_commonDivisor_35 ksX1_24 rfl ?_
    rw [if_pos (nI_pos' hh)]
    exact e_iret dX1_commonDivisor_38 rfl rfl
  have key : ∀ f i h l (w : Value), i + f = 64 → h < 2 ^ 31 → l < 2 ^ 31 → Ev xs L mX1_commonDivisor 7 [.int (nI a), .int (nI b), .int (nI h), .int (nI l), .int (nI i), w] [] G σ G (pI σ (nI (euc f h l))) := by
    intro f
    induction f with
    | zero =>
      intro i h l w hi hh hl
      refine xe_iload dX1_commonDivisor_7 rfl ?_
      refine xe_bipush (v := nI 64) dX1_commonDivisor_9 (by decide) ?_
      refine xe_icmp_ge 34 dX1_commonDivisor_11 (by decide) (fun _ => ?_) (fun c => absurd (nI_le (by omega) (by omega)) c)
      exact fin h _ rfl hh
    | succ f ih =>
      intro i h l w hi hh hl
      refine xe_iload dX1_commonDivisor_7 rfl ?_
      refine xe_bipush (v := nI 64) dX1_commonDivisor_9 (by decide) ?_
      refine xe_icmp_ge 34 dX1_commonDivisor_11 (by decide) (fun c => absurd c (nI_ge (by omega) (by omega))) (fun _ => ?_)
      have e : euc (f + 1) h l = if l = 0 then h else euc f l (h % l) := rfl
      rw [e]
      refine xe_iload_n dX1_commonDivisor_14 rfl ?_
      refine xn_if_eq 34 dX1_commonDivisor_15 (by decide) (by omega) (fun c => ?_) (fun c => ?_)
      · rw [if_pos c]
        exact fin h _ rfl hh
      · rw [if_neg (by omega)]
        refine xe_iload_n dX1_commonDivisor_18 rfl ?_
        refine xe_iload_n dX1_commonDivisor_19 rfl ?_
        refine xe_irem dX1_commonDivisor_20 (nI_ne0 c hl) ?_
        rw [pk_rem hh c hl]
        have : h % l < l := Nat.mod_lt _ c
        refine xe_istore dX1_commonDivisor_21 (by decide) ?_
        refine xe_iload_n dX1_commonDivisor_23 rfl ?_
        refine xe_istore_n dX1_commonDivisor_24 (by decide) ?_
        refine xe_iload dX1_commonDivisor_25 rfl ?_
        refine xe_istore_n dX1_commonDivisor_27 (by decide) ?_
        refine xe_inc dX1_commonDivisor_28 rfl (by decide) ?_
        refine xe_goto 7 dX1_commonDivisor_31 (by decide) ?_
        rw [nI_1]
        exact ih (i + 1) l (h % l) _ (by omega) hl (by omega)
  refine xe_iload_n dX1_commonDivisor_0 rfl ?_
  refine xe_istore_n dX1_commonDivisor_1 (by decide) ?_
  refine xe_iload_n dX1_commonDivisor_2 rfl ?_
  refine xe_istore_n dX1_commonDivisor_3 (by decide) ?_
  refine xe_iconst (v := nI 0) dX1_commonDivisor_4 (by decide) ?_
  refine xe_istore dX1_commonDivisor_5 (by decide) ?_
  have := key 64 0 a b .null (by omega) ha hb
  rw [euc_gcd 31 64 a b hb (by decide)] at this
  exact this
theorem E_toldFraction {a b : Nat} {u : Bool} (ha : a < 2 ^ 31) (h0 : 0 < b) (hb : b < 2 ^ 31) : Cl xs L mX1_toldFraction [.int (nI a), .int (nI b), .int (bI u)] G σ G (pI σ (nI (tld u a b))) := by
  show Ev xs L mX1_toldFraction 0 [.int (nI a), .int (nI b), .int (bI u), .null] [] G σ G _
  have g0 : 0 < Nat.gcd a b := Nat.gcd_pos_of_pos_right _ h0
  have g1 : Nat.gcd a b ≤ b := Nat.gcd_le_right _ h0
  refine xe_iconst (v := nI 1) dX1_toldFraction_0 (by decide) ?_
  refine xe_iload_n dX1_toldFraction_1 rfl ?_
  refine xe_iload_n dX1_toldFraction_2 rfl ?_
  refine e_callSp (E_commonDivisor ha hb) dX1_toldFraction_3 ksX1_15 rfl ?_
  refine e_callSp (E_max) dX1_toldFraction_6 ksX1_19 rfl ?_
  have e : (if nI 1 < nI (Nat.gcd a b) then nI (Nat.gcd a b) else nI 1) = nI (Nat.gcd a b) := by
    by_cases c : 1 < Nat.gcd a b
    · rw [if_pos (nI_lt c (by omega))]
    · rw [if_neg (nI_nlt (by omega) (by omega)), show Nat.gcd a b = 1 by omega]
  rw [e]
  refine xe_istore_n dX1_toldFraction_9 (by decide) ?_
  refine xe_iload_n dX1_toldFraction_10 rfl ?_
  unfold tld
  refine xz_if_eq 20 dX1_toldFraction_11 (by decide) (fun c => ?_) (fun c => ?_)
  · rw [c]
    refine xe_iload_n dX1_toldFraction_20 rfl ?_
    refine xe_iload_n dX1_toldFraction_21 rfl ?_
    refine xe_idiv dX1_toldFraction_22 (nI_ne0 g0 (by omega)) ?_
    rw [pk_div hb g0 (by omega)]
    exact e_iret dX1_toldFraction_23 rfl rfl
  · rw [c]
    refine xe_iload_n dX1_toldFraction_14 rfl ?_
    refine xe_iload_n dX1_toldFraction_15 rfl ?_
    refine xe_idiv dX1_toldFraction_16 (nI_ne0 g0 (by omega)) ?_
    rw [pk_div ha g0 (by omega)]
    refine xe_goto 23 dX1_toldFraction_17 (by decide) ?_
    exact e_iret dX1_toldFraction_23 rfl rfl
theorem E_twiceShare (hB : IsBd B) (h : Bd σ B P) {t : Nat} (ht : t < 2 ^ 31) : Cl xs L mX1_twiceShare [.ref B, .int (nI t)] GS σ GS (pI σ (nI (tws P.2.2.2 P.1 t))) := by
  show Ev xs L mX1_twiceShare 0 [.ref B, .int (nI t), .null, .null, .null] [] GS σ GS _
  have h4 := h.1.1
  have key := goN P.1 (twI P.2.2.2 t) (fun o c => ∀ w : Value, Ev xs L mX1_twiceShare 4 [.ref B, .int (nI t), .int (nI c), .int (nI o), w] [] GS σ GS (pI σ (nI (tws P.2.2.2 P.1 t)))) (tws P.2.2.2 P.1 t) (by
      intro w
      refine xe_iload_n dX1_twiceShare_4 rfl ?_
      refine xe_aload_n dX1_twiceShare_5 rfl ?_
      refine e_callVp (E_threads hB h.2.1) dX1_twiceShare_6 kvX1_28 (bd_k hB) rfl ?_
      refine xe_icmp_ge 43 dX1_twiceShare_9 (by decide) (fun _ => ?_) (fun c => absurd (nI_le (Nat.le_refl _) (by omega)) c)
      refine xe_iload_n dX1_twiceShare_43 rfl ?_
      exact e_iret dX1_twiceShare_44 rfl rfl) (by
      intro o c ho k w
      unfold twI at k
      refine xe_iload_n dX1_twiceShare_4 rfl ?_
      refine xe_aload_n dX1_twiceShare_5 rfl ?_
      refine e_callVp (E_threads hB h.2.1) dX1_twiceShare_6 kvX1_28 (bd_k hB) rfl ?_
      refine xe_icmp_ge 43 dX1_twiceShare_9 (by decide) (fun c => absurd c (nI_ge ho (by omega))) (fun _ => ?_)
      refine xe_aload_n dX1_twiceShare_12 rfl ?_
      refine xe_iload_n dX1_twiceShare_13 rfl ?_
      refine xe_iload_n dX1_twiceShare_14 rfl ?_
      refine e_callVp (E_crossingsOf hB h.2.2.1 ht (by omega)) dX1_twiceShare_15 kvX1_34 (bd_k hB) rfl ?_
      refine xe_istore dX1_twiceShare_18 (by decide) ?_
      refine xe_iload_n dX1_twiceShare_20 rfl ?_
      refine xe_iload_n dX1_twiceShare_21 rfl ?_
      refine xe_iload_n dX1_twiceShare_22 rfl ?_
      refine xn_icmp_ne 33 dX1_twiceShare_23 (by decide) (by omega) (by omega) (fun d => ?_) (fun d => ?_)
      · rw [if_neg d] at k
        refine xe_iload dX1_twiceShare_33 rfl ?_
        refine xe_iadd dX1_twiceShare_35 ?_
        rw [nI_add]
        refine xe_istore_n dX1_twiceShare_36 (by decide) ?_
        refine xe_inc dX1_twiceShare_37 rfl (by decide) ?_
        refine xe_goto 4 dX1_twiceShare_40 (by decide) ?_
        rw [nI_1]
        exact k _
      · rw [if_pos d] at k
        refine xe_iconst (v := nI 2) dX1_twiceShare_26 (by decide) ?_
        refine xe_iload dX1_twiceShare_27 rfl ?_
        refine xe_imul dX1_twiceShare_29 ?_
        rw [pk_mul]
        refine xe_goto 35 dX1_twiceShare_30 (by decide) ?_
        refine xe_iadd dX1_twiceShare_35 ?_
        rw [nI_add]
        refine xe_istore_n dX1_twiceShare_36 (by decide) ?_
        refine xe_inc dX1_twiceShare_37 rfl (by decide) ?_
        refine xe_goto 4 dX1_twiceShare_40 (by decide) ?_
        rw [nI_1]
        exact k _) P.1 0 0 (by omega) rfl
  refine xe_iconst (v := nI 0) dX1_twiceShare_0 (by decide) ?_
  refine xe_istore_n dX1_twiceShare_1 (by decide) ?_
  refine xe_iconst (v := nI 0) dX1_twiceShare_2 (by decide) ?_
  refine xe_istore_n dX1_twiceShare_3 (by decide) ?_
  exact key .null
theorem E_allWeight (hB : IsBd B) (h : Bd σ B P) : Cl xs L mX1_allWeight [.ref B] GS σ GS (pI σ (nI (10 ^ P.1))) := by
  show Ev xs L mX1_allWeight 0 [.ref B, .null, .null] [] GS σ GS _
  have h4 := h.1.1
  have key : ∀ k i, i + k = P.1 → Ev xs L mX1_allWeight 4 [.ref B, .int (nI (10 ^ i)), .int (nI i)] [] GS σ GS (pI σ (nI (10 ^ P.1))) := by
    intro k
    induction k with
    | zero =>
      intro i hi
      refine xe_iload_n dX1_allWeight_4 rfl ?_
      refine xe_aload_n dX1_allWeight_5 rfl ?_
      refine e_callVp (E_threads hB h.2.1) dX1_allWeight_6 kvX1_28 (bd_k hB) rfl ?_
      refine xe_icmp_ge 23 dX1_allWeight_9 (by decide) (fun _ => ?_) (fun c => absurd (nI_le (by omega) (by omega)) c)
      refine xe_iload_n dX1_allWeight_23 rfl ?_
      exact e_iret dX1_allWeight_24 rfl (by rw [show i = P.1 by omega])
    | succ k ih =>
      intro i hi
      refine xe_iload_n dX1_allWeight_4 rfl ?_
      refine xe_aload_n dX1_allWeight_5 rfl ?_
      refine e_callVp (E_threads hB h.2.1) dX1_allWeight_6 kvX1_28 (bd_k hB) rfl ?_
      refine xe_icmp_ge 23 dX1_allWeight_9 (by decide) (fun c => absurd c (nI_ge (by omega) (by omega))) (fun _ => ?_)
      refine xe_iload_n dX1_allWeight_12 rfl ?_
      refine xe_bipush (v := nI 10) dX1_allWeight_13 (by decide) ?_
      refine xe_imul dX1_allWeight_15 ?_
      rw [pk_mul, ← Nat.pow_succ]
      refine xe_istore_n dX1_allWeight_16 (by decide) ?_
      refine xe_inc dX1_allWeight_17 rfl (by decide) ?_
      refine xe_goto 4 dX1_allWeight_20 (by decide) ?_
      rw [nI_1]
      exact ih (i + 1) (by omega)
  refine xe_iconst (v := nI 1) dX1_allWeight_0 (by decide) ?_
  refine xe_istore_n dX1_allWeight_1 (by decide) ?_
  refine xe_iconst (v := nI 0) dX1_allWeight_2 (by decide) ?_
  refine xe_istore_n dX1_allWeight_3 (by decide) ?_
  exact key P.1 0 (by omega)
theorem E_countBetween (hB : IsBd B) (h : Bd σ B P) : Cl xs L mX1_countBetween [.ref 108, .ref B] GS σ GS (fun v t => v = none ∧ Bt t P.2.2.2 ∧ (∀ c, c ≠ 109 → t.1 c = σ.1 c) ∧ t.2 = σ.2) := by
  show Ev xs L mX1_countBetween 0 [.ref 108, .ref B, .null, .null] [] GS σ GS _
  have hlo := bd_lo hB
  have key : ∀ k a (t : xS) (w : Value), a + k = 4 → (∀ x y, x ≤ y → y < 4 → x < a → t.1 109 (4 * x + y) = nI (cro P.2.2.2 x y)) → (∀ c, c ≠ 109 → t.1 c = σ.1 c) → t.2 = σ.2 → Ev xs L mX1_countBetween 2 [.ref 108, .ref B, .int (nI a), w] [] GS t GS (fun v t => v = none ∧ Bt t P.2.2.2 ∧ (∀ c, c ≠ 109 → t.1 c = σ.1 c) ∧ t.2 = σ.2) := by
    intro k
    induction k with
    | zero =>
      intro a t w ha hq hc h2
      refine xe_iload_n dX1_countBetween_2 rfl ?_
      refine xe_iconst (v := nI 4) dX1_countBetween_3 (by decide) ?_
      refine xe_icmp_ge 42 dX1_countBetween_4 (by decide) (fun _ => ?_) (fun c => absurd (nI_le (by omega) (by omega)) c)
      exact xe_vret dX1_countBetween_42 rfl ⟨rfl, fun x y hxy hy => hq x y hxy hy (by omega), hc, h2⟩
    | succ k ih =>
      intro a t w ha hq hc h2
      have inner : ∀ m b (t : xS), b + m = 4 → a ≤ b → (∀ x y, x ≤ y → y < 4 → x < a ∨ (x = a ∧ y < b) → t.1 109 (4 * x + y) = nI (cro P.2.2.2 x y)) → (∀ c, c ≠ 109 → t.1 c = σ.1 c) → t.2 = σ.2 → Ev xs L mX1_countBetween 9 [.ref 108, .ref B, .int (nI a), .int (nI b)] [] GS t GS (fun v t => v = none ∧ Bt t P.2.2.2 ∧ (∀ c, c ≠ 109 → t.1 c = σ.1 c) ∧ t.2 = σ.2) := by
        intro m
        induction m with
        | zero =>
          intro b t hb hab hq hc h2
          refine xe_iload_n dX1_countBetween_9 rfl ?_
          refine xe_iconst (v := nI 4) dX1_countBetween_10 (by decide) ?_
          refine xe_icmp_ge 36 dX1_countBetween_11 (by decide) (fun _ => ?_) (fun c => absurd (nI_le (by omega) (by omega)) c)
          refine xe_inc dX1_countBetween_36 rfl (by decide) ?_
          refine xe_goto 2 dX1_countBetween_39 (by decide) ?_
          rw [nI_1]
          exact ih (a + 1) t _ (by omega) (fun x y hxy hy hx => hq x y hxy hy (by omega)) hc h2
        | succ m ihm =>
          intro b t hb hab hq hc h2
          have hz : Ls t B P.2.2.2 := h.2.2.1.fr (by rw [hc B (by omega)]) (by rw [hc (B + 4) (by omega)])
          refine xe_iload_n dX1_countBetween_9 rfl ?_
          refine xe_iconst (v := nI 4) dX1_countBetween_10 (by decide) ?_
          refine xe_icmp_ge 36 dX1_countBetween_11 (by decide) (fun c => absurd c (nI_ge (by omega) (by omega))) (fun _ => ?_)
          refine xe_aload_n dX1_countBetween_14 rfl ?_
          refine e_getA (G := GS) (r := 108) dX1_countBetween_15 fdX1_9 rfl gk_108 gr_108_0 ?_
          refine xe_iload_n dX1_countBetween_18 rfl ?_
          refine xe_iconst (v := nI 4) dX1_countBetween_19 (by decide) ?_
          refine xe_imul dX1_countBetween_20 ?_
          rw [pk_mul]
          refine xe_iload_n dX1_countBetween_21 rfl ?_
          refine xe_iadd dX1_countBetween_22 ?_
          rw [nI_add]
          refine xe_aload_n dX1_countBetween_23 rfl ?_
          refine xe_iload_n dX1_countBetween_24 rfl ?_
          refine xe_iload_n dX1_countBetween_25 rfl ?_
          refine e_callVp (E_crossingsOf hB hz (by omega) (by omega)) dX1_countBetween_26 kvX1_34 (bd_k hB) rfl ?_
          refine e_iast (G := GS) (a := 109) dX1_countBetween_29 gk_109 gn_109 (by omega) (by decide) ?_
          refine xe_inc dX1_countBetween_30 rfl (by decide) ?_
          refine xe_goto 9 dX1_countBetween_33 (by decide) ?_
          rw [nI_1]
          refine ihm (b + 1) _ (by omega) (by omega) (fun x y hxy hy hx => ?_) (fun c c1 => (xpi_ne _ _ _ c1).trans (hc c c1)) h2
          by_cases e : x = a ∧ y = b
          · rw [xpi_rd, if_pos (by rw [e.1, e.2]; exact ⟨rfl, by omega⟩), e.1, e.2]
          · rw [xpi_rd, if_neg (by omega)]
            exact hq x y hxy hy (by omega)
      refine xe_iload_n dX1_countBetween_2 rfl ?_
      refine xe_iconst (v := nI 4) dX1_countBetween_3 (by decide) ?_
      refine xe_icmp_ge 42 dX1_countBetween_4 (by decide) (fun c => absurd c (nI_ge (by omega) (by omega))) (fun _ => ?_)
      refine xe_iload_n dX1_countBetween_7 rfl ?_
      refine xe_istore_n dX1_countBetween_8 (by decide) ?_
      exact inner (4 - a) a t (by omega) (Nat.le_refl _) (fun x y hxy hy hx => hq x y hxy hy (by omega)) hc h2
  refine xe_iconst (v := nI 0) dX1_countBetween_0 (by decide) ?_
  refine xe_istore_n dX1_countBetween_1 (by decide) ?_
  exact key 4 0 σ .null (by omega) (fun x y _ _ hx => absurd hx (Nat.not_lt_zero _)) (fun _ _ => rfl) rfl
theorem E_crossingsAmong {z : List xSt} (h : Bt σ z) {u : Nat} (hu : u < 16) : Cl xs L mX1_crossingsAmong [.ref 108, .int (nI u)] GS σ GS (pI σ (nI (cam z u))) := by
  show Ev xs L mX1_crossingsAmong 0 [.ref 108, .int (nI u), .null, .null, .null] [] GS σ GS _
  have key := goN 4 (camO z u) (fun a c => ∀ w : Value, Ev xs L mX1_crossingsAmong 4 [.ref 108, .int (nI u), .int (nI c), .int (nI a), w] [] GS σ GS (pI σ (nI (cam z u)))) (cam z u) (by
      intro w
      refine xe_iload_n dX1_crossingsAmong_4 rfl ?_
      refine xe_iconst (v := nI 4) dX1_crossingsAmong_5 (by decide) ?_
      refine xe_icmp_ge 63 dX1_crossingsAmong_6 (by decide) (fun _ => ?_) (fun c => absurd (by decide) c)
      refine xe_iload_n dX1_crossingsAmong_63 rfl ?_
      exact e_iret dX1_crossingsAmong_64 rfl rfl) (by
      intro a c ha kk w
      have inner := goN 4 (camI z u a) (fun b c => a ≤ b → Ev xs L mX1_crossingsAmong 12 [.ref 108, .int (nI u), .int (nI c), .int (nI a), .int (nI b)] [] GS σ GS (pI σ (nI (cam z u)))) (camO z u c a) (by
          intro _
          refine xe_iload dX1_crossingsAmong_12 rfl ?_
          refine xe_iconst (v := nI 4) dX1_crossingsAmong_14 (by decide) ?_
          refine xe_icmp_ge 57 dX1_crossingsAmong_15 (by decide) (fun _ => ?_) (fun c => absurd (by decide) c)
          refine xe_inc dX1_crossingsAmong_57 rfl (by decide) ?_
          refine xe_goto 4 dX1_crossingsAmong_60 (by decide) ?_
          rw [nI_1]
          exact kk _) (by
          intro b c hb k2 hab
          have k2 := k2 (by omega)
          unfold camI at k2
          have no : (u.testBit a && u.testBit b) = false → Ev xs L mX1_crossingsAmong 51 [.ref 108, .int (nI u), .int (nI c), .int (nI a), .int (nI b)] [] GS σ GS (pI σ (nI (cam z u))) := by
            intro hn
            rw [hn] at k2
            refine xe_inc dX1_crossingsAmong_51 rfl (by decide) ?_
            refine xe_goto 12 dX1_crossingsAmong_54 (by decide) ?_
            rw [nI_1]
            exact k2
          refine xe_iload dX1_crossingsAmong_12 rfl ?_
          refine xe_iconst (v := nI 4) dX1_crossingsAmong_14 (by decide) ?_
          refine xe_icmp_ge 57 dX1_crossingsAmong_15 (by decide) (fun c => absurd c (nI_ge hb (by omega))) (fun _ => ?_)
          refine xe_iload_n dX1_crossingsAmong_18 rfl ?_
          refine xe_iload_n dX1_crossingsAmong_19 rfl ?_
          refine xe_ishr dX1_crossingsAmong_20 ?_
          refine xe_iconst (v := nI 1) dX1_crossingsAmong_21 (by decide) ?_
          refine xe_iand dX1_crossingsAmong_22 ?_
          rw [bit_n (by omega) (by omega)]
          refine xe_iconst (v := nI 1) dX1_crossingsAmong_23 (by decide) ?_
          cases d1 : u.testBit a with
          | false =>
            refine xe_icmp_ne 51 dX1_crossingsAmong_24 (by decide) (fun _ => ?_) (fun c => absurd c (by decide))
            exact no (by rw [d1]; rfl)
          | true =>
            refine xe_icmp_ne 51 dX1_crossingsAmong_24 (by decide) (fun c => absurd c (fun q => q rfl)) (fun _ => ?_)
            refine xe_iload_n dX1_crossingsAmong_27 rfl ?_
            refine xe_iload dX1_crossingsAmong_28 rfl ?_
            refine xe_ishr dX1_crossingsAmong_30 ?_
            refine xe_iconst (v := nI 1) dX1_crossingsAmong_31 (by decide) ?_
            refine xe_iand dX1_crossingsAmong_32 ?_
            rw [bit_n (by omega) (by omega)]
            refine xe_iconst (v := nI 1) dX1_crossingsAmong_33 (by decide) ?_
            cases d2 : u.testBit b with
            | false =>
              refine xe_icmp_ne 51 dX1_crossingsAmong_34 (by decide) (fun _ => ?_) (fun c => absurd c (by decide))
              exact no (by rw [d2, Bool.and_false])
            | true =>
              rw [d1, d2] at k2
              refine xe_icmp_ne 51 dX1_crossingsAmong_34 (by decide) (fun c => absurd c (fun q => q rfl)) (fun _ => ?_)
              refine xe_iload_n dX1_crossingsAmong_37 rfl ?_
              refine xe_aload_n dX1_crossingsAmong_38 rfl ?_
              refine e_getA (G := GS) (r := 108) dX1_crossingsAmong_39 fdX1_9 rfl gk_108 gr_108_0 ?_
              refine xe_iload_n dX1_crossingsAmong_42 rfl ?_
              refine xe_iconst (v := nI 4) dX1_crossingsAmong_43 (by decide) ?_
              refine xe_imul dX1_crossingsAmong_44 ?_
              rw [pk_mul]
              refine xe_iload dX1_crossingsAmong_45 rfl ?_
              refine xe_iadd dX1_crossingsAmong_47 ?_
              rw [nI_add]
              refine e_iald (G := GS) (a := 109) dX1_crossingsAmong_48 gk_109 gn_109 (by omega) (by decide) (show _ = nI (cro z a b) by rw [Nat.mul_comm a 4]; exact h a b hab hb) ?_
              refine xe_iadd dX1_crossingsAmong_49 ?_
              rw [nI_add]
              refine xe_istore_n dX1_crossingsAmong_50 (by decide) ?_
              refine xe_inc dX1_crossingsAmong_51 rfl (by decide) ?_
              refine xe_goto 12 dX1_crossingsAmong_54 (by decide) ?_
              rw [nI_1]
              exact k2) (4 - a) a c (by omega) rfl
      refine xe_iload_n dX1_crossingsAmong_4 rfl ?_
      refine xe_iconst (v := nI 4) dX1_crossingsAmong_5 (by decide) ?_
      refine xe_icmp_ge 63 dX1_crossingsAmong_6 (by decide) (fun c => absurd c (nI_ge ha (by omega))) (fun _ => ?_)
      refine xe_iload_n dX1_crossingsAmong_9 rfl ?_
      refine xe_istore dX1_crossingsAmong_10 (by decide) ?_
      exact inner (Nat.le_refl _)) 4 0 0 (by omega) rfl
  refine xe_iconst (v := nI 0) dX1_crossingsAmong_0 (by decide) ?_
  refine xe_istore_n dX1_crossingsAmong_1 (by decide) ?_
  refine xe_iconst (v := nI 0) dX1_crossingsAmong_2 (by decide) ?_
  refine xe_istore_n dX1_crossingsAmong_3 (by decide) ?_
  exact key .null
theorem E_weightOf (hB : IsBd B) (h : Th σ B P) {u x : Nat} (hu : u < 16) (hx : x ≤ 10) : Cl xs L mX1_weightOf [.ref B, .int (nI u), .int (nI x)] GS σ GS (pI σ (nI (wof P.1 x u))) := by
  show Ev xs L mX1_weightOf 0 [.ref B, .int (nI u), .int (nI x), .null, .null] [] GS σ GS _
  have h4 := h.2.1
  have key := goN P.1 (wofI x u) (fun i c => Ev xs L mX1_weightOf 5 [.ref B, .int (nI u), .int (nI x), .int (nI c), .int (nI i)] [] GS σ GS (pI σ (nI (wof P.1 x u)))) (wof P.1 x u) (by
      refine xe_iload dX1_weightOf_5 rfl ?_
      refine xe_aload_n dX1_weightOf_7 rfl ?_
      refine e_callVp (E_threads hB h) dX1_weightOf_8 kvX1_28 (bd_k hB) rfl ?_
      refine xe_icmp_ge 41 dX1_weightOf_11 (by decide) (fun _ => ?_) (fun c => absurd (nI_le (Nat.le_refl _) (by omega)) c)
      refine xe_iload_n dX1_weightOf_41 rfl ?_
      exact e_iret dX1_weightOf_42 rfl rfl) (by
      intro i c hi k
      unfold wofI at k
      refine xe_iload dX1_weightOf_5 rfl ?_
      refine xe_aload_n dX1_weightOf_7 rfl ?_
      refine e_callVp (E_threads hB h) dX1_weightOf_8 kvX1_28 (bd_k hB) rfl ?_
      refine xe_icmp_ge 41 dX1_weightOf_11 (by decide) (fun c => absurd c (nI_ge hi (by omega))) (fun _ => ?_)
      refine xe_iload_n dX1_weightOf_14 rfl ?_
      refine xe_iload_n dX1_weightOf_15 rfl ?_
      refine xe_iload dX1_weightOf_16 rfl ?_
      refine xe_ishr dX1_weightOf_18 ?_
      refine xe_iconst (v := nI 1) dX1_weightOf_19 (by decide) ?_
      refine xe_iand dX1_weightOf_20 ?_
      rw [bit_n (by omega) (by omega)]
      refine xe_iconst (v := nI 1) dX1_weightOf_21 (by decide) ?_
      cases d : u.testBit i with
      | false =>
        rw [d] at k
        refine xe_icmp_ne 32 dX1_weightOf_22 (by decide) (fun _ => ?_) (fun c => absurd c (by decide))
        refine xe_iload_n dX1_weightOf_32 rfl ?_
        refine xe_imul dX1_weightOf_33 ?_
        rw [pk_mul]
        refine xe_istore_n dX1_weightOf_34 (by decide) ?_
        refine xe_inc dX1_weightOf_35 rfl (by decide) ?_
        refine xe_goto 5 dX1_weightOf_38 (by decide) ?_
        rw [nI_1]
        exact k
      | true =>
        rw [d] at k
        refine xe_icmp_ne 32 dX1_weightOf_22 (by decide) (fun c => absurd c (fun q => q rfl)) (fun _ => ?_)
        refine xe_bipush (v := nI 10) dX1_weightOf_25 (by decide) ?_
        refine xe_iload_n dX1_weightOf_27 rfl ?_
        refine xe_isub dX1_weightOf_28 ?_
        rw [pk_sub hx]
        refine xe_goto 33 dX1_weightOf_29 (by decide) ?_
        refine xe_imul dX1_weightOf_33 ?_
        rw [pk_mul]
        refine xe_istore_n dX1_weightOf_34 (by decide) ?_
        refine xe_inc dX1_weightOf_35 rfl (by decide) ?_
        refine xe_goto 5 dX1_weightOf_38 (by decide) ?_
        rw [nI_1]
        exact k) P.1 0 1 (by omega) rfl
  refine xe_iconst (v := nI 1) dX1_weightOf_0 (by decide) ?_
  refine xe_istore_n dX1_weightOf_1 (by decide) ?_
  refine xe_iconst (v := nI 0) dX1_weightOf_2 (by decide) ?_
  refine xe_istore dX1_weightOf_3 (by decide) ?_
  exact key
theorem E_weightOfSnaps (hB : IsBd B) (h : Bd σ B P) {w x : Nat} (hw : w < 100) (hx : x ≤ 10) : Cl xs L mX1_weightOfSnaps [.ref 108, .ref B, .int (nI w), .int (nI x)] GS σ GS (fun v t => v = some (.int (nI (wsn P.2.2.2 P.1 w x))) ∧ (∀ c, c ≠ 109 → t.1 c = σ.1 c) ∧ t.2 = σ.2) := by
  show Ev xs L mX1_weightOfSnaps 0 [.ref 108, .ref B, .int (nI w), .int (nI x), .null, .null] [] GS σ GS _
  have h4 := h.1.1
  have hlo := bd_lo hB
  have p16 : (2 : Nat) ^ P.1 ≤ 2 ^ 4 := Nat.pow_le_pow_right (by decide) h4
  refine xe_aload_n dX1_weightOfSnaps_0 rfl ?_
  refine xe_aload_n dX1_weightOfSnaps_1 rfl ?_
  refine e_callV (G := GS) (r := 108) (E_countBetween hB h) dX1_weightOfSnaps_2 kvX1_37 gk_108 rfl ?_
  rintro v t ⟨rfl, hbt, hc, h2⟩
  have hth : Th t B P := by
    obtain ⟨a1, a2, a3⟩ := h.2.1
    refine ⟨?_, a2, fun y hy => ?_⟩
    · rw [hc B (by omega)]; exact a1
    · rw [hc (B + 1) (by omega), hc (B + 2) (by omega), hc (B + 3) (by omega)]; exact a3 y hy
  have key := goN (2 ^ P.1) (wsI P.2.2.2 P.1 w x) (fun u c => Ev xs L mX1_weightOfSnaps 11 [.ref 108, .ref B, .int (nI w), .int (nI x), .int (nI c), .int (nI u)] [] GS t GS (fun v t => v = some (.int (nI (wsn P.2.2.2 P.1 w x))) ∧ (∀ c, c ≠ 109 → t.1 c = σ.1 c) ∧ t.2 = σ.2)) (wsn P.2.2.2 P.1 w x) (by
      refine xe_iload dX1_weightOfSnaps_11 rfl ?_
      refine xe_iconst (v := nI 1) dX1_weightOfSnaps_13 (by decide) ?_
      refine xe_aload_n dX1_weightOfSnaps_14 rfl ?_
      refine e_callVp (E_threads hB hth) dX1_weightOfSnaps_15 kvX1_28 (bd_k hB) rfl ?_
      refine xe_ishl dX1_weightOfSnaps_18 ?_
      rw [bit_shl (by omega)]
      refine xe_icmp_ge 50 dX1_weightOfSnaps_19 (by decide) (fun _ => ?_) (fun c => absurd (nI_le (Nat.le_refl _) (by omega)) c)
      refine xe_iload dX1_weightOfSnaps_50 rfl ?_
      exact xe_iret dX1_weightOfSnaps_52 rfl ⟨rfl, hc, h2⟩) (by
      intro u c hu k
      unfold wsI at k
      have hcl := cam_lt h.2.2.1.2.1 u
      refine xe_iload dX1_weightOfSnaps_11 rfl ?_
      refine xe_iconst (v := nI 1) dX1_weightOfSnaps_13 (by decide) ?_
      refine xe_aload_n dX1_weightOfSnaps_14 rfl ?_
      refine e_callVp (E_threads hB hth) dX1_weightOfSnaps_15 kvX1_28 (bd_k hB) rfl ?_
      refine xe_ishl dX1_weightOfSnaps_18 ?_
      rw [bit_shl (by omega)]
      refine xe_icmp_ge 50 dX1_weightOfSnaps_19 (by decide) (fun c => absurd c (nI_ge hu (by omega))) (fun _ => ?_)
      refine xe_aload_n dX1_weightOfSnaps_22 rfl ?_
      refine xe_iload dX1_weightOfSnaps_23 rfl ?_
      refine e_callVp (G := GS) (r := 108) (E_crossingsAmong hbt (by omega)) dX1_weightOfSnaps_25 kvX1_41 gk_108 rfl ?_
      refine xe_iload_n dX1_weightOfSnaps_28 rfl ?_
      refine xn_icmp_lt 44 dX1_weightOfSnaps_29 (by decide) (by omega) (by omega) (fun d => ?_) (fun d => ?_)
      · rw [if_neg (by omega)] at k
        refine xe_inc dX1_weightOfSnaps_44 rfl (by decide) ?_
        refine xe_goto 11 dX1_weightOfSnaps_47 (by decide) ?_
        rw [nI_1]
        exact k
      · rw [if_pos d] at k
        refine xe_iload dX1_weightOfSnaps_32 rfl ?_
        refine xe_aload_n dX1_weightOfSnaps_34 rfl ?_
        refine xe_iload dX1_weightOfSnaps_35 rfl ?_
        refine xe_iload_n dX1_weightOfSnaps_37 rfl ?_
        refine e_callSp (E_weightOf hB hth (by omega) hx) dX1_weightOfSnaps_38 ksX1_44 rfl ?_
        refine xe_iadd dX1_weightOfSnaps_41 ?_
        rw [nI_add]
        refine xe_istore dX1_weightOfSnaps_42 (by decide) ?_
        refine xe_inc dX1_weightOfSnaps_44 rfl (by decide) ?_
        refine xe_goto 11 dX1_weightOfSnaps_47 (by decide) ?_
        rw [nI_1]
        exact k) (2 ^ P.1) 0 0 (by omega) rfl
  refine xe_iconst (v := nI 0) dX1_weightOfSnaps_5 (by decide) ?_
  refine xe_istore dX1_weightOfSnaps_6 (by decide) ?_
  refine xe_iconst (v := nI 0) dX1_weightOfSnaps_8 (by decide) ?_
  refine xe_istore dX1_weightOfSnaps_9 (by decide) ?_
  exact key
theorem E_drawnFrom {x : Int64} : Cl xs L mX1_drawnFrom [.long x] G σ G (pL σ (nxs x)) := by
  show Ev xs L mX1_drawnFrom 0 [.long x, .null] [] G σ G _
  refine xe_lload_n dX1_drawnFrom_0 rfl ?_
  refine xe_ldc2 dX1_drawnFrom_1 gw756 ?_
  refine xe_lmul dX1_drawnFrom_4 ?_
  refine xe_ldc2 dX1_drawnFrom_5 gw757 ?_
  refine xe_ladd dX1_drawnFrom_8 ?_
  exact xe_lret dX1_drawnFrom_9 rfl ⟨rfl, rfl⟩
theorem E_liveYear (hB : IsBd B) (h : Bd σ B P) {x : Int64} : Cl xs L mX1_liveYear [.ref B, .long x] GS σ GS (fun v t => v = none ∧ Bd t B (lvy P (drw x)) ∧ Fr σ t B) := by
  show Ev xs L mX1_liveYear 0 [.ref B, .long x, .null, .null] [] GS σ GS _
  refine xe_lload_n dX1_liveYear_0 rfl ?_
  refine xe_bipush (v := nI 33) dX1_liveYear_1 (by decide) ?_
  refine xe_lushr dX1_liveYear_3 ?_
  refine xe_ldc2 dX1_liveYear_4 gw761 ?_
  refine xe_lrem dX1_liveYear_7 (by decide) ?_
  refine xe_l2i dX1_liveYear_8 ?_
  rw [drw_eq]
  have hd := drw_lt x
  generalize drw x = d at hd ⊢
  unfold lvy
  refine xe_istore_n dX1_liveYear_9 (by decide) ?_
  refine xe_iload_n dX1_liveYear_10 rfl ?_
  refine xe_bipush (v := nI 48) dX1_liveYear_11 (by decide) ?_
  refine xn_icmp_ge 32 dX1_liveYear_13 (by decide) (by omega) (by omega) (fun c1 => ?_) (fun c1 => ?_)
  · rw [if_neg (by omega)]
    refine xe_iload_n dX1_liveYear_32 rfl ?_
    refine xe_bipush (v := nI 52) dX1_liveYear_33 (by decide) ?_
    refine xn_icmp_ge 50 dX1_liveYear_35 (by decide) (by omega) (by omega) (fun c2 => ?_) (fun c2 => ?_)
    · rw [if_neg (by omega)]
      refine xe_iload_n dX1_liveYear_50 rfl ?_
      refine xe_bipush (v := nI 54) dX1_liveYear_51 (by decide) ?_
      refine xn_icmp_ge 68 dX1_liveYear_53 (by decide) (by omega) (by omega) (fun c3 => ?_) (fun c3 => ?_)
      · rw [if_neg (by omega)]
        refine xe_iload_n dX1_liveYear_68 rfl ?_
        refine xe_bipush (v := nI 57) dX1_liveYear_69 (by decide) ?_
        refine xn_icmp_ge 81 dX1_liveYear_71 (by decide) (by omega) (by omega) (fun c4 => ?_) (fun c4 => ?_)
        · rw [if_neg (by omega)]
          refine xe_aload_n dX1_liveYear_81 rfl ?_
          refine e_callV (E_turnOver hB h) dX1_liveYear_82 kvX1_70 (bd_k hB) rfl ?_
          rintro v t ⟨rfl, hb, hf⟩
          exact xe_vret dX1_liveYear_85 rfl ⟨rfl, hb, hf⟩
        · rw [if_pos c4]
          refine xe_aload_n dX1_liveYear_74 rfl ?_
          refine e_callV (E_turnByOne hB h) dX1_liveYear_75 kvX1_67 (bd_k hB) rfl ?_
          rintro v t ⟨rfl, hb, hf⟩
          refine xe_goto 85 dX1_liveYear_78 (by decide) ?_
          exact xe_vret dX1_liveYear_85 rfl ⟨rfl, hb, hf⟩
      · rw [if_pos c3]
        refine xe_aload_n dX1_liveYear_56 rfl ?_
        refine xe_iload_n dX1_liveYear_57 rfl ?_
        refine xe_bipush (v := nI 52) dX1_liveYear_58 (by decide) ?_
        refine xe_isub dX1_liveYear_60 ?_
        rw [pk_sub (by omega)]
        refine e_callS (E_cuts hB h (by omega)) dX1_liveYear_61 ksX1_64 rfl ?_
        rintro v t ⟨rfl, hb, hf⟩
        refine xe_pop dX1_liveYear_64 rfl ?_
        refine xe_goto 85 dX1_liveYear_65 (by decide) ?_
        exact xe_vret dX1_liveYear_85 rfl ⟨rfl, hb, hf⟩
    · rw [if_pos c2]
      refine xe_aload_n dX1_liveYear_38 rfl ?_
      refine xe_iload_n dX1_liveYear_39 rfl ?_
      refine xe_bipush (v := nI 48) dX1_liveYear_40 (by decide) ?_
      refine xe_isub dX1_liveYear_42 ?_
      rw [pk_sub (by omega)]
      refine e_callS (E_unwinds hB h (by omega)) dX1_liveYear_43 ksX1_60 rfl ?_
      rintro v t ⟨rfl, hb, hf⟩
      refine xe_pop dX1_liveYear_46 rfl ?_
      refine xe_goto 85 dX1_liveYear_47 (by decide) ?_
      exact xe_vret dX1_liveYear_85 rfl ⟨rfl, hb, hf⟩
  · rw [if_pos c1]
    refine xe_aload_n dX1_liveYear_16 rfl ?_
    refine xe_iload_n dX1_liveYear_17 rfl ?_
    refine xe_bipush (v := nI 12) dX1_liveYear_18 (by decide) ?_
    refine xe_idiv dX1_liveYear_20 (by decide) ?_
    rw [pk_div (by omega) (by decide) (by decide)]
    refine xe_iload_n dX1_liveYear_21 rfl ?_
    refine xe_bipush (v := nI 12) dX1_liveYear_22 (by decide) ?_
    refine xe_irem dX1_liveYear_24 (by decide) ?_
    rw [pk_rem (by omega) (by decide) (by decide)]
    refine e_callS (E_winds hB h (by omega) (by omega)) dX1_liveYear_25 ksX1_54 rfl ?_
    rintro v t ⟨rfl, hb, hf⟩
    refine xe_pop dX1_liveYear_28 rfl ?_
    refine xe_goto 85 dX1_liveYear_29 (by decide) ?_
    exact xe_vret dX1_liveYear_85 rfl ⟨rfl, hb, hf⟩
end CH
