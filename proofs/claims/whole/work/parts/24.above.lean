/-! longs as bits (wb, pf: pasted from laws/BITS), what lies above -/
theorem wb_tb (n : Nat) : (lN n).toBitVec = BitVec.ofNat 64 n := rfl
theorem wb_inj {a b : Int64} (h : a.toBitVec = b.toBitVec) : a = b := Int64.toBitVec_inj.mp h
theorem wb_tn {n : Nat} (h : n < 2 ^ 64) : (lN n).toBitVec.toNat = n := by rw [wb_tb, BitVec.toNat_ofNat, Nat.mod_eq_of_lt h]
theorem wb_of (x : Int64) : ∃ n, n < 2 ^ 64 ∧ x = lN n := ⟨x.toBitVec.toNat, x.toBitVec.isLt, wb_inj (by rw [wb_tb]; simp)⟩
theorem wb_of32 (x : Int32) : ∃ n, n < 2 ^ 32 ∧ x = nI n := ⟨x.toBitVec.toNat, x.toBitVec.isLt, Int32.toBitVec_inj.mp (by show _ = BitVec.ofNat 32 _; simp)⟩
theorem wb_c : ∀ k, k < 64 → ((nI k).toInt64 &&& 63) = lN k := by decide +kernel
theorem wb_cu : ∀ k, k < 64 → ((nI k).toInt64.toUInt64 &&& Int64.toUInt64 63) = UInt64.ofNat k := by decide +kernel
theorem wb_sm : ∀ k, k < 64 → (BitVec.ofNat 64 k).smod 64 = BitVec.ofNat 64 k := by decide +kernel
theorem wb_pw {a b : Nat} (h : a ≤ b) : 2 ^ b = 2 ^ a * 2 ^ (b - a) := by rw [← Nat.pow_add]; congr 1; omega
theorem wb_lt2 {a b : Nat} (h : a < b) : 2 ^ a < 2 ^ b := Nat.pow_lt_pow_right (by decide) h
theorem wb_mod (n : Nat) : lN n = lN (n % 2 ^ 64) := wb_inj (by rw [wb_tb, wb_tb]; apply BitVec.eq_of_toNat_eq; rw [BitVec.toNat_ofNat, BitVec.toNat_ofNat, Nat.mod_mod])
theorem wb_shr {n k : Nat} (hn : n < 2 ^ 64) (hk : k < 64) : ((lN n).toUInt64 >>> ((nI k).toInt64.toUInt64 &&& Int64.toUInt64 63)).toInt64 = lN (n / 2 ^ k) := by
  rw [wb_cu k hk]
  apply wb_inj
  apply BitVec.eq_of_toNat_eq
  show ((lN n).toUInt64 >>> UInt64.ofNat k).toNat = (BitVec.ofNat 64 _).toNat
  have h1 : (UInt64.ofNat k).toNat = k := by
    show (BitVec.ofNat 64 k).toNat = k
    rw [BitVec.toNat_ofNat, Nat.mod_eq_of_lt (by omega)]
  have h2 : (lN n).toUInt64.toNat = n := wb_tn hn
  rw [UInt64.toNat_shiftRight, h1, h2, Nat.mod_eq_of_lt hk, Nat.shiftRight_eq_div_pow, BitVec.toNat_ofNat, Nat.mod_eq_of_lt (Nat.lt_of_le_of_lt (Nat.div_le_self _ _) hn)]
theorem wb_shl (n : Nat) {k : Nat} (hk : k < 64) : lN n <<< ((nI k).toInt64 &&& 63) = lN (n * 2 ^ k) := by
  rw [wb_c k hk]
  apply wb_inj
  rw [Int64.toBitVec_shiftLeft, wb_tb, wb_tb, wb_tb, wb_sm k hk]
  apply BitVec.eq_of_toNat_eq
  rw [BitVec.shiftLeft_eq', BitVec.toNat_shiftLeft, BitVec.toNat_ofNat, BitVec.toNat_ofNat, BitVec.toNat_ofNat, Nat.mod_eq_of_lt (show k < 2 ^ 64 by omega), Nat.shiftLeft_eq, Nat.mul_mod, Nat.mod_mod, ← Nat.mul_mod]
theorem wb_and {a b : Nat} (ha : a < 2 ^ 64) (hb : b < 2 ^ 64) : lN a &&& lN b = lN (a &&& b) := by
  apply wb_inj
  rw [Int64.toBitVec_and, wb_tb, wb_tb, wb_tb]
  apply BitVec.eq_of_toNat_eq
  rw [BitVec.toNat_and, BitVec.toNat_ofNat, BitVec.toNat_ofNat, BitVec.toNat_ofNat, Nat.mod_eq_of_lt ha, Nat.mod_eq_of_lt hb, Nat.mod_eq_of_lt (Nat.and_lt_two_pow _ hb)]
theorem wb_or {a b : Nat} (ha : a < 2 ^ 64) (hb : b < 2 ^ 64) : lN a ||| lN b = lN (a ||| b) := by
  apply wb_inj
  rw [Int64.toBitVec_or, wb_tb, wb_tb, wb_tb]
  apply BitVec.eq_of_toNat_eq
  rw [BitVec.toNat_or, BitVec.toNat_ofNat, BitVec.toNat_ofNat, BitVec.toNat_ofNat, Nat.mod_eq_of_lt ha, Nat.mod_eq_of_lt hb, Nat.mod_eq_of_lt (Nat.or_lt_two_pow ha hb)]
theorem wb_mask {n k : Nat} (hn : n < 2 ^ 64) (hk : k < 64) : lN n &&& lN (2 ^ k - 1) = lN (n % 2 ^ k) := by
  rw [wb_and hn (by have := wb_lt2 hk; omega), Nat.and_two_pow_sub_one_eq_mod]
theorem wb_a1 {n : Nat} (hn : n < 2 ^ 64) : lN n &&& 1 = lN (n % 2) := wb_mask (k := 1) hn (by decide)
theorem pf_lI {a : Nat} (h : a < 2 ^ 63) : (lN a).toInt = (a : Int) := lg_ofNat_toInt h
theorem pf_shr {a d : Nat} {D : Int64} (hD : (D.toBitVec.smod 64).toNat = d) (h : a < 2 ^ 62) : lN a >>> D = lN (a / 2 ^ d) := by
  have hd : a / 2 ^ d ≤ a := Nat.div_le_self _ _
  apply Int64.toInt_inj.mp
  have e : (lN a >>> D).toInt = (lN a).toInt >>> d := by
    rw [← hD]
    exact BitVec.toInt_sshiftRight ..
  rw [e, Int.shiftRight_eq_div_pow, pf_lI (by omega), pf_lI (by omega)]
  rfl
theorem wb_sc : ∀ k, k < 64 → ((((nI k).toInt64 &&& 63).toBitVec.smod 64)).toNat = k := by decide +kernel
theorem lbit {m k : Nat} (hm : m < 2 ^ 62) (hk : k < 64) : lN m >>> ((nI k).toInt64 &&& 63) &&& 1 = lN (if m.testBit k then 1 else 0) := by
  have h1 : m / 2 ^ k ≤ m := Nat.div_le_self _ _
  rw [pf_shr (wb_sc k hk) hm, wb_a1 (by omega), Nat.testBit_eq_decide_div_mod_eq]
  congr 1
  rcases Nat.mod_two_eq_zero_or_one (m / 2 ^ k) with e | e
  · rw [e]; simp
  · rw [e]; simp
/-- bits by bytes -/
def t3 (m1 m2 m3 x : Nat) : Nat :=
  let v1 := x - (x / 2 &&& m1)
  let v2 := (v1 &&& m2) + (v1 / 4 &&& m2)
  (v2 + v2 / 16) &&& m3
theorem and_byte {pl ph ml mh : Nat} (h1 : pl < 256) (h2 : ml < 256) : (pl + 256 * ph) &&& (ml + 256 * mh) = (pl &&& ml) + 256 * (ph &&& mh) := by
  have e1 : ((pl + 256 * ph) &&& (ml + 256 * mh)) % 2 ^ 8 = pl &&& ml := by
    rw [Nat.and_mod_two_pow]
    congr 1 <;> omega
  have e2 : ((pl + 256 * ph) &&& (ml + 256 * mh)) / 2 ^ 8 = ph &&& mh := by
    rw [Nat.and_div_two_pow]
    congr 1 <;> omega
  omega
theorem by1 : ∀ a, a < 256 → ∀ b, b < 2 → (a / 2 + 128 * b) &&& 85 = a / 2 &&& 85 := by decide +kernel
theorem by2 : ∀ a, a < 256 → ∀ b, b < 4 → (a / 4 + 64 * b) &&& 51 = a / 4 &&& 51 := by decide +kernel
theorem by3 : ∀ a, a < 256 → t3 85 51 15 a = pcf 8 a := by decide +kernel
theorem t3_step {m1 m2 m3 a y : Nat} (ha : a < 256) (hm : m2 % 16 ≤ 3) : t3 (85 + 256 * m1) (51 + 256 * m2) (15 + 256 * m3) (a + 256 * y) = pcf 8 a + 256 * t3 m1 m2 m3 y := by
  rw [← by3 a ha]
  unfold t3
  dsimp only
  have q1 : (a + 256 * y) / 2 &&& (85 + 256 * m1) = (a / 2 &&& 85) + 256 * (y / 2 &&& m1) := by
    rw [show (a + 256 * y) / 2 = (a / 2 + 128 * (y % 2)) + 256 * (y / 2) by omega, and_byte (by omega) (by omega), by1 a ha _ (by omega)]
  have l1 : (a / 2 &&& 85) ≤ a / 2 := Nat.and_le_left
  have l2 : (y / 2 &&& m1) ≤ y / 2 := Nat.and_le_left
  rw [q1]
  generalize (a / 2 &&& 85) = u at *
  generalize (y / 2 &&& m1) = w at *
  rw [show a + 256 * y - (u + 256 * w) = (a - u) + 256 * (y - w) by omega]
  have ha1 : a - u < 256 := by omega
  generalize a - u = a1 at *
  generalize y - w = y1 at *
  have q2 : (a1 + 256 * y1) / 4 &&& (51 + 256 * m2) = (a1 / 4 &&& 51) + 256 * (y1 / 4 &&& m2) := by
    rw [show (a1 + 256 * y1) / 4 = (a1 / 4 + 64 * (y1 % 4)) + 256 * (y1 / 4) by omega, and_byte (by omega) (by omega), by2 a1 ha1 _ (by omega)]
  rw [q2, and_byte ha1 (by omega)]
  have l3 : (a1 &&& 51) ≤ 51 := Nat.and_le_right
  have l4 : (a1 / 4 &&& 51) ≤ 51 := Nat.and_le_right
  have l5 : (y1 &&& m2) % 16 ≤ 3 := by
    have : (y1 &&& m2) % 2 ^ 4 = (y1 % 2 ^ 4) &&& (m2 % 2 ^ 4) := Nat.and_mod_two_pow
    have h2 : (y1 % 2 ^ 4) &&& (m2 % 2 ^ 4) ≤ m2 % 2 ^ 4 := Nat.and_le_right
    omega
  have l6 : (y1 / 4 &&& m2) % 16 ≤ 3 := by
    have : (y1 / 4 &&& m2) % 2 ^ 4 = (y1 / 4 % 2 ^ 4) &&& (m2 % 2 ^ 4) := Nat.and_mod_two_pow
    have h2 : (y1 / 4 % 2 ^ 4) &&& (m2 % 2 ^ 4) ≤ m2 % 2 ^ 4 := Nat.and_le_right
    omega
  generalize (a1 &&& 51) = c1 at *
  generalize (a1 / 4 &&& 51) = c2 at *
  generalize (y1 &&& m2) = d1 at *
  generalize (y1 / 4 &&& m2) = d2 at *
  rw [show c1 + 256 * d1 + (c2 + 256 * d2) + (c1 + 256 * d1 + (c2 + 256 * d2)) / 16 = (c1 + c2 + (c1 + c2) / 16 + 16 * ((d1 + d2) % 16)) + 256 * (d1 + d2 + (d1 + d2) / 16) by omega, and_byte (by omega) (by omega)]
  have e15 : ∀ n, n &&& 15 = n % 16 := fun n => Nat.and_two_pow_sub_one_eq_mod n 4
  rw [e15, e15]
  omega
def rep (c : Nat) : Nat → Nat
  | 0 => 0
  | k + 1 => c + 256 * rep c k
def B3 : Nat → Nat → Nat
  | 0, _ => 0
  | k + 1, x => pcf 8 (x % 256) + 256 * B3 k (x / 256)
theorem t3_B3 : ∀ k x, x < 256 ^ k → t3 (rep 85 k) (rep 51 k) (rep 15 k) x = B3 k x
  | 0, x, h => by
    have : x = 0 := by
      have : x < 1 := h
      omega
    subst this
    rfl
  | k + 1, x, h => by
    have h2 : x / 256 < 256 ^ k := by
      rw [Nat.pow_succ] at h
      exact Nat.div_lt_of_lt_mul (by rw [Nat.mul_comm]; exact h)
    have ih := t3_B3 k (x / 256) h2
    have hm : rep 51 k % 16 ≤ 3 := by
      cases k with
      | zero => decide
      | succ k => show (51 + 256 * rep 51 k) % 16 ≤ 3; omega
    have := t3_step (m1 := rep 85 k) (m2 := rep 51 k) (m3 := rep 15 k) (a := x % 256) (y := x / 256) (Nat.mod_lt _ (by decide)) hm
    rw [Nat.mod_add_div] at this
    show t3 (85 + 256 * rep 85 k) (51 + 256 * rep 51 k) (15 + 256 * rep 15 k) x = _
    rw [this, ih]
    rfl
theorem pcf8 (m : Nat) : pcf 8 (m % 256) = pcf 8 m := by
  simp only [pcf]
  omega
theorem pcf_add : ∀ j k m, pcf (j + k) m = pcf j m + pcf k (m / 2 ^ j)
  | 0, k, m => by simp [pcf]
  | j + 1, k, m => by
    have ih := pcf_add j k (m / 2)
    rw [show j + 1 + k = (j + k) + 1 by omega]
    show m % 2 + pcf (j + k) (m / 2) = m % 2 + pcf j (m / 2) + _
    have e : m / 2 / 2 ^ j = m / 2 ^ (j + 1) := by rw [Nat.div_div_eq_div_mul, Nat.pow_succ']
    rw [ih, e]
    omega
theorem dvq {v l K q : Nat} (h : v = l + K * q) (hl : l < K) : v / K = q := by
  rw [h, Nat.add_mul_div_left _ _ (by omega), Nat.div_eq_of_lt hl, Nat.zero_add]
theorem bcA1 {c0 c1 c2 c3 c4 c5 c6 c7 y1 y2 y3 y4 y5 y6 : Nat} (b0 : c0 ≤ 8) (b1 : c1 ≤ 8) (b2 : c2 ≤ 8) (b3 : c3 ≤ 8) (b4 : c4 ≤ 8) (b5 : c5 ≤ 8) (b6 : c6 ≤ 8) (b7 : c7 ≤ 8) (h6 : y6 = c6 + 256 * c7) (h5 : y5 = c5 + 256 * y6) (h4 : y4 = c4 + 256 * y5) (h3 : y3 = c3 + 256 * y4) (h2 : y2 = c2 + 256 * y3) (h1 : y1 = c1 + 256 * y2) : c0 + 256 * y1 < 2 ^ 60 ∧ (c0 + 256 * y1 + y1 + (c0 + 256 * y1 + y1) / 65536 + (c0 + 256 * y1 + y1 + (c0 + 256 * y1 + y1) / 65536) / 4294967296) % 128 = c0 + (c1 + (c2 + (c3 + (c4 + (c5 + (c6 + c7)))))) := by
  have e1 : c0 + 256 * y1 + y1 = (c0 + c1 + 256 * (c1 + c2)) + 65536 * (y2 + y3) := by clear h6 h5 h4 b0 b1 b2 b3 b4 b5 b6 b7; omega
  have e2 : y2 + y3 = (c2 + c3 + 256 * (c3 + c4)) + 65536 * (y4 + y5) := by clear e1 h6 h1 b0 b1 b2 b3 b4 b5 b6 b7; omega
  have e3 : y4 + y5 = (c4 + c5 + 256 * (c5 + c6)) + 65536 * (y6 + c7) := by clear e1 e2 h1 h2 h3 b0 b1 b2 b3 b4 b5 b6 b7; omega
  have u6 : y6 ≤ 2056 := by clear e1 e2 e3 h1 h2 h3 h4 h5; omega
  have u5 : y5 ≤ 526344 := by clear e1 e2 e3 h1 h2 h3 h4 h6; omega
  have u4 : y4 ≤ 134744072 := by clear e1 e2 e3 h1 h2 h3 h5 h6; omega
  have u3 : y3 ≤ 34494482440 := by clear e1 e2 e3 h1 h2 h4 h5 h6; omega
  have u2 : y2 ≤ 8830587504648 := by clear e1 e2 e3 h1 h3 h4 h5 h6; omega
  have u1 : y1 ≤ 2260630401189896 := by clear e1 e2 e3 h2 h3 h4 h5 h6; omega
  have f2 : (c0 + 256 * y1 + y1) / 65536 = y2 + y3 := dvq e1 (by clear e1 e2 e3 h1 h2 h3 h4 h5 h6 u1 u2 u3 u4 u5 u6; omega)
  rw [f2, e1]
  have e4 : c0 + c1 + 256 * (c1 + c2) + 65536 * (y2 + y3) + (y2 + y3) = (c0 + c1 + c2 + c3 + 256 * (c1 + c2 + c3 + c4) + 65536 * (c2 + c3 + c4 + c5 + 256 * (c3 + c4 + c5 + c6))) + 4294967296 * (y4 + y5 + y6 + c7) := by
    generalize y2 + y3 = p at *
    rw [e2]
    generalize y4 + y5 = r at *
    clear h1 h2 h3 h4 h5 h6 u1 u2 u3 u4 u5 u6 e1 e2 f2 b0 b1 b2 b3 b4 b5 b6 b7
    omega
  have f3 : (c0 + c1 + 256 * (c1 + c2) + 65536 * (y2 + y3) + (y2 + y3)) / 4294967296 = y4 + y5 + y6 + c7 := dvq e4 (by clear e1 e2 e3 e4 h1 h2 h3 h4 h5 h6 u1 u2 u3 u4 u5 u6 f2; omega)
  rw [f3, e4]
  refine ⟨by clear e1 e2 e3 e4 f2 f3 h1 h2 h3 h4 h5 h6; omega, ?_⟩
  have e5 : (c0 + c1 + c2 + c3 + 256 * (c1 + c2 + c3 + c4) + 65536 * (c2 + c3 + c4 + c5 + 256 * (c3 + c4 + c5 + c6))) + 4294967296 * (y4 + y5 + y6 + c7) + (y4 + y5 + y6 + c7) = (c0 + (c1 + (c2 + (c3 + (c4 + (c5 + (c6 + c7))))))) + 128 * (2 * (c1 + c2 + c3 + c4) + 512 * (c2 + c3 + c4 + c5 + 256 * (c3 + c4 + c5 + c6)) + 33554432 * (y4 + y5 + y6 + c7) + 2 * (y5 + y6 + c7)) := by
    clear h1 h2 h3 u1 u2 u3 u4 u5 u6 e1 e2 e3 f2 f3 b0 b1 b2 b3 b4 b5 b6 b7 e4
    omega
  rw [e5, Nat.add_mul_mod_self_left, Nat.mod_eq_of_lt (by clear h1 h2 h3 h4 h5 h6 e1 e2 e3 e4 e5 f2 f3; omega)]
theorem bcA {c0 c1 c2 c3 c4 c5 c6 c7 : Nat} (b0 : c0 ≤ 8) (b1 : c1 ≤ 8) (b2 : c2 ≤ 8) (b3 : c3 ≤ 8) (b4 : c4 ≤ 8) (b5 : c5 ≤ 8) (b6 : c6 ≤ 8) (b7 : c7 ≤ 8) (v3 : Nat) (hv : v3 = c0 + 256 * (c1 + 256 * (c2 + 256 * (c3 + 256 * (c4 + 256 * (c5 + 256 * (c6 + 256 * (c7 + 256 * 0)))))))) : v3 < 2 ^ 60 ∧ (v3 + v3 / 256 + (v3 + v3 / 256) / 65536 + (v3 + v3 / 256 + (v3 + v3 / 256) / 65536) / 4294967296) % 128 = c0 + (c1 + (c2 + (c3 + (c4 + (c5 + (c6 + c7)))))) := by
  rw [Nat.mul_zero, Nat.add_zero] at hv
  have f1 : v3 / 256 = c1 + 256 * (c2 + 256 * (c3 + 256 * (c4 + 256 * (c5 + 256 * (c6 + 256 * c7))))) := dvq hv (by omega)
  rw [f1, hv]
  exact bcA1 b0 b1 b2 b3 b4 b5 b6 b7 rfl rfl rfl rfl rfl rfl
theorem bcL {x : Nat} (h : x < 2 ^ 63) : let v3 := t3 (rep 85 8) (rep 51 8) (rep 15 8) x
    v3 < 2 ^ 60 ∧ (let v4 := v3 + v3 / 256
    let v5 := v4 + v4 / 65536
    (v5 + v5 / 4294967296) % 128 = pcf 64 x) := by
  dsimp only
  rw [t3_B3 8 x (by have : (256 : Nat) ^ 8 = 2 ^ 64 := by decide
                    omega)]
  have e : pcf 64 x = pcf 8 x + (pcf 8 (x / 256) + (pcf 8 (x / 256 / 256) + (pcf 8 (x / 256 / 256 / 256) + (pcf 8 (x / 256 / 256 / 256 / 256) + (pcf 8 (x / 256 / 256 / 256 / 256 / 256) + (pcf 8 (x / 256 / 256 / 256 / 256 / 256 / 256) + pcf 8 (x / 256 / 256 / 256 / 256 / 256 / 256 / 256))))))) := by
    rw [show 64 = 8 + 56 by rfl, pcf_add 8 56, show 56 = 8 + 48 by rfl, pcf_add 8 48, show 48 = 8 + 40 by rfl, pcf_add 8 40, show 40 = 8 + 32 by rfl, pcf_add 8 32, show 32 = 8 + 24 by rfl, pcf_add 8 24, show 24 = 8 + 16 by rfl, pcf_add 8 16, show 16 = 8 + 8 by rfl, pcf_add 8 8]
  rw [e]
  simp only [B3, pcf8]
  have b0 := pcf_le 8 x
  have b1 := pcf_le 8 (x / 256)
  have b2 := pcf_le 8 (x / 256 / 256)
  have b3 := pcf_le 8 (x / 256 / 256 / 256)
  have b4 := pcf_le 8 (x / 256 / 256 / 256 / 256)
  have b5 := pcf_le 8 (x / 256 / 256 / 256 / 256 / 256)
  have b6 := pcf_le 8 (x / 256 / 256 / 256 / 256 / 256 / 256)
  have b7 := pcf_le 8 (x / 256 / 256 / 256 / 256 / 256 / 256 / 256)
  generalize pcf 8 (x / 256 / 256 / 256 / 256 / 256 / 256 / 256) = c7 at *
  generalize pcf 8 (x / 256 / 256 / 256 / 256 / 256 / 256) = c6 at *
  generalize pcf 8 (x / 256 / 256 / 256 / 256 / 256) = c5 at *
  generalize pcf 8 (x / 256 / 256 / 256 / 256) = c4 at *
  generalize pcf 8 (x / 256 / 256 / 256) = c3 at *
  generalize pcf 8 (x / 256 / 256) = c2 at *
  generalize pcf 8 (x / 256) = c1 at *
  generalize pcf 8 x = c0 at *
  exact bcA b0 b1 b2 b3 b4 b5 b6 b7 _ rfl
theorem pcf_0 : ∀ k, pcf k 0 = 0
  | 0 => rfl
  | k + 1 => by show 0 % 2 + pcf k (0 / 2) = 0; rw [Nat.zero_div, pcf_0 k]
theorem pcf_top : ∀ q k m, m < 2 ^ q → q < k → pcf k (m + 2 ^ q) = pcf k m + 1
  | 0, k + 1, m, h, _ => by
    have : m = 0 := by
      have : m < 1 := h
      omega
    subst this
    show (0 + 2 ^ 0) % 2 + pcf k ((0 + 2 ^ 0) / 2) = 0 % 2 + pcf k (0 / 2) + 1
    simp [pcf_0]
  | q + 1, k + 1, m, h, hk => by
    have ih := pcf_top q k (m / 2) (by rw [Nat.pow_succ] at h; omega) (by omega)
    have e1 : (m + 2 ^ (q + 1)) % 2 = m % 2 := by rw [Nat.pow_succ]; omega
    have e2 : (m + 2 ^ (q + 1)) / 2 = m / 2 + 2 ^ q := by rw [Nat.pow_succ]; omega
    show (m + 2 ^ (q + 1)) % 2 + pcf k ((m + 2 ^ (q + 1)) / 2) = m % 2 + pcf k (m / 2) + 1
    rw [e1, e2, ih]
    omega
theorem or_top {m q : Nat} (h : m < 2 ^ q) : m ||| 2 ^ q = m + 2 ^ q := by
  have := Nat.two_pow_add_eq_or_of_lt h 1
  rw [Nat.mul_one] at this
  rw [Nat.or_comm, ← this, Nat.add_comm]
def anyN (p : Nat → Bool) : Nat → Nat → Bool
  | _, 0 => false
  | i, k + 1 => p i || anyN p (i + 1) k
def crX (z : List xSt) (e q : Nat) : Bool := match z[e]?, z[q]? with
  | some s, some u => crS s u
  | _, _ => false
def crQ (z : List xSt) (m q : Nat) : Bool := anyN (fun e => m.testBit e && crX z e q) 0 q
def abS (z : List xSt) (a : Nat × Nat) (q : Nat) : Nat × Nat := if crQ z a.1 q then (a.1 ||| 2 ^ q, a.2 + 1) else a
/-- how many must come off ahead of one -/
def abv (z : List xSt) (i : Nat) : Nat := (foldN (abS z) (i + 1) (z.length - (i + 1)) (2 ^ i, 0)).2
section AB
variable {xs : Nat → Int32} {L : Nat} {σ : xS} {B : Nat} {z : List xSt} {G : xG}
theorem E_bitCountL {x : Nat} (hx : x < 2 ^ 63) : Cl xs L mJ13_bitCount_95d88 [.long (lN x)] G σ G (pI σ (nI (pcf 64 x))) := by
  show Ev xs L mJ13_bitCount_95d88 0 [.long (lN x), .null] [] G σ G _
  obtain ⟨hv3, hfin⟩ := bcL hx
  have r1 : rep 85 8 = 6148914691236517205 := by decide
  have r2 : rep 51 8 = 3689348814741910323 := by decide
  have r3 : rep 15 8 = 1085102592571150095 := by decide
  rw [r1, r2, r3] at hv3 hfin
  unfold t3 at hv3 hfin
  dsimp only at hv3 hfin
  have c1 : (6148914691236517205 : Int64) = lN 6148914691236517205 := by decide
  have c2 : (3689348814741910323 : Int64) = lN 3689348814741910323 := by decide
  have c3 : (1085102592571150095 : Int64) = lN 1085102592571150095 := by decide
  have l1 : (x / 2 &&& 6148914691236517205) ≤ x / 2 := Nat.and_le_left
  refine xe_lload_n dJ13_bitCount_95d88_0 rfl ?_
  refine xe_lload_n dJ13_bitCount_95d88_1 rfl ?_
  refine xe_iconst (v := nI 1) dJ13_bitCount_95d88_2 (by decide) ?_
  refine xe_lushr dJ13_bitCount_95d88_3 ?_
  rw [wb_shr (by omega) (by decide)]
  refine xe_ldc2 dJ13_bitCount_95d88_4 gw437 ?_
  rw [c1]
  refine xe_land dJ13_bitCount_95d88_7 ?_
  rw [wb_and (by omega) (by decide)]
  refine xe_lsub dJ13_bitCount_95d88_8 ?_
  rw [lN_sub (by show x / 2 &&& 6148914691236517205 ≤ x; omega)]
  show Ev xs L mJ13_bitCount_95d88 9 _ [.long (lN (x - (x / 2 &&& 6148914691236517205)))] G σ G _
  have hv1 : x - (x / 2 &&& 6148914691236517205) < 2 ^ 63 := by omega
  generalize x - (x / 2 &&& 6148914691236517205) = v1 at hv1 hv3 hfin ⊢
  refine xe_lstore_n dJ13_bitCount_95d88_9 (by decide) ?_
  refine xe_lload_n dJ13_bitCount_95d88_10 rfl ?_
  refine xe_ldc2 dJ13_bitCount_95d88_11 gw438 ?_
  rw [c2]
  refine xe_land dJ13_bitCount_95d88_14 ?_
  rw [wb_and (by omega) (by decide)]
  refine xe_lload_n dJ13_bitCount_95d88_15 rfl ?_
  refine xe_iconst (v := nI 2) dJ13_bitCount_95d88_16 (by decide) ?_
  refine xe_lushr dJ13_bitCount_95d88_17 ?_
  rw [wb_shr (by omega) (by decide)]
  refine xe_ldc2 dJ13_bitCount_95d88_18 gw438 ?_
  rw [c2]
  refine xe_land dJ13_bitCount_95d88_21 ?_
  rw [wb_and (by omega) (by decide)]
  refine xe_ladd dJ13_bitCount_95d88_22 ?_
  rw [lN_add]
  show Ev xs L mJ13_bitCount_95d88 23 _ [.long (lN ((v1 &&& 3689348814741910323) + (v1 / 4 &&& 3689348814741910323)))] G σ G _
  have l2 : (v1 &&& 3689348814741910323) ≤ 3689348814741910323 := Nat.and_le_right
  have l3 : (v1 / 4 &&& 3689348814741910323) ≤ 3689348814741910323 := Nat.and_le_right
  have hv2 : (v1 &&& 3689348814741910323) + (v1 / 4 &&& 3689348814741910323) < 2 ^ 63 := by omega
  generalize (v1 &&& 3689348814741910323) + (v1 / 4 &&& 3689348814741910323) = v2 at hv2 hv3 hfin ⊢
  refine xe_lstore_n dJ13_bitCount_95d88_23 (by decide) ?_
  refine xe_lload_n dJ13_bitCount_95d88_24 rfl ?_
  refine xe_lload_n dJ13_bitCount_95d88_25 rfl ?_
  refine xe_iconst (v := nI 4) dJ13_bitCount_95d88_26 (by decide) ?_
  refine xe_lushr dJ13_bitCount_95d88_27 ?_
  rw [wb_shr (by omega) (by decide)]
  refine xe_ladd dJ13_bitCount_95d88_28 ?_
  rw [lN_add]
  refine xe_ldc2 dJ13_bitCount_95d88_29 gw439 ?_
  rw [c3]
  refine xe_land dJ13_bitCount_95d88_32 ?_
  rw [wb_and (by omega) (by decide)]
  show Ev xs L mJ13_bitCount_95d88 33 _ [.long (lN ((v2 + v2 / 16) &&& 1085102592571150095))] G σ G _
  generalize ((v2 + v2 / 16) &&& 1085102592571150095) = v3 at hv3 hfin ⊢
  refine xe_lstore_n dJ13_bitCount_95d88_33 (by decide) ?_
  refine xe_lload_n dJ13_bitCount_95d88_34 rfl ?_
  refine xe_lload_n dJ13_bitCount_95d88_35 rfl ?_
  refine xe_bipush (v := nI 8) dJ13_bitCount_95d88_36 (by decide) ?_
  refine xe_lushr dJ13_bitCount_95d88_38 ?_
  rw [wb_shr (by omega) (by decide)]
  refine xe_ladd dJ13_bitCount_95d88_39 ?_
  rw [lN_add]
  show Ev xs L mJ13_bitCount_95d88 40 _ [.long (lN (v3 + v3 / 256))] G σ G _
  have hv4 : v3 + v3 / 256 < 2 ^ 61 := by omega
  generalize v3 + v3 / 256 = v4 at hv4 hfin ⊢
  refine xe_lstore_n dJ13_bitCount_95d88_40 (by decide) ?_
  refine xe_lload_n dJ13_bitCount_95d88_41 rfl ?_
  refine xe_lload_n dJ13_bitCount_95d88_42 rfl ?_
  refine xe_bipush (v := nI 16) dJ13_bitCount_95d88_43 (by decide) ?_
  refine xe_lushr dJ13_bitCount_95d88_45 ?_
  rw [wb_shr (by omega) (by decide)]
  refine xe_ladd dJ13_bitCount_95d88_46 ?_
  rw [lN_add]
  show Ev xs L mJ13_bitCount_95d88 47 _ [.long (lN (v4 + v4 / 65536))] G σ G _
  have hv5 : v4 + v4 / 65536 < 2 ^ 62 := by omega
  generalize v4 + v4 / 65536 = v5 at hv5 hfin ⊢
  refine xe_lstore_n dJ13_bitCount_95d88_47 (by decide) ?_
  refine xe_lload_n dJ13_bitCount_95d88_48 rfl ?_
  refine xe_lload_n dJ13_bitCount_95d88_49 rfl ?_
  refine xe_bipush (v := nI 32) dJ13_bitCount_95d88_50 (by decide) ?_
  refine xe_lushr dJ13_bitCount_95d88_52 ?_
  rw [wb_shr (by omega) (by decide)]
  refine xe_ladd dJ13_bitCount_95d88_53 ?_
  rw [lN_add]
  show Ev xs L mJ13_bitCount_95d88 54 _ [.long (lN (v5 + v5 / 4294967296))] G σ G _
  refine xe_lstore_n dJ13_bitCount_95d88_54 (by decide) ?_
  refine xe_lload_n dJ13_bitCount_95d88_55 rfl ?_
  refine xe_l2i dJ13_bitCount_95d88_56 ?_
  rw [lN_i]
  refine xe_bipush (v := nI 127) dJ13_bitCount_95d88_57 (by decide) ?_
  refine xe_iand dJ13_bitCount_95d88_59 ?_
  refine e_iret dJ13_bitCount_95d88_60 rfl ?_
  rw [← hfin, pk_and _ 7 (by decide)]
  congr 1
  show (BitVec.ofNat 32 _).toNat % 2 ^ 7 = _
  rw [BitVec.toNat_ofNat, Nat.mod_mod_of_dvd _ (by decide)]
theorem E_crossesOneOf (hB : IsBd B) (hz : Ls σ B z) {m q : Nat} (hm : m < 2 ^ 62) (hq : q < z.length) : Cl xs L mX0_crossesOneOf [.ref B, .long (lN m), .int (nI q)] GS σ GS (pI σ (bI (crQ z m q))) := by
  show Ev xs L mX0_crossesOneOf 0 [.ref B, .long (lN m), .null, .int (nI q), .null] [] GS σ GS _
  have h48 := hz.2.1
  have hu : z[q]? = some z[q] := List.getElem?_eq_getElem hq
  generalize z[q] = u at hu
  obtain ⟨p1, p2, p3, p4⟩ := hz.so hu
  have key : ∀ k e, e + k = q → crQ z m q = anyN (fun e => m.testBit e && crX z e q) e k → Ev xs L mX0_crossesOneOf 3 [.ref B, .long (lN m), .null, .int (nI q), .int (nI e)] [] GS σ GS (pI σ (bI (crQ z m q))) := by
    intro k
    induction k with
    | zero =>
      intro e he hr
      refine xe_iload dX0_crossesOneOf_3 rfl ?_
      refine xe_iload_n dX0_crossesOneOf_5 rfl ?_
      refine xe_icmp_ge 56 dX0_crossesOneOf_6 (by decide) (fun _ => ?_) (fun c => absurd (nI_le (by omega) (by omega)) c)
      refine xe_iconst (v := nI 0) dX0_crossesOneOf_56 (by decide) ?_
      exact e_zret dX0_crossesOneOf_57 rfl (by rw [hr]; rfl)
    | succ k ih =>
      intro e he hr
      have hl : e < z.length := by omega
      have hs : z[e]? = some z[e] := List.getElem?_eq_getElem hl
      generalize z[e] = s at hs
      obtain ⟨o1, o2, o3, o4⟩ := hz.so hs
      have hx : crX z e q = crs4 s.2.1 s.2.2.1 u.2.1 u.2.2.1 := by unfold crX; rw [hs, hu]; rfl
      have hr : crQ z m q = (m.testBit e && crX z e q || anyN (fun e => m.testBit e && crX z e q) (e + 1) k) := hr
      rw [hx] at hr
      have no : (m.testBit e && crs4 s.2.1 s.2.2.1 u.2.1 u.2.2.1) = false → Ev xs L mX0_crossesOneOf 50 [.ref B, .long (lN m), .null, .int (nI q), .int (nI e)] [] GS σ GS (pI σ (bI (crQ z m q))) := by
        intro hn
        rw [hn, Bool.false_or] at hr
        refine xe_inc dX0_crossesOneOf_50 rfl (by decide) ?_
        refine xe_goto 3 dX0_crossesOneOf_53 (by decide) ?_
        rw [nI_1]
        exact ih (e + 1) (by omega) hr
      refine xe_iload dX0_crossesOneOf_3 rfl ?_
      refine xe_iload_n dX0_crossesOneOf_5 rfl ?_
      refine xe_icmp_ge 56 dX0_crossesOneOf_6 (by decide) (fun c => absurd c (nI_ge (by omega) (by omega))) (fun _ => ?_)
      refine xe_lload_n dX0_crossesOneOf_9 rfl ?_
      refine xe_iload dX0_crossesOneOf_10 rfl ?_
      refine xe_lshr dX0_crossesOneOf_12 ?_
      refine xe_lconst (v := 1) dX0_crossesOneOf_13 (by decide) ?_
      refine xe_land dX0_crossesOneOf_14 ?_
      rw [lbit hm (by omega)]
      refine xe_lconst (v := 1) dX0_crossesOneOf_15 (by decide) ?_
      refine xe_lcmp dX0_crossesOneOf_16 ?_
      cases hc : m.testBit e with
      | false =>
        refine xe_if_ne 50 dX0_crossesOneOf_17 (by decide) (fun _ => ?_) (fun c => absurd c (by decide))
        exact no (by rw [hc]; rfl)
      | true =>
        refine xe_if_ne 50 dX0_crossesOneOf_17 (by decide) (fun c => absurd c (fun w => w (by decide))) (fun _ => ?_)
        refine xe_aload_n dX0_crossesOneOf_20 rfl ?_
        refine xe_iload dX0_crossesOneOf_21 rfl ?_
        refine e_callVp (E_fromAt hB hz hs) dX0_crossesOneOf_23 kvX0_48 (bd_k hB) rfl ?_
        refine xe_aload_n dX0_crossesOneOf_26 rfl ?_
        refine xe_iload dX0_crossesOneOf_27 rfl ?_
        refine e_callVp (E_toAt hB hz hs) dX0_crossesOneOf_29 kvX0_51 (bd_k hB) rfl ?_
        refine xe_aload_n dX0_crossesOneOf_32 rfl ?_
        refine xe_iload_n dX0_crossesOneOf_33 rfl ?_
        refine e_callVp (E_fromAt hB hz hu) dX0_crossesOneOf_34 kvX0_48 (bd_k hB) rfl ?_
        refine xe_aload_n dX0_crossesOneOf_37 rfl ?_
        refine xe_iload_n dX0_crossesOneOf_38 rfl ?_
        refine e_callVp (E_toAt hB hz hu) dX0_crossesOneOf_39 kvX0_51 (bd_k hB) rfl ?_
        refine e_callSp (E_doCross o2 o3 p2 p3) dX0_crossesOneOf_42 ksX0_84 rfl ?_
        refine xz_if_eq 50 dX0_crossesOneOf_45 (by decide) (fun d => ?_) (fun d => ?_)
        · exact no (by rw [hc, d]; rfl)
        · refine xe_iconst (v := nI 1) dX0_crossesOneOf_48 (by decide) ?_
          exact e_zret dX0_crossesOneOf_49 rfl (by rw [hr, hc, d]; rfl)
  refine xe_iconst (v := nI 0) dX0_crossesOneOf_0 (by decide) ?_
  refine xe_istore dX0_crossesOneOf_1 (by decide) ?_
  exact key q 0 (by omega) rfl
theorem E_aboveOf (hB : IsBd B) (hz : Ls σ B z) {i : Nat} (hi : i < z.length) : Cl xs L mX0_aboveOf [.ref B, .int (nI i)] GS σ GS (pI σ (nI (abv z i))) := by
  show Ev xs L mX0_aboveOf 0 [.ref B, .int (nI i), .null, .null, .null] [] GS σ GS _
  have h48 := hz.2.1
  have key := goN z.length (abS z) (fun q a => a.1 < 2 ^ q → pcf 64 a.1 = a.2 + 1 → Ev xs L mX0_aboveOf 19 [.ref B, .int (nI i), .long (lN a.1), .null, .int (nI q)] [] GS σ GS (pI σ (nI (abv z i)))) (foldN (abS z) (i + 1) (z.length - (i + 1)) (2 ^ i, 0)) (by
      intro h1 h2
      have h3 : (2 : Nat) ^ z.length ≤ 2 ^ 48 := Nat.pow_le_pow_right (by decide) h48
      refine xe_iload dX0_aboveOf_19 rfl ?_
      refine xe_aload_n dX0_aboveOf_21 rfl ?_
      refine e_getI dX0_aboveOf_22 fdX0_28 rfl (bd_k hB) hz.1 ?_
      refine xe_icmp_ge 51 dX0_aboveOf_25 (by decide) (fun _ => ?_) (fun c => absurd (nI_le (Nat.le_refl _) (by omega)) c)
      refine xe_lload_n dX0_aboveOf_51 rfl ?_
      refine e_callSp (E_bitCountL (by omega)) dX0_aboveOf_52 ksX0_95 rfl ?_
      refine xe_iconst (v := nI 1) dX0_aboveOf_55 (by decide) ?_
      refine xe_isub dX0_aboveOf_56 ?_
      rw [h2, pk_sub (by omega), Nat.add_sub_cancel]
      exact e_iret dX0_aboveOf_57 rfl rfl) (by
      intro q a hq k h1 h2
      have h3 : (2 : Nat) ^ q ≤ 2 ^ 48 := Nat.pow_le_pow_right (by decide) (by omega)
      have h4 : (2 : Nat) ^ (q + 1) = 2 * 2 ^ q := Nat.pow_succ'
      refine xe_iload dX0_aboveOf_19 rfl ?_
      refine xe_aload_n dX0_aboveOf_21 rfl ?_
      refine e_getI dX0_aboveOf_22 fdX0_28 rfl (bd_k hB) hz.1 ?_
      refine xe_icmp_ge 51 dX0_aboveOf_25 (by decide) (fun c => absurd c (nI_ge hq (by omega))) (fun _ => ?_)
      refine xe_aload_n dX0_aboveOf_28 rfl ?_
      refine xe_lload_n dX0_aboveOf_29 rfl ?_
      refine xe_iload dX0_aboveOf_30 rfl ?_
      refine e_callVp (E_crossesOneOf hB hz (by omega) hq) dX0_aboveOf_32 kvX0_91 (bd_k hB) rfl ?_
      unfold abS at k
      refine xz_if_eq 45 dX0_aboveOf_35 (by decide) (fun c => ?_) (fun c => ?_)
      · rw [c] at k
        refine xe_inc dX0_aboveOf_45 rfl (by decide) ?_
        refine xe_goto 19 dX0_aboveOf_48 (by decide) ?_
        rw [nI_1]
        exact k (by show a.1 < _; omega) h2
      · rw [c] at k
        refine xe_lload_n dX0_aboveOf_38 rfl ?_
        refine xe_lconst (v := 1) dX0_aboveOf_39 (by decide) ?_
        refine xe_iload dX0_aboveOf_40 rfl ?_
        refine xe_lshl dX0_aboveOf_42 ?_
        rw [show (1 : Int64) = lN 1 by decide, wb_shl 1 (show q < 64 by omega), Nat.one_mul]
        refine xe_lor dX0_aboveOf_43 ?_
        rw [wb_or (by omega) (by omega)]
        refine xe_lstore_n dX0_aboveOf_44 (by decide) ?_
        refine xe_inc dX0_aboveOf_45 rfl (by decide) ?_
        refine xe_goto 19 dX0_aboveOf_48 (by decide) ?_
        rw [nI_1]
        have hp := pcf_top q 64 a.1 h1 (by omega)
        refine k ?_ ?_
        · show a.1 ||| 2 ^ q < _
          rw [or_top h1]
          omega
        · show pcf 64 (a.1 ||| 2 ^ q) = a.2 + 1 + 1
          rw [or_top h1, hp, h2]) (z.length - (i + 1)) (i + 1) (2 ^ i, 0) (by omega) rfl
  refine xe_aload_n dX0_aboveOf_0 rfl ?_
  refine xe_iload_n dX0_aboveOf_1 rfl ?_
  refine e_callVp (E_hasStretch hB hz.1) dX0_aboveOf_2 kvX0_88 (bd_k hB) rfl ?_
  rw [hasT_n (by omega) (by omega), decide_eq_true hi]
  refine xe_if_ne 10 dX0_aboveOf_5 (by decide) (fun _ => ?_) (fun c => absurd c (by decide))
  refine xe_lconst (v := 1) dX0_aboveOf_10 (by decide) ?_
  refine xe_iload_n dX0_aboveOf_11 rfl ?_
  refine xe_lshl dX0_aboveOf_12 ?_
  rw [show (1 : Int64) = lN 1 by decide, wb_shl 1 (show i < 64 by omega), Nat.one_mul]
  refine xe_lstore_n dX0_aboveOf_13 (by decide) ?_
  refine xe_iload_n dX0_aboveOf_14 rfl ?_
  refine xe_iconst (v := nI 1) dX0_aboveOf_15 (by decide) ?_
  refine xe_iadd dX0_aboveOf_16 ?_
  rw [nI_add]
  refine xe_istore dX0_aboveOf_17 (by decide) ?_
  refine key (Nat.pow_lt_pow_right (by decide) (by omega)) ?_
  have := pcf_top i 64 0 (Nat.two_pow_pos i) (by omega)
  rw [Nat.zero_add, pcf_0] at this
  exact this
end AB
