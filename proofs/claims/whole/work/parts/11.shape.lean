/-! the shape of the store when all is made -/
def GS : xG := gMod (xgk (gNT (xgk xG0 9 0 10) 1) 10 0 20) 110
theorem gk_1 : xk GS 1 = 9 := by decide +kernel
theorem gk_2 : xk GS 2 = 7 := by decide +kernel
theorem gk_14 : xk GS 14 = 3 := by decide +kernel
theorem gk_86 : xk GS 86 = 6 := by decide +kernel
theorem gk_99 : xk GS 99 = 5 := by decide +kernel
theorem gk_103 : xk GS 103 = 8 := by decide +kernel
theorem gk_105 : xk GS 105 = 4 := by decide +kernel
theorem gk_108 : xk GS 108 = 2 := by decide +kernel
theorem gk_110 : xk GS 110 = 10 := by decide +kernel
theorem gk_3 : xk GS 3 = 11 := by decide +kernel
theorem gn_3 : xn GS 3 = 48 := by decide +kernel
theorem gk_15 : xk GS 15 = 13 := by decide +kernel
theorem gn_15 : xn GS 15 = 14 := by decide +kernel
theorem gk_87 : xk GS 87 = 13 := by decide +kernel
theorem gn_87 : xn GS 87 = 2 := by decide +kernel
theorem gk_88 : xk GS 88 = 12 := by decide +kernel
theorem gn_88 : xn GS 88 = 2 := by decide +kernel
theorem gk_100 : xk GS 100 = 11 := by decide +kernel
theorem gn_100 : xn GS 100 = 6 := by decide +kernel
theorem gk_101 : xk GS 101 = 11 := by decide +kernel
theorem gn_101 : xn GS 101 = 6 := by decide +kernel
theorem gk_102 : xk GS 102 = 11 := by decide +kernel
theorem gn_102 : xn GS 102 = 6 := by decide +kernel
theorem gk_104 : xk GS 104 = 11 := by decide +kernel
theorem gn_104 : xn GS 104 = 12 := by decide +kernel
theorem gk_106 : xk GS 106 = 11 := by decide +kernel
theorem gn_106 : xn GS 106 = 4 := by decide +kernel
theorem gk_107 : xk GS 107 = 11 := by decide +kernel
theorem gn_107 : xn GS 107 = 4 := by decide +kernel
theorem gk_109 : xk GS 109 = 11 := by decide +kernel
theorem gn_109 : xn GS 109 = 16 := by decide +kernel
theorem gk_111 : xk GS 111 = 11 := by decide +kernel
theorem gn_111 : xn GS 111 = 4 := by decide +kernel
theorem gk_112 : xk GS 112 = 11 := by decide +kernel
theorem gn_112 : xn GS 112 = 106 := by decide +kernel
theorem gk_113 : xk GS 113 = 11 := by decide +kernel
theorem gn_113 : xn GS 113 = 4 := by decide +kernel
theorem gk_114 : xk GS 114 = 11 := by decide +kernel
theorem gn_114 : xn GS 114 = 48 := by decide +kernel
theorem gk_115 : xk GS 115 = 11 := by decide +kernel
theorem gn_115 : xn GS 115 = 48 := by decide +kernel
theorem gk_116 : xk GS 116 = 11 := by decide +kernel
theorem gn_116 : xn GS 116 = 742 := by decide +kernel
theorem gk_117 : xk GS 117 = 11 := by decide +kernel
theorem gn_117 : xn GS 117 = 144 := by decide +kernel
theorem gk_118 : xk GS 118 = 11 := by decide +kernel
theorem gn_118 : xn GS 118 = 6 := by decide +kernel
theorem gk_119 : xk GS 119 = 11 := by decide +kernel
theorem gn_119 : xn GS 119 = 6 := by decide +kernel
theorem gk_120 : xk GS 120 = 11 := by decide +kernel
theorem gn_120 : xn GS 120 = 6 := by decide +kernel
theorem gk_121 : xk GS 121 = 12 := by decide +kernel
theorem gn_121 : xn GS 121 = 2 := by decide +kernel
theorem gk_122 : xk GS 122 = 11 := by decide +kernel
theorem gn_122 : xn GS 122 = 106 := by decide +kernel
theorem gr_1_0 : xr GS 1 0 = 2 := by decide +kernel
theorem gr_1_1 : xr GS 1 1 = 4 := by decide +kernel
theorem gr_1_2 : xr GS 1 2 = 9 := by decide +kernel
theorem gr_1_3 : xr GS 1 3 = 14 := by decide +kernel
theorem gr_1_4 : xr GS 1 4 = 86 := by decide +kernel
theorem gr_1_5 : xr GS 1 5 = 99 := by decide +kernel
theorem gr_1_6 : xr GS 1 6 = 103 := by decide +kernel
theorem gr_1_7 : xr GS 1 7 = 105 := by decide +kernel
theorem gr_1_8 : xr GS 1 8 = 108 := by decide +kernel
theorem gr_2_0 : xr GS 2 0 = 3 := by decide +kernel
theorem gr_14_0 : xr GS 14 0 = 15 := by decide +kernel
theorem gr_86_0 : xr GS 86 0 = 87 := by decide +kernel
theorem gr_86_1 : xr GS 86 1 = 88 := by decide +kernel
theorem gr_99_0 : xr GS 99 0 = 100 := by decide +kernel
theorem gr_99_1 : xr GS 99 1 = 101 := by decide +kernel
theorem gr_99_2 : xr GS 99 2 = 102 := by decide +kernel
theorem gr_103_0 : xr GS 103 0 = 104 := by decide +kernel
theorem gr_105_0 : xr GS 105 0 = 106 := by decide +kernel
theorem gr_105_1 : xr GS 105 1 = 107 := by decide +kernel
theorem gr_108_0 : xr GS 108 0 = 109 := by decide +kernel
theorem gr_110_1 : xr GS 110 1 = 111 := by decide +kernel
theorem gr_110_2 : xr GS 110 2 = 112 := by decide +kernel
theorem gr_110_3 : xr GS 110 3 = 113 := by decide +kernel
theorem gr_110_5 : xr GS 110 5 = 114 := by decide +kernel
theorem gr_110_8 : xr GS 110 8 = 115 := by decide +kernel
theorem gr_110_11 : xr GS 110 11 = 116 := by decide +kernel
theorem gr_110_12 : xr GS 110 12 = 117 := by decide +kernel
theorem gr_110_14 : xr GS 110 14 = 118 := by decide +kernel
theorem gr_110_15 : xr GS 110 15 = 119 := by decide +kernel
theorem gr_110_16 : xr GS 110 16 = 120 := by decide +kernel
theorem gr_110_18 : xr GS 110 18 = 121 := by decide +kernel
theorem gr_110_19 : xr GS 110 19 = 122 := by decide +kernel
theorem gN : xN GS = 122 := by decide +kernel
theorem gZ : xZ GS = 2595 := by decide +kernel
/-- the cells of the boards: one that is now, one where is tried, fourteen of the row, two kept -/
def bds : List Nat := [4, 9, 16, 21, 26, 31, 36, 41, 46, 51, 56, 61, 66, 71, 76, 81, 89, 94]
def IsBd (B : Nat) : Prop := B ∈ bds
theorem bd_all : ∀ B ∈ bds, xk GS B = 1 ∧ xr GS B 0 = B + 1 ∧ xr GS B 1 = B + 2 ∧ xr GS B 2 = B + 3 ∧ xr GS B 3 = B + 4 ∧ xk GS (B + 1) = 11 ∧ xk GS (B + 2) = 11 ∧ xk GS (B + 3) = 11 ∧ xk GS (B + 4) = 11 ∧ xn GS (B + 1) = 4 ∧ xn GS (B + 2) = 4 ∧ xn GS (B + 3) = 4 ∧ xn GS (B + 4) = 48 ∧ 4 ≤ B ∧ B ≤ 94 := by decide +kernel
theorem bd_k {B : Nat} (h : IsBd B) : xk GS B = 1 := (bd_all B h).1
theorem bd_r0 {B : Nat} (h : IsBd B) : xr GS B 0 = B + 1 := (bd_all B h).2.1
theorem bd_r1 {B : Nat} (h : IsBd B) : xr GS B 1 = B + 2 := (bd_all B h).2.2.1
theorem bd_r2 {B : Nat} (h : IsBd B) : xr GS B 2 = B + 3 := (bd_all B h).2.2.2.1
theorem bd_r3 {B : Nat} (h : IsBd B) : xr GS B 3 = B + 4 := (bd_all B h).2.2.2.2.1
theorem bd_k1 {B : Nat} (h : IsBd B) : xk GS (B + 1) = 11 := (bd_all B h).2.2.2.2.2.1
theorem bd_k2 {B : Nat} (h : IsBd B) : xk GS (B + 2) = 11 := (bd_all B h).2.2.2.2.2.2.1
theorem bd_k3 {B : Nat} (h : IsBd B) : xk GS (B + 3) = 11 := (bd_all B h).2.2.2.2.2.2.2.1
theorem bd_k4 {B : Nat} (h : IsBd B) : xk GS (B + 4) = 11 := (bd_all B h).2.2.2.2.2.2.2.2.1
theorem bd_n1 {B : Nat} (h : IsBd B) : xn GS (B + 1) = 4 := (bd_all B h).2.2.2.2.2.2.2.2.2.1
theorem bd_n2 {B : Nat} (h : IsBd B) : xn GS (B + 2) = 4 := (bd_all B h).2.2.2.2.2.2.2.2.2.2.1
theorem bd_n3 {B : Nat} (h : IsBd B) : xn GS (B + 3) = 4 := (bd_all B h).2.2.2.2.2.2.2.2.2.2.2.1
theorem bd_n4 {B : Nat} (h : IsBd B) : xn GS (B + 4) = 48 := (bd_all B h).2.2.2.2.2.2.2.2.2.2.2.2.1
theorem bd_lo {B : Nat} (h : IsBd B) : 4 ≤ B ∧ B ≤ 94 := (bd_all B h).2.2.2.2.2.2.2.2.2.2.2.2.2
theorem bd_4 : IsBd 4 := (by decide : 4 ∈ bds)
theorem bd_9 : IsBd 9 := (by decide : 9 ∈ bds)
theorem bd_15 : ∀ i, i < 14 → xr GS 15 i = 16 + 5 * i ∧ (16 + 5 * i) ∈ bds := by decide +kernel
theorem bd_87 : ∀ i, i < 2 → xr GS 87 i = 89 + 5 * i ∧ (89 + 5 * i) ∈ bds := by decide +kernel
/-- two boards' cells are apart -/
theorem bd_apart : ∀ A ∈ bds, ∀ B ∈ bds, A ≠ B → A + 4 < B ∨ B + 4 < A := by decide +kernel
/-- a truth as a number -/
def bI (b : Bool) : Int32 := if b then 1 else 0
theorem nI_one : nI 1 = 1 := by decide
theorem bI_z (b : Bool) : bI b = 0 ∨ bI b = 1 := by cases b <;> decide
theorem bI_0 {b : Bool} : bI b = 0 ↔ b = false := by cases b <;> decide
abbrev pI (σ : xS) (x : Int32) : Option Value → xS → Prop := fun v t => v = some (.int x) ∧ t = σ
abbrev pL (σ : xS) (x : Int64) : Option Value → xS → Prop := fun v t => v = some (.long x) ∧ t = σ
section EE
variable {xs : Nat → Int32} {L : Nat} {M M2 : xM} {pc : Nat} {lv st : List Value} {σ : xS} {Q Q1 : Option Value → xS → Prop} {G : xG}
theorem e_callV {idx n q r : Nat} {As rest : List Value} (hE : Cl xs L M2 (.ref r :: As) G σ G Q1) (hd : decode M.2.1 pc = .ok (.invokevirtual idx, 3)) (hc : xCv M.1.cls idx M2 n q) (hk : xk G r = q) (hst : st = As.reverse ++ .ref r :: rest) (kk : ∀ (v : Option Value) (t : xS), Q1 v t → Ev xs L M (pc + 3) lv (v.toList ++ rest) G t G Q) (hn : As.length = n := by rfl) (hA : (xpos (.ref r :: As)).length ≤ M2.2.2.1 := by exact Nat.le_of_ble_eq_true rfl) (hw : (rest.map fun v => v.category).sum ≤ 8 := by exact Nat.le_of_ble_eq_true rfl) (hf : M2.2.2.2.2.1 + 1 ≤ M.2.2.2.2.1 ∧ 8 + (M2.2.2.1 + 11) + M2.2.2.2.2.2 ≤ M.2.2.2.2.2 := by exact ⟨Nat.le_of_ble_eq_true rfl, Nat.le_of_ble_eq_true rfl⟩) : Ev xs L M pc lv st G σ G Q := xe_callV' hE hd hc hst hk hn hA hw hf (Nat.le_refl _) (Nat.le_refl _) (Nat.le_refl _) (Nat.le_refl _) kk
theorem e_callS {idx n : Nat} {As rest : List Value} (hE : Cl xs L M2 As G σ G Q1) (hd : decode M.2.1 pc = .ok (.invokestatic idx, 3)) (hc : xCs M.1.cls idx M2 n) (hst : st = As.reverse ++ rest) (kk : ∀ (v : Option Value) (t : xS), Q1 v t → Ev xs L M (pc + 3) lv (v.toList ++ rest) G t G Q) (hn : As.length = n := by rfl) (hA : (xpos As).length ≤ M2.2.2.1 := by exact Nat.le_of_ble_eq_true rfl) (hw : (rest.map fun v => v.category).sum ≤ 8 := by exact Nat.le_of_ble_eq_true rfl) (hf : M2.2.2.2.2.1 + 1 ≤ M.2.2.2.2.1 ∧ 8 + (M2.2.2.1 + 11) + M2.2.2.2.2.2 ≤ M.2.2.2.2.2 := by exact ⟨Nat.le_of_ble_eq_true rfl, Nat.le_of_ble_eq_true rfl⟩) : Ev xs L M pc lv st G σ G Q := xe_callS' hE hd hc hst hn hA hw hf (Nat.le_refl _) (Nat.le_refl _) (Nat.le_refl _) (Nat.le_refl _) kk
theorem e_callVp {idx n q r : Nat} {As rest : List Value} {x : Int32} (hE : Cl xs L M2 (.ref r :: As) G σ G (pI σ x)) (hd : decode M.2.1 pc = .ok (.invokevirtual idx, 3)) (hc : xCv M.1.cls idx M2 n q) (hk : xk G r = q) (hst : st = As.reverse ++ .ref r :: rest) (kk : Ev xs L M (pc + 3) lv (.int x :: rest) G σ G Q) (hn : As.length = n := by rfl) (hA : (xpos (.ref r :: As)).length ≤ M2.2.2.1 := by exact Nat.le_of_ble_eq_true rfl) (hw : (rest.map fun v => v.category).sum ≤ 8 := by exact Nat.le_of_ble_eq_true rfl) (hf : M2.2.2.2.2.1 + 1 ≤ M.2.2.2.2.1 ∧ 8 + (M2.2.2.1 + 11) + M2.2.2.2.2.2 ≤ M.2.2.2.2.2 := by exact ⟨Nat.le_of_ble_eq_true rfl, Nat.le_of_ble_eq_true rfl⟩) : Ev xs L M pc lv st G σ G Q := xe_callV' hE hd hc hst hk hn hA hw hf (Nat.le_refl _) (Nat.le_refl _) (Nat.le_refl _) (Nat.le_refl _) (fun v t h => by obtain ⟨rfl, rfl⟩ := h; exact kk)
theorem e_callSp {idx n : Nat} {As rest : List Value} {x : Int32} (hE : Cl xs L M2 As G σ G (pI σ x)) (hd : decode M.2.1 pc = .ok (.invokestatic idx, 3)) (hc : xCs M.1.cls idx M2 n) (hst : st = As.reverse ++ rest) (kk : Ev xs L M (pc + 3) lv (.int x :: rest) G σ G Q) (hn : As.length = n := by rfl) (hA : (xpos As).length ≤ M2.2.2.1 := by exact Nat.le_of_ble_eq_true rfl) (hw : (rest.map fun v => v.category).sum ≤ 8 := by exact Nat.le_of_ble_eq_true rfl) (hf : M2.2.2.2.2.1 + 1 ≤ M.2.2.2.2.1 ∧ 8 + (M2.2.2.1 + 11) + M2.2.2.2.2.2 ≤ M.2.2.2.2.2 := by exact ⟨Nat.le_of_ble_eq_true rfl, Nat.le_of_ble_eq_true rfl⟩) : Ev xs L M pc lv st G σ G Q := xe_callS' hE hd hc hst hn hA hw hf (Nat.le_refl _) (Nat.le_refl _) (Nat.le_refl _) (Nat.le_refl _) (fun v t h => by obtain ⟨rfl, rfl⟩ := h; exact kk)
theorem e_callVl {idx n q r : Nat} {As rest : List Value} {y : Int64} (hE : Cl xs L M2 (.ref r :: As) G σ G (pL σ y)) (hd : decode M.2.1 pc = .ok (.invokevirtual idx, 3)) (hc : xCv M.1.cls idx M2 n q) (hk : xk G r = q) (hst : st = As.reverse ++ .ref r :: rest) (kk : Ev xs L M (pc + 3) lv (.long y :: rest) G σ G Q) (hn : As.length = n := by rfl) (hA : (xpos (.ref r :: As)).length ≤ M2.2.2.1 := by exact Nat.le_of_ble_eq_true rfl) (hw : (rest.map fun v => v.category).sum ≤ 8 := by exact Nat.le_of_ble_eq_true rfl) (hf : M2.2.2.2.2.1 + 1 ≤ M.2.2.2.2.1 ∧ 8 + (M2.2.2.1 + 11) + M2.2.2.2.2.2 ≤ M.2.2.2.2.2 := by exact ⟨Nat.le_of_ble_eq_true rfl, Nat.le_of_ble_eq_true rfl⟩) : Ev xs L M pc lv st G σ G Q := xe_callV' hE hd hc hst hk hn hA hw hf (Nat.le_refl _) (Nat.le_refl _) (Nat.le_refl _) (Nat.le_refl _) (fun v t h => by obtain ⟨rfl, rfl⟩ := h; exact kk)
theorem e_callSl {idx n : Nat} {As rest : List Value} {y : Int64} (hE : Cl xs L M2 As G σ G (pL σ y)) (hd : decode M.2.1 pc = .ok (.invokestatic idx, 3)) (hc : xCs M.1.cls idx M2 n) (hst : st = As.reverse ++ rest) (kk : Ev xs L M (pc + 3) lv (.long y :: rest) G σ G Q) (hn : As.length = n := by rfl) (hA : (xpos As).length ≤ M2.2.2.1 := by exact Nat.le_of_ble_eq_true rfl) (hw : (rest.map fun v => v.category).sum ≤ 8 := by exact Nat.le_of_ble_eq_true rfl) (hf : M2.2.2.2.2.1 + 1 ≤ M.2.2.2.2.1 ∧ 8 + (M2.2.2.1 + 11) + M2.2.2.2.2.2 ≤ M.2.2.2.2.2 := by exact ⟨Nat.le_of_ble_eq_true rfl, Nat.le_of_ble_eq_true rfl⟩) : Ev xs L M pc lv st G σ G Q := xe_callS' hE hd hc hst hn hA hw hf (Nat.le_refl _) (Nat.le_refl _) (Nat.le_refl _) (Nat.le_refl _) (fun v t h => by obtain ⟨rfl, rfl⟩ := h; exact kk)
theorem xn_icmp_eq {a b : Nat} {off : Int} (tgt : Nat) (hd : decode M.2.1 pc = .ok (.if_icmp .eq off, 3)) (ht : (pc : Int) + off = (tgt : Int)) (ha : a < 2 ^ 31) (hb : b < 2 ^ 31) (k1 : a = b → Ev xs L M tgt lv st G σ G Q) (k2 : a ≠ b → Ev xs L M (pc + 3) lv st G σ G Q) : Ev xs L M pc lv (.int (nI b) :: .int (nI a) :: st) G σ G Q := xe_icmp_eq tgt hd ht (fun h => k1 ((nI_eq ha hb).mp h)) (fun h => k2 (fun e => h ((nI_eq ha hb).mpr e)))
theorem xn_icmp_ne {a b : Nat} {off : Int} (tgt : Nat) (hd : decode M.2.1 pc = .ok (.if_icmp .ne off, 3)) (ht : (pc : Int) + off = (tgt : Int)) (ha : a < 2 ^ 31) (hb : b < 2 ^ 31) (k1 : a ≠ b → Ev xs L M tgt lv st G σ G Q) (k2 : a = b → Ev xs L M (pc + 3) lv st G σ G Q) : Ev xs L M pc lv (.int (nI b) :: .int (nI a) :: st) G σ G Q := xe_icmp_ne tgt hd ht (fun h => k1 (fun e => h ((nI_eq ha hb).mpr e))) (fun h => k2 ((nI_eq ha hb).mp h))
theorem xn_icmp_lt {a b : Nat} {off : Int} (tgt : Nat) (hd : decode M.2.1 pc = .ok (.if_icmp .lt off, 3)) (ht : (pc : Int) + off = (tgt : Int)) (ha : a < 2 ^ 31) (hb : b < 2 ^ 31) (k1 : a < b → Ev xs L M tgt lv st G σ G Q) (k2 : b ≤ a → Ev xs L M (pc + 3) lv st G σ G Q) : Ev xs L M pc lv (.int (nI b) :: .int (nI a) :: st) G σ G Q := xe_icmp_lt tgt hd ht (fun h => k1 ((nI_ltI ha hb).mp h)) (fun h => k2 (Nat.not_lt.mp (fun e => h ((nI_ltI ha hb).mpr e))))
theorem xn_icmp_ge {a b : Nat} {off : Int} (tgt : Nat) (hd : decode M.2.1 pc = .ok (.if_icmp .ge off, 3)) (ht : (pc : Int) + off = (tgt : Int)) (ha : a < 2 ^ 31) (hb : b < 2 ^ 31) (k1 : b ≤ a → Ev xs L M tgt lv st G σ G Q) (k2 : a < b → Ev xs L M (pc + 3) lv st G σ G Q) : Ev xs L M pc lv (.int (nI b) :: .int (nI a) :: st) G σ G Q := xe_icmp_ge tgt hd ht (fun h => k1 ((nI_leI hb ha).mp h)) (fun h => k2 (Nat.not_le.mp (fun e => h ((nI_leI hb ha).mpr e))))
theorem xn_icmp_gt {a b : Nat} {off : Int} (tgt : Nat) (hd : decode M.2.1 pc = .ok (.if_icmp .gt off, 3)) (ht : (pc : Int) + off = (tgt : Int)) (ha : a < 2 ^ 31) (hb : b < 2 ^ 31) (k1 : b < a → Ev xs L M tgt lv st G σ G Q) (k2 : a ≤ b → Ev xs L M (pc + 3) lv st G σ G Q) : Ev xs L M pc lv (.int (nI b) :: .int (nI a) :: st) G σ G Q := xe_icmp_gt tgt hd ht (fun h => k1 ((nI_ltI hb ha).mp h)) (fun h => k2 (Nat.not_lt.mp (fun e => h ((nI_ltI hb ha).mpr e))))
theorem xn_icmp_le {a b : Nat} {off : Int} (tgt : Nat) (hd : decode M.2.1 pc = .ok (.if_icmp .le off, 3)) (ht : (pc : Int) + off = (tgt : Int)) (ha : a < 2 ^ 31) (hb : b < 2 ^ 31) (k1 : a ≤ b → Ev xs L M tgt lv st G σ G Q) (k2 : b < a → Ev xs L M (pc + 3) lv st G σ G Q) : Ev xs L M pc lv (.int (nI b) :: .int (nI a) :: st) G σ G Q := xe_icmp_le tgt hd ht (fun h => k1 ((nI_leI ha hb).mp h)) (fun h => k2 (Nat.not_le.mp (fun e => h ((nI_leI ha hb).mpr e))))
theorem xn_if_eq {a : Nat} {off : Int} (tgt : Nat) (hd : decode M.2.1 pc = .ok (.ifCond .eq off, 3)) (ht : (pc : Int) + off = (tgt : Int)) (ha : a < 2 ^ 31) (k1 : a = 0 → Ev xs L M tgt lv st G σ G Q) (k2 : 0 < a → Ev xs L M (pc + 3) lv st G σ G Q) : Ev xs L M pc lv (.int (nI a) :: st) G σ G Q := xe_if_eq tgt hd ht (fun h => k1 ((nI_eq ha (by decide)).mp (h.trans nI_0.symm))) (fun h => k2 (Nat.pos_of_ne_zero (fun e => h (by rw [e]; exact nI_0))))
theorem xn_if_ne {a : Nat} {off : Int} (tgt : Nat) (hd : decode M.2.1 pc = .ok (.ifCond .ne off, 3)) (ht : (pc : Int) + off = (tgt : Int)) (ha : a < 2 ^ 31) (k1 : 0 < a → Ev xs L M tgt lv st G σ G Q) (k2 : a = 0 → Ev xs L M (pc + 3) lv st G σ G Q) : Ev xs L M pc lv (.int (nI a) :: st) G σ G Q := xe_if_ne tgt hd ht (fun h => k1 (Nat.pos_of_ne_zero (fun e => h (by rw [e]; exact nI_0)))) (fun h => k2 ((nI_eq ha (by decide)).mp (h.trans nI_0.symm)))
theorem xn_if_gt {a : Nat} {off : Int} (tgt : Nat) (hd : decode M.2.1 pc = .ok (.ifCond .gt off, 3)) (ht : (pc : Int) + off = (tgt : Int)) (ha : a < 2 ^ 31) (k1 : 0 < a → Ev xs L M tgt lv st G σ G Q) (k2 : a = 0 → Ev xs L M (pc + 3) lv st G σ G Q) : Ev xs L M pc lv (.int (nI a) :: st) G σ G Q := xe_if_gt tgt hd ht (fun h => k1 ((nI_ltI (by decide) ha).mp (by rw [nI_0]; exact h))) (fun h => k2 (Nat.eq_zero_of_not_pos (fun e => h (by rw [← nI_0]; exact (nI_ltI (by decide) ha).mpr e))))
theorem xn_if_le {a : Nat} {off : Int} (tgt : Nat) (hd : decode M.2.1 pc = .ok (.ifCond .le off, 3)) (ht : (pc : Int) + off = (tgt : Int)) (ha : a < 2 ^ 31) (k1 : a = 0 → Ev xs L M tgt lv st G σ G Q) (k2 : 0 < a → Ev xs L M (pc + 3) lv st G σ G Q) : Ev xs L M pc lv (.int (nI a) :: st) G σ G Q := xe_if_le tgt hd ht (fun h => k1 (Nat.le_zero.mp ((nI_leI ha (by decide)).mp (by rw [nI_0]; exact h)))) (fun h => k2 (Nat.pos_of_ne_zero (fun e => h (by rw [e]; decide))))
theorem xn_if_lt {a : Nat} {off : Int} (tgt : Nat) (hd : decode M.2.1 pc = .ok (.ifCond .lt off, 3)) (ht : (pc : Int) + off = (tgt : Int)) (ha : a < 2 ^ 31) (k2 : Ev xs L M (pc + 3) lv st G σ G Q) : Ev xs L M pc lv (.int (nI a) :: st) G σ G Q := xe_if_lt tgt hd ht (fun h => absurd h (nI_pos ha)) (fun _ => k2)
theorem xn_if_ge {a : Nat} {off : Int} (tgt : Nat) (hd : decode M.2.1 pc = .ok (.ifCond .ge off, 3)) (ht : (pc : Int) + off = (tgt : Int)) (ha : a < 2 ^ 31) (k1 : Ev xs L M tgt lv st G σ G Q) : Ev xs L M pc lv (.int (nI a) :: st) G σ G Q := xe_if_ge tgt hd ht (fun _ => k1) (fun h => absurd (nI_pos' ha) h)
theorem xz_if_eq {b : Bool} {off : Int} (tgt : Nat) (hd : decode M.2.1 pc = .ok (.ifCond .eq off, 3)) (ht : (pc : Int) + off = (tgt : Int)) (k1 : b = false → Ev xs L M tgt lv st G σ G Q) (k2 : b = true → Ev xs L M (pc + 3) lv st G σ G Q) : Ev xs L M pc lv (.int (bI b) :: st) G σ G Q := xe_if_eq tgt hd ht (fun h => k1 (bI_0.mp h)) (fun h => k2 (by cases b; exact absurd rfl h; rfl))
theorem xz_if_ne {b : Bool} {off : Int} (tgt : Nat) (hd : decode M.2.1 pc = .ok (.ifCond .ne off, 3)) (ht : (pc : Int) + off = (tgt : Int)) (k1 : b = true → Ev xs L M tgt lv st G σ G Q) (k2 : b = false → Ev xs L M (pc + 3) lv st G σ G Q) : Ev xs L M pc lv (.int (bI b) :: st) G σ G Q := xe_if_ne tgt hd ht (fun h => k1 (by cases b; exact absurd rfl h; rfl)) (fun h => k2 (bI_0.mp h))
theorem e_iret {x y : Int32} (hd : decode M.2.1 pc = .ok (.ireturn, 1)) (hr : M.2.2.2.1 = some .int) (e : x = y) : Ev xs L M pc lv [.int x] G σ G (pI σ y) := xe_iret hd hr ⟨by rw [e], rfl⟩
theorem e_zret {x : Int32} {b : Bool} (hd : decode M.2.1 pc = .ok (.ireturn, 1)) (hr : M.2.2.2.1 = some .boolean) (e : x = bI b) : Ev xs L M pc lv [.int x] G σ G (pI σ (bI b)) := xe_zret hd hr (by rw [e]; exact bI_z b) ⟨by rw [e], rfl⟩
theorem e_getI {r idx q k : Nat} {fin : Bool} {x : Int32} {G' : xG} (hd : decode M.2.1 pc = .ok (.getfield idx, 3)) (hf : xFd M.1.cls idx q k fin) (ht : xty q k = .int) (hk : xk G r = q) (hv : σ.1 r k = x) (kk : Ev xs L M (pc + 3) lv (.int x :: st) G σ G' Q) : Ev xs L M pc lv (.ref r :: st) G σ G' Q := xe_getI hd hf ht hk (by rw [hv]; exact kk)
theorem e_iald {a i n : Nat} {x : Int32} {G' : xG} (hd : decode M.2.1 pc = .ok (.iaload, 1)) (hk : xk G a = 11) (hn : xn G a = n) (hi : i < n) (hb : n < 2147483648) (hv : σ.1 a i = x) (kk : Ev xs L M (pc + 1) lv (.int x :: st) G σ G' Q) : Ev xs L M pc lv (.int (nI i) :: .ref a :: st) G σ G' Q := xe_iald hd hk (by rw [hn]; exact vp_in_nI hi hb) (by rw [nI_clamp (by omega), hv]; exact kk)
theorem e_iast {a i n : Nat} {x : Int32} {G' : xG} (hd : decode M.2.1 pc = .ok (.iastore, 1)) (hk : xk G a = 11) (hn : xn G a = n) (hi : i < n) (hb : n < 2147483648) (kk : Ev xs L M (pc + 1) lv st G (xpi σ a i x) G' Q) : Ev xs L M pc lv (.int x :: .int (nI i) :: .ref a :: st) G σ G' Q := xe_iast hd hk (by rw [hn]; exact vp_in_nI hi hb) (by rw [nI_clamp (by omega)]; exact kk)
end EE
