/-! the store as numbers: cells are numbered from 1 (0: null); G: what kind of cell, how long, which cells it names, how many cells, how many slots; then whole numbers, long ones -/
abbrev xG : Type := (Nat → Nat) × (Nat → Nat) × (Nat → Nat → Nat) × Nat × Nat
abbrev xS : Type := (Nat → Nat → Int32) × (Nat → Nat → Int64)
/-- where the cells begin; the script's cell; the two tables' cells; numbers of kinds, of slots; numbers of the rows' kinds -/
abbrev xB : Type := Nat × Nat × Nat × Nat × (Nat → ClassId) × (Nat → Nat → Nat) × ClassId × ClassId × ClassId
abbrev xk (G : xG) (i : Nat) : Nat := G.1 i
abbrev xn (G : xG) (i : Nat) : Nat := G.2.1 i
abbrev xr (G : xG) (i k : Nat) : Nat := G.2.2.1 i k
abbrev xN (G : xG) : Nat := G.2.2.2.1
abbrev xZ (G : xG) : Nat := G.2.2.2.2
abbrev xcI (B : xB) : ClassId := B.2.2.2.2.2.2.1
abbrev xcZ (B : xB) : ClassId := B.2.2.2.2.2.2.2.1
abbrev xcB (B : xB) : ClassId := B.2.2.2.2.2.2.2.2
abbrev xD (B : xB) : va_G := (B.2.2.2.2.1, B.2.2.2.2.2.1)
abbrev xA (B : xB) : Nat → Prop := fun q => B.1 ≤ q
/-- a number of a cell as an address; the three tokens: the script and the two tables -/
def xv (B : xB) : Value → Value
  | .ref r => if r = 0 then .null else .ref (B.1 + (r - 1))
  | .float z => .ref (if z = 0 then B.2.1 else if z = 1 then B.2.2.1 else B.2.2.2.1)
  | v => v
theorem xv_cat (B : xB) (v : Value) : (xv B v).category = v.category := by
  cases v with
  | ref r =>
    by_cases h : r = 0
    · simp only [xv, if_pos h, Value.category]
    · simp only [xv, if_neg h, Value.category]
  | _ => rfl
theorem xv_ref (B : xB) {r : Nat} (h : 1 ≤ r) : xv B (.ref r) = .ref (B.1 + (r - 1)) := by
  simp only [xv]
  rw [if_neg (Nat.ne_of_gt h)]
def xty (q : Nat) : Nat → FieldType := match q with
  | 1 => tyX0
  | 2 => tyX1
  | 3 => tyX3
  | 4 => tyX4
  | 5 => tyX6
  | 6 => tyX7
  | 7 => tyX8
  | 8 => tyX9
  | 9 => tyX10
  | _ => tyX11
def xnf (q : Nat) : Nat := match q with
  | 1 => 7
  | 2 => 1
  | 3 => 3
  | 4 => 2
  | 5 => 4
  | 6 => 2
  | 7 => 4
  | 8 => 1
  | 9 => 10
  | _ => 20
def xfv (B : xB) (G : xG) (σ : xS) (i : Nat) (ty : FieldType) (k : Nat) : Value := match ty with
  | .int => .int (σ.1 i k)
  | .boolean => .int (σ.1 i k)
  | .long => .long (σ.2 i k)
  | _ => xv B (.ref (xr G i k))
/-- the fields of an object of kind q -/
def xfs (B : xB) (G : xG) (σ : xS) (i q : Nat) : List Value := (List.range (xnf q)).map (fun k => xfv B G σ i (xty q k) k)
def xro (B : xB) (r : Nat) : Option Nat := if r = 0 then none else some (B.1 + (r - 1))
def xce (B : xB) (G : xG) (σ : xS) (i : Nat) : va_E :=
  if xk G i = 11 then .inl (xcI B, xn G i, .inl (σ.1 i))
  else if xk G i = 12 then .inl (xcZ B, xn G i, .inl (σ.1 i))
  else if xk G i = 13 then .inl (xcB B, xn G i, .inr (.inr (.inr (.inr (fun k => xro B (xr G i k))))))
  else .inr (xk G i - 1, xfs B G σ i (xk G i))
def xw (B : xB) (G : xG) (σ : xS) : va_W := (List.range (xN G)).map (fun j => (B.1 + j, xce B G σ (j + 1)))
abbrev xtys (B : xB) : List (ClassId × FieldType) := [(xcI B, .int), (xcZ B, .boolean), (xcB B, .object "NailThreads$Board")]
def xWd (B : xB) (G : xG) (σ : xS) (H : Heap) : Prop := H.size = B.1 + xN G ∧ va_P (xD B) vwCl (xw B G σ) H ∧ ∀ i, xk G i ≠ 0 → 1 ≤ i ∧ i ≤ xN G
theorem xw_get {B : xB} {G : xG} {σ : xS} {i : Nat} (h1 : 1 ≤ i) (h2 : i ≤ xN G) : (xw B G σ)[i - 1]? = some (B.1 + (i - 1), xce B G σ i) := by
  unfold xw
  rw [List.getElem?_map, List.getElem?_range (by omega)]
  simp only [Option.map_some]
  rw [show i - 1 + 1 = i by omega]
theorem xw_at {B : xB} {G : xG} {σ : xS} {j : Nat} {q : Nat × va_E} (h : (xw B G σ)[j]? = some q) : j < xN G ∧ q = (B.1 + j, xce B G σ (j + 1)) := by
  unfold xw at h
  rw [List.getElem?_map] at h
  have hl : j < xN G := by
    rcases Nat.lt_or_ge j (xN G) with z | z
    · exact z
    · rw [List.getElem?_eq_none (by simpa using z)] at h
      cases h
  rw [List.getElem?_range hl] at h
  exact ⟨hl, (Option.some.inj h).symm⟩
theorem xw_D (B : xB) (G : xG) (σ : xS) : va_D (xA B) (xw B G σ) := by
  refine ⟨fun i j p q hi hj hpq => ?_, fun k q hk => ?_⟩
  · obtain ⟨-, rfl⟩ := xw_at hi
    obtain ⟨-, rfl⟩ := xw_at hj
    have : B.1 + i = B.1 + j := hpq
    omega
  · obtain ⟨-, rfl⟩ := xw_at hk
    show B.1 ≤ B.1 + k
    omega
theorem xw_set {B : xB} {G G' : xG} {σ σ' : xS} {i : Nat} (h1 : 1 ≤ i) (h2 : i ≤ xN G) (hN : xN G' = xN G) (ho : ∀ j, j ≠ i → xce B G' σ' j = xce B G σ j) : (xw B G σ).set (i - 1) (B.1 + (i - 1), xce B G' σ' i) = xw B G' σ' := by
  apply List.ext_getElem?
  intro j
  by_cases hj : j = i - 1
  · subst hj
    rw [List.getElem?_set_self (by simpa [xw] using (show i - 1 < xN G by omega)), xw_get h1 (by omega)]
  · rw [List.getElem?_set_ne (Ne.symm hj)]
    unfold xw
    rw [List.getElem?_map, List.getElem?_map, hN]
    by_cases hl : j < xN G
    · rw [List.getElem?_range hl]
      simp only [Option.map_some]
      rw [ho (j + 1) (by omega)]
    · rw [List.getElem?_eq_none (by simpa using hl)]
      rfl
theorem xw_push {B : xB} {G G' : xG} {σ σ' : xS} (hN : xN G' = xN G + 1) (ho : ∀ j, j ≤ xN G → xce B G' σ' j = xce B G σ j) : xw B G σ ++ [(B.1 + xN G, xce B G' σ' (xN G + 1))] = xw B G' σ' := by
  unfold xw
  rw [hN, List.range_succ, List.map_append]
  have e : (List.range (xN G)).map (fun j => (B.1 + j, xce B G σ (j + 1))) = (List.range (xN G)).map (fun j => (B.1 + j, xce B G' σ' (j + 1))) := List.map_congr_left fun j hj => by
    rw [ho (j + 1) (by have := List.mem_range.mp hj; omega)]
  rw [e]
  rfl
theorem xfs_get {B : xB} {G : xG} {σ : xS} {i q k : Nat} (hk : k < xnf q) : (xfs B G σ i q)[k]? = some (xfv B G σ i (xty q k) k) := by
  unfold xfs
  rw [List.getElem?_map, List.getElem?_range hk]
  rfl
theorem xfs_set {B : xB} {G G' : xG} {σ σ' : xS} {i q k : Nat} (hk : k < xnf q) (ho : ∀ j, j ≠ k → xfv B G' σ' i (xty q j) j = xfv B G σ i (xty q j) j) : (xfs B G σ i q).set k (xfv B G' σ' i (xty q k) k) = xfs B G' σ' i q := by
  apply List.ext_getElem?
  intro j
  by_cases hj : j = k
  · subst hj
    rw [List.getElem?_set_self (by simpa [xfs] using hk), xfs_get hk]
  · rw [List.getElem?_set_ne (Ne.symm hj)]
    unfold xfs
    rw [List.getElem?_map, List.getElem?_map]
    by_cases hl : j < xnf q
    · rw [List.getElem?_range hl]
      simp only [Option.map_some]
      rw [ho j hj]
    · rw [List.getElem?_eq_none (by simpa using hl)]
      rfl
theorem xfs_len {B : xB} {G : xG} {σ : xS} {i q : Nat} : (xfs B G σ i q).length = xnf q := by simp [xfs]
theorem xce_o {B : xB} {G : xG} {σ : xS} {i q : Nat} (hk : xk G i = q) (hq : q ≤ 10) : xce B G σ i = .inr (q - 1, xfs B G σ i q) := by
  unfold xce
  rw [hk, if_neg (by omega), if_neg (by omega), if_neg (by omega)]
theorem xce_i {B : xB} {G : xG} {σ : xS} {i : Nat} (hk : xk G i = 11) : xce B G σ i = .inl (xcI B, xn G i, .inl (σ.1 i)) := by
  unfold xce
  rw [if_pos hk]
theorem xce_z {B : xB} {G : xG} {σ : xS} {i : Nat} (hk : xk G i = 12) : xce B G σ i = .inl (xcZ B, xn G i, .inl (σ.1 i)) := by
  unfold xce
  rw [if_neg (by omega), if_pos hk]
theorem xce_q {B : xB} {G : xG} {σ : xS} {i : Nat} (hk : xk G i = 13) : xce B G σ i = .inl (xcB B, xn G i, .inr (.inr (.inr (.inr (fun k => xro B (xr G i k)))))) := by
  unfold xce
  rw [if_neg (by omega), if_neg (by omega), if_pos hk]
/-- one number of a cell is another one -/
def xpi (σ : xS) (i k : Nat) (x : Int32) : xS := (fun a => if a = i then upd (σ.1 i) k x else σ.1 a, σ.2)
def xpl (σ : xS) (i k : Nat) (x : Int64) : xS := (σ.1, fun a => if a = i then vp_updL (σ.2 i) k x else σ.2 a)
theorem xpi_at (σ : xS) (i k : Nat) (x : Int32) : (xpi σ i k x).1 i = upd (σ.1 i) k x := by
  show (if i = i then _ else _) = _
  rw [if_pos rfl]
theorem xpi_ne (σ : xS) {i j : Nat} (k : Nat) (x : Int32) (h : j ≠ i) : (xpi σ i k x).1 j = σ.1 j := by
  show (if j = i then _ else _) = _
  rw [if_neg h]
theorem xpl_at (σ : xS) (i k : Nat) (x : Int64) : (xpl σ i k x).2 i = vp_updL (σ.2 i) k x := by
  show (if i = i then _ else _) = _
  rw [if_pos rfl]
theorem xpl_ne (σ : xS) {i j : Nat} (k : Nat) (x : Int64) (h : j ≠ i) : (xpl σ i k x).2 j = σ.2 j := by
  show (if j = i then _ else _) = _
  rw [if_neg h]
theorem xfv_cong {B : xB} {G G' : xG} {σ σ' : xS} {i k : Nat} {ty : FieldType} (h1 : σ'.1 i k = σ.1 i k) (h2 : σ'.2 i k = σ.2 i k) (h3 : xr G' i k = xr G i k) : xfv B G' σ' i ty k = xfv B G σ i ty k := by
  unfold xfv
  cases ty <;> simp only [h1, h2, h3]
theorem xce_cong {B : xB} {G G' : xG} {σ σ' : xS} {i : Nat} (hk : xk G' i = xk G i) (hn : xn G' i = xn G i) (h1 : σ'.1 i = σ.1 i) (h2 : σ'.2 i = σ.2 i) (h3 : ∀ k, xr G' i k = xr G i k) : xce B G' σ' i = xce B G σ i := by
  have hf : ∀ q, xfs B G' σ' i q = xfs B G σ i q := fun q => List.map_congr_left fun k _ => xfv_cong (by rw [h1]) (by rw [h2]) (h3 k)
  unfold xce
  rw [hk, hn, h1, hf]
  simp only [h3]
theorem xce_pi {B : xB} {G : xG} {σ : xS} {i k : Nat} {x : Int32} : ∀ j, j ≠ i → xce B G (xpi σ i k x) j = xce B G σ j := fun j hj => xce_cong rfl rfl (xpi_ne σ k x hj) rfl (fun _ => rfl)
theorem xce_pl {B : xB} {G : xG} {σ : xS} {i k : Nat} {x : Int64} : ∀ j, j ≠ i → xce B G (xpl σ i k x) j = xce B G σ j := fun j hj => xce_cong rfl rfl rfl (xpl_ne σ k x hj) (fun _ => rfl)
