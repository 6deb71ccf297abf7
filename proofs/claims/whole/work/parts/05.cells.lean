/-! rows that reach cells -/
def xCf (q : Nat) (C : String) (T : u_T) : Prop := vwCl[q - 1]? = some (C, T, xnf q) ∧ 1 ≤ q ∧ q ≤ 10 ∧ (∀ w ∈ u_ws C T (xnf q), w ∈ GT) ∧ (∀ k, k < xnf q → parseFieldDescriptor (T k).2.2.1 = some (xty q k)) ∧ (∀ a, a < xnf q → ∀ b, b < xnf q → a ≠ b → (T a).2.1 ≠ (T b).2.1) ∧ Cond.instantiable C (xnf q) ∈ GT ∧ Cond.initialized C ∈ GT
def xFd (own : String) (idx q k : Nat) (fin : Bool) : Prop := ∃ (C : String) (T : u_T), xCf q C T ∧ k < xnf q ∧ Cond.fieldLink own idx (T k).1 (T k).2.1 (T k).2.2.1 ∈ GT ∧ (T k).2.2.2 = fin ∧ (T k).1 = C
/-- what a field holds, as numbers -/
def xfa (G : xG) (σ : xS) (i : Nat) (ty : FieldType) (k : Nat) : Value := match ty with
  | .int => .int (σ.1 i k)
  | .boolean => .int (σ.1 i k)
  | .long => .long (σ.2 i k)
  | _ => .ref (xr G i k)
theorem xfa_v (B : xB) (G : xG) (σ : xS) (i : Nat) (ty : FieldType) (k : Nat) : xv B (xfa G σ i ty k) = xfv B G σ i ty k := by
  cases ty <;> rfl
theorem xty_ok (q j : Nat) : xty q j = .int ∨ xty q j = .boolean ∨ xty q j = .long ∨ (∃ t, xty q j = .array t) ∨ ∃ c, xty q j = .object c := by
  unfold xty
  split
  · unfold tyX0; split <;> simp
  · unfold tyX1; split <;> simp
  · unfold tyX3; split <;> simp
  · unfold tyX4; split <;> simp
  · unfold tyX6; split <;> simp
  · unfold tyX7; split <;> simp
  · unfold tyX8; split <;> simp
  · unfold tyX9; split <;> simp
  · unfold tyX10; split <;> simp
  · unfold tyX11; split <;> simp
theorem xput_w {B : xB} {G G2 : xG} {σ σ2 : xS} {r q k : Nat} {v : Value} (hq : q ≤ 10) (r1 : 1 ≤ r) (r2 : r ≤ xN G) (hkn : k < xnf q) (hN : xN G2 = xN G) (hk2 : xk G2 r = q) (ho : ∀ j, j ≠ r → xce B G2 σ2 j = xce B G σ j) (hv : xfv B G2 σ2 r (xty q k) k = v) (hof : ∀ j, j ≠ k → xfv B G2 σ2 r (xty q j) j = xfv B G σ r (xty q j) j) : (xw B G σ).set (r - 1) (B.1 + (r - 1), .inr (q - 1, (xfs B G σ r q).set k v)) = xw B G2 σ2 := by
  rw [← xw_set r1 r2 hN ho, xce_o hk2 hq, ← xfs_set hkn hof, hv]
theorem xS_self {A : Nat → Prop} {H0 H : Heap} {locs : List Loc} (h : va_S A H0 H locs) : va_S A H H locs := ⟨Nat.le_refl _, fun _ _ _ => rfl, h.2.2⟩
theorem xS_trans {A : Nat → Prop} {H0 H H1 : Heap} {locs locs1 : List Loc} (h : va_S A H0 H locs) (h1 : va_S A H H1 locs1) : va_S A H0 H1 locs1 := ⟨Nat.le_trans h.1 h1.1, fun q a b => (h1.2.1 q (Nat.lt_of_lt_of_le a h.1) b).trans (h.2.1 q a b), h1.2.2⟩
/-- the room tells how large the store can be -/
theorem xW_le {p : Program} {l : Launch} {e : Env} {R : Room} {s : State} {m : MethodId} {args : Array Value} {below : List Frame} {meth : Method} {c : Code} {H : Heap} {locs : List Loc} {cells slots : Nat} {Q : State → Prop} {g : JFrame} (k : H.size ≤ s.heap.size + cells → W p l e R s m args below meth c H locs cells slots Q g) : W p l e R s m args below meth c H locs cells slots Q g := fun T hT X => k (by rw [← hT]; exact X.same.2.2.1) T hT X
section XC
variable {xs : Nat → Int32} {L : Nat} {M : xM} {pc : Nat} {lv st : List Value} {G G' : xG} {σ : xS} {Q : Option Value → xS → Prop}
theorem xe_get {r idx q k : Nat} {fin : Bool} (hd : decode M.2.1 pc = .ok (.getfield idx, 3)) (hf : xFd M.1.cls idx q k fin) (hk : xk G r = q) (kk : Ev xs L M (pc + 3) lv (xfa G σ r (xty q k) k :: st) G σ G' Q) : Ev xs L M pc lv (.ref r :: st) G σ G' Q := by
  intro l B p e R s mid args below meth c H locs cells slots ls QQ hC hR hW hS hL kr
  obtain ⟨C, T, ⟨hcl, hq1, hq10, hin, hty, hnm, hins, hini⟩, hkn, hlk, hfi, hde⟩ := hf
  obtain ⟨r1, r2⟩ := hW.2.2 r (by rw [hk]; omega)
  have kk := kk l B p e R s mid args below meth c H locs cells slots ls QQ hC hR hW hS hL kr
  rw [List.map_cons, xfa_v] at kk
  rw [List.map_cons, xv_ref B r1]
  exact va_get hC.1 hC.2.1 hC.2.2.2.2.1 hin hC.2.2.2.1 hC.2.2.2.2.2.2.2.1 hW.2.1 (r - 1) (fs := xfs B G σ r q) (by rw [xw_get r1 r2, xce_o hk hq10]) hcl k hkn (hC.2.2.2.2.1 _ hlk) (fun x h => h) (xfs_get hkn) hd kk
theorem xe_getI {r idx q k : Nat} {fin : Bool} (hd : decode M.2.1 pc = .ok (.getfield idx, 3)) (hf : xFd M.1.cls idx q k fin) (ht : xty q k = .int) (hk : xk G r = q) (kk : Ev xs L M (pc + 3) lv (.int (σ.1 r k) :: st) G σ G' Q) : Ev xs L M pc lv (.ref r :: st) G σ G' Q := xe_get hd hf hk (by rw [ht]; exact kk)
theorem xe_getZ {r idx q k : Nat} {fin : Bool} (hd : decode M.2.1 pc = .ok (.getfield idx, 3)) (hf : xFd M.1.cls idx q k fin) (ht : xty q k = .boolean) (hk : xk G r = q) (kk : Ev xs L M (pc + 3) lv (.int (σ.1 r k) :: st) G σ G' Q) : Ev xs L M pc lv (.ref r :: st) G σ G' Q := xe_get hd hf hk (by rw [ht]; exact kk)
theorem xe_getJ {r idx q k : Nat} {fin : Bool} (hd : decode M.2.1 pc = .ok (.getfield idx, 3)) (hf : xFd M.1.cls idx q k fin) (ht : xty q k = .long) (hk : xk G r = q) (kk : Ev xs L M (pc + 3) lv (.long (σ.2 r k) :: st) G σ G' Q) : Ev xs L M pc lv (.ref r :: st) G σ G' Q := xe_get hd hf hk (by rw [ht]; exact kk)
theorem xe_getA {r idx q k : Nat} {fin : Bool} {t : FieldType} (hd : decode M.2.1 pc = .ok (.getfield idx, 3)) (hf : xFd M.1.cls idx q k fin) (ht : xty q k = .array t) (hk : xk G r = q) (kk : Ev xs L M (pc + 3) lv (.ref (xr G r k) :: st) G σ G' Q) : Ev xs L M pc lv (.ref r :: st) G σ G' Q := xe_get hd hf hk (by rw [ht]; exact kk)
theorem xe_getO {r idx q k : Nat} {fin : Bool} {t : String} (hd : decode M.2.1 pc = .ok (.getfield idx, 3)) (hf : xFd M.1.cls idx q k fin) (ht : xty q k = .object t) (hk : xk G r = q) (kk : Ev xs L M (pc + 3) lv (.ref (xr G r k) :: st) G σ G' Q) : Ev xs L M pc lv (.ref r :: st) G σ G' Q := xe_get hd hf hk (by rw [ht]; exact kk)
/-- a field that may change -/
theorem xe_putW {r idx q k : Nat} {v : Value} {G2 : xG} {σ2 : xS} (hd : decode M.2.1 pc = .ok (.putfield idx, 3)) (hf : xFd M.1.cls idx q k false) (hk : xk G r = q) (hn : ∀ B, narrow (xty q k) (xv B v) = xv B v) (hfit : ∀ B, fits (xty q k) (xv B v) = true) (hN : xN G2 = xN G) (hZ : xZ G2 = xZ G) (hk2 : ∀ i, xk G2 i = xk G i) (ho : ∀ B j, j ≠ r → xce B G2 σ2 j = xce B G σ j) (hv : ∀ B, xfv B G2 σ2 r (xty q k) k = xv B v) (hof : ∀ B j, j ≠ k → xfv B G2 σ2 r (xty q j) j = xfv B G σ r (xty q j) j) (kk : Ev xs L M (pc + 3) lv st G2 σ2 G' Q) : Ev xs L M pc lv (v :: .ref r :: st) G σ G' Q := by
  intro l B p e R s mid args below meth c H locs cells slots ls QQ hC hR hW hS hL kr
  obtain ⟨C, T, ⟨hcl, hq1, hq10, hin, hty, hnm, hins, hini⟩, hkn, hlk, hfi, hde⟩ := hf
  obtain ⟨r1, r2⟩ := hW.2.2 r (by rw [hk]; omega)
  rw [List.map_cons, List.map_cons, xv_ref B r1]
  refine va_put hC.1 hC.2.1 hC.2.2.2.2.1 hin (xty q) hty hnm hC.2.2.2.1 hC.2.2.2.2.2.2.2.1 hW.2.1 (xw_D B G σ) (xS_self hS) (r - 1) (fs := xfs B G σ r q) (by rw [xw_get r1 r2, xce_o hk hq10]) hcl k hkn (hC.2.2.2.2.1 _ hlk) (fun x h => h) hfi (hty k hkn) (hn B) (hfit B) (by rw [xfs_len]; exact hkn) hd (fun H1 locs1 hP1 hD1 hS1 => ?_)
  rw [xput_w hq10 r1 r2 hkn hN ((hk2 r).trans hk) (ho B) (hv B) (hof B)] at hP1
  refine xW_le (fun hle => ?_)
  obtain ⟨a1, a2, a3, a4, a5, a6, a7⟩ := hR
  have hsz := hW.1
  have hlo := hS1.1
  refine kk l B p e R s mid args below meth c H1 locs1 cells slots ls QQ hC ⟨a1, a2, by rw [hN]; exact a3, by rw [hZ]; exact a4, by rw [hN]; exact a5, by rw [hZ]; exact a6, by rw [hN]; exact a7⟩ ⟨by rw [hN]; omega, hP1, fun i hi => by rw [hN]; exact hW.2.2 i (by rw [← hk2]; exact hi)⟩ (xS_trans hS hS1) hL ?_
  rw [hN, hZ]
  exact kr
theorem xe_putI {r idx q k : Nat} {x : Int32} (hd : decode M.2.1 pc = .ok (.putfield idx, 3)) (hf : xFd M.1.cls idx q k false) (ht : xty q k = .int) (hk : xk G r = q) (kk : Ev xs L M (pc + 3) lv st G (xpi σ r k x) G' Q) : Ev xs L M pc lv (.int x :: .ref r :: st) G σ G' Q := by
  refine xe_putW hd hf hk (fun _ => by rw [ht]; rfl) (fun _ => by rw [ht]; rfl) rfl rfl (fun _ => rfl) (fun B => xce_pi) (fun B => ?_) (fun B j hj => ?_) kk
  · rw [ht]
    show Value.int _ = .int x
    rw [xpi_at, pk_us]
  · exact xfv_cong (by rw [xpi_at, pk_un hj]) rfl rfl
theorem xe_putZ {r idx q k : Nat} {x : Int32} (hd : decode M.2.1 pc = .ok (.putfield idx, 3)) (hf : xFd M.1.cls idx q k false) (ht : xty q k = .boolean) (hx : x = 0 ∨ x = 1) (hk : xk G r = q) (kk : Ev xs L M (pc + 3) lv st G (xpi σ r k x) G' Q) : Ev xs L M pc lv (.int x :: .ref r :: st) G σ G' Q := by
  refine xe_putW hd hf hk (fun _ => by rw [ht]; rcases hx with rfl | rfl <;> rfl) (fun _ => by rw [ht]; rcases hx with rfl | rfl <;> rfl) rfl rfl (fun _ => rfl) (fun B => xce_pi) (fun B => ?_) (fun B j hj => ?_) kk
  · rw [ht]
    show Value.int _ = .int x
    rw [xpi_at, pk_us]
  · exact xfv_cong (by rw [xpi_at, pk_un hj]) rfl rfl
theorem xe_putJ {r idx q k : Nat} {x : Int64} (hd : decode M.2.1 pc = .ok (.putfield idx, 3)) (hf : xFd M.1.cls idx q k false) (ht : xty q k = .long) (hk : xk G r = q) (kk : Ev xs L M (pc + 3) lv st G (xpl σ r k x) G' Q) : Ev xs L M pc lv (.long x :: .ref r :: st) G σ G' Q := by
  refine xe_putW hd hf hk (fun _ => by rw [ht]; rfl) (fun _ => by rw [ht]; rfl) rfl rfl (fun _ => rfl) (fun B => xce_pl) (fun B => ?_) (fun B j hj => ?_) kk
  · rw [ht]
    show Value.long _ = .long x
    rw [xpl_at, pk_uLs]
  · exact xfv_cong rfl (by rw [xpl_at, pk_uLn hj]) rfl
/-- one cell names another one -/
def xgr (G : xG) (i k j : Nat) : xG := (G.1, G.2.1, fun a b => if a = i ∧ b = k then j else G.2.2.1 a b, G.2.2.2)
theorem xgr_at (G : xG) (i k j : Nat) : xr (xgr G i k j) i k = j := by
  show (if i = i ∧ k = k then j else _) = j
  rw [if_pos ⟨rfl, rfl⟩]
theorem xgr_ne (G : xG) {i k j a b : Nat} (h : ¬ (a = i ∧ b = k)) : xr (xgr G i k j) a b = xr G a b := by
  show (if a = i ∧ b = k then j else _) = _
  rw [if_neg h]
/-- a field that is set where it is made -/
theorem xe_putR {r idx q k j : Nat} (hd : decode M.2.1 pc = .ok (.putfield idx, 3)) (hf : xFd M.1.cls idx q k true) (ht : (∃ t, xty q k = .array t) ∨ ∃ t, xty q k = .object t) (hin : M.1.name = "<init>") (hq : ∀ C T, xCf q C T → C = M.1.cls) (hk : xk G r = q) (kk : Ev xs L M (pc + 3) lv st (xgr G r k j) σ G' Q) : Ev xs L M pc lv (.ref j :: .ref r :: st) G σ G' Q := by
  intro l B p e R s mid args below meth c H locs cells slots ls QQ hC hR hW hS hL kr
  obtain ⟨C, T, hcf, hkn, hlk, hfi, hde⟩ := hf
  have hC2 := hq C T hcf
  obtain ⟨hcl, hq1, hq10, hin2, hty, hnm, hins, hini⟩ := hcf
  obtain ⟨r1, r2⟩ := hW.2.2 r (by rw [hk]; omega)
  have hnv : narrow (xty q k) (xv B (.ref j)) = xv B (.ref j) := by
    by_cases hj : j = 0
    · have e1 : xv B (.ref j) = .null := by simp only [xv, if_pos hj]
      rw [e1]
      rcases ht with ⟨t, ht⟩ | ⟨t, ht⟩ <;> rw [ht] <;> rfl
    · have e1 : xv B (.ref j) = .ref (B.1 + (j - 1)) := by simp only [xv, if_neg hj]
      rw [e1]
      rcases ht with ⟨t, ht⟩ | ⟨t, ht⟩ <;> rw [ht] <;> rfl
  have hft : fits (xty q k) (xv B (.ref j)) = true := by
    by_cases hj : j = 0
    · have e1 : xv B (.ref j) = .null := by simp only [xv, if_pos hj]
      rw [e1]
      rcases ht with ⟨t, ht⟩ | ⟨t, ht⟩ <;> rw [ht] <;> rfl
    · have e1 : xv B (.ref j) = .ref (B.1 + (j - 1)) := by simp only [xv, if_neg hj]
      rw [e1]
      rcases ht with ⟨t, ht⟩ | ⟨t, ht⟩ <;> rw [ht] <;> rfl
  rw [List.map_cons, List.map_cons, xv_ref B r1]
  refine va_putF hC.1 hC.2.1 hC.2.2.2.2.1 hin2 (xty q) hty hnm hC.2.2.2.1 hC.2.2.2.2.2.2.2.1 hW.2.1 (xw_D B G σ) (xS_self hS) (r - 1) (fs := xfs B G σ r q) (by rw [xw_get r1 r2, xce_o hk hq10]) hcl k hkn (hC.2.2.2.2.1 _ hlk) (fun x h => h) hfi (hC.2.2.2.2.2.1 hin) (hde.trans hC2) (hty k hkn) hnv hft (by rw [xfs_len]; exact hkn) hd (fun H1 locs1 hP1 hD1 hS1 => ?_)
  rw [xput_w (G2 := xgr G r k j) (σ2 := σ) hq10 r1 r2 hkn rfl hk (fun i hi => xce_cong rfl rfl rfl rfl (fun b => xgr_ne G (fun z => hi z.1))) (by
      have e2 : xr (xgr G r k j) r k = j := xgr_at G r k j
      rcases ht with ⟨t, ht⟩ | ⟨t, ht⟩ <;> rw [ht] <;> show xv B (.ref (xr (xgr G r k j) r k)) = _ <;> rw [e2]) (fun i hi => xfv_cong rfl rfl (xgr_ne G (fun z => hi z.2)))] at hP1
  refine xW_le (fun hle => ?_)
  have hsz := hW.1
  have hlo := hS1.1
  have h7 := hR.2.2.2.2.2.2
  exact kk l B p e R s mid args below meth c H1 locs1 cells slots ls QQ hC hR ⟨by show H1.size = B.1 + xN G; omega, hP1, hW.2.2⟩ (xS_trans hS hS1) hL kr
end XC
