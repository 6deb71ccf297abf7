/-! rows of arrays, tables, the script, and of what is made -/
section XA
variable {xs : Nat → Int32} {L : Nat} {M : xM} {pc : Nat} {lv st : List Value} {G G' : xG} {σ : xS} {Q : Option Value → xS → Prop}
theorem xe_iald {a : Nat} {i : Int32} (hd : decode M.2.1 pc = .ok (.iaload, 1)) (hk : xk G a = 11) (hi : vp_in i (xn G a)) (kk : Ev xs L M (pc + 1) lv (.int (σ.1 a i.toNatClampNeg) :: st) G σ G' Q) : Ev xs L M pc lv (.int i :: .ref a :: st) G σ G' Q := by
  intro l B p e R s mid args below meth c H locs cells slots ls QQ hC hR hW hS hL kr
  obtain ⟨r1, r2⟩ := hW.2.2 a (by rw [hk]; omega)
  have kk := kk l B p e R s mid args below meth c H locs cells slots ls QQ hC hR hW hS hL kr
  rw [List.map_cons, List.map_cons, xv_ref B r1]
  exact va_iald hC.1 hC.2.1 hC.2.2.2.2.2.2.2.1 hW.2.1 (a - 1) 0 (by rw [xw_get r1 r2, xce_i hk]) rfl hi hd kk
theorem xe_bald {a : Nat} {i : Int32} (hd : decode M.2.1 pc = .ok (.baload, 1)) (hk : xk G a = 12) (hi : vp_in i (xn G a)) (kk : Ev xs L M (pc + 1) lv (.int (σ.1 a i.toNatClampNeg) :: st) G σ G' Q) : Ev xs L M pc lv (.int i :: .ref a :: st) G σ G' Q := by
  intro l B p e R s mid args below meth c H locs cells slots ls QQ hC hR hW hS hL kr
  obtain ⟨r1, r2⟩ := hW.2.2 a (by rw [hk]; omega)
  have kk := kk l B p e R s mid args below meth c H locs cells slots ls QQ hC hR hW hS hL kr
  rw [List.map_cons, List.map_cons, xv_ref B r1]
  exact va_zald hC.1 hC.2.1 hC.2.2.2.2.2.2.2.1 hW.2.1 (a - 1) 1 (by rw [xw_get r1 r2, xce_z hk]) rfl hi hd kk
theorem xro_v (B : xB) (r : Nat) : va_rf (xro B r) = xv B (.ref r) := by
  unfold xro
  by_cases h : r = 0
  · rw [if_pos h]
    simp only [xv, if_pos h]
    rfl
  · rw [if_neg h]
    simp only [xv, if_neg h]
    rfl
theorem xe_aald {a : Nat} {i : Int32} (hd : decode M.2.1 pc = .ok (.aaload, 1)) (hk : xk G a = 13) (hi : vp_in i (xn G a)) (kk : Ev xs L M (pc + 1) lv (.ref (xr G a i.toNatClampNeg) :: st) G σ G' Q) : Ev xs L M pc lv (.int i :: .ref a :: st) G σ G' Q := by
  intro l B p e R s mid args below meth c H locs cells slots ls QQ hC hR hW hS hL kr
  obtain ⟨r1, r2⟩ := hW.2.2 a (by rw [hk]; omega)
  have kk := kk l B p e R s mid args below meth c H locs cells slots ls QQ hC hR hW hS hL kr
  rw [List.map_cons, ← xro_v] at kk
  rw [List.map_cons, List.map_cons, xv_ref B r1]
  exact va_aldq hC.1 hC.2.1 hC.2.2.2.2.2.2.2.1 hW.2.1 (a - 1) 2 (by rw [xw_get r1 r2, xce_q hk]) rfl hi hd kk
theorem xe_iast {a : Nat} {i x : Int32} (hd : decode M.2.1 pc = .ok (.iastore, 1)) (hk : xk G a = 11) (hi : vp_in i (xn G a)) (kk : Ev xs L M (pc + 1) lv st G (xpi σ a i.toNatClampNeg x) G' Q) : Ev xs L M pc lv (.int x :: .int i :: .ref a :: st) G σ G' Q := by
  intro l B p e R s mid args below meth c H locs cells slots ls QQ hC hR hW hS hL kr
  obtain ⟨r1, r2⟩ := hW.2.2 a (by rw [hk]; omega)
  rw [List.map_cons, List.map_cons, List.map_cons, xv_ref B r1]
  refine va_iast hC.1 hC.2.1 hC.2.2.2.2.2.2.2.1 hW.2.1 (xw_D B G σ) (xS_self hS) (a - 1) 0 (by rw [xw_get r1 r2, xce_i hk]) rfl hi hd (fun H1 locs1 hP1 hD1 hS1 => ?_)
  rw [show (xw B G σ).set (a - 1) (B.1 + (a - 1), .inl (xcI B, xn G a, .inl (upd (σ.1 a) i.toNatClampNeg x))) = xw B G (xpi σ a i.toNatClampNeg x) by
    rw [← xw_set (G' := G) (σ' := xpi σ a i.toNatClampNeg x) r1 r2 rfl xce_pi, xce_i hk, xpi_at]] at hP1
  refine xW_le (fun hle => ?_)
  have hsz := hW.1
  have hlo := hS1.1
  have h7 := hR.2.2.2.2.2.2
  exact kk l B p e R s mid args below meth c H1 locs1 cells slots ls QQ hC hR ⟨by omega, hP1, hW.2.2⟩ (xS_trans hS hS1) hL kr
theorem xe_bast {a : Nat} {i x : Int32} (hd : decode M.2.1 pc = .ok (.bastore, 1)) (hk : xk G a = 12) (hi : vp_in i (xn G a)) (kk : Ev xs L M (pc + 1) lv st G (xpi σ a i.toNatClampNeg (x &&& 1)) G' Q) : Ev xs L M pc lv (.int x :: .int i :: .ref a :: st) G σ G' Q := by
  intro l B p e R s mid args below meth c H locs cells slots ls QQ hC hR hW hS hL kr
  obtain ⟨r1, r2⟩ := hW.2.2 a (by rw [hk]; omega)
  rw [List.map_cons, List.map_cons, List.map_cons, xv_ref B r1]
  refine va_zast hC.1 hC.2.1 hC.2.2.2.2.2.2.2.1 hW.2.1 (xw_D B G σ) (xS_self hS) (a - 1) 1 (by rw [xw_get r1 r2, xce_z hk]) rfl hi hd (fun H1 locs1 hP1 hD1 hS1 => ?_)
  rw [show (xw B G σ).set (a - 1) (B.1 + (a - 1), .inl (xcZ B, xn G a, .inl (upd (σ.1 a) i.toNatClampNeg (vp_nar .boolean x)))) = xw B G (xpi σ a i.toNatClampNeg (x &&& 1)) by
    rw [← xw_set (G' := G) (σ' := xpi σ a i.toNatClampNeg (x &&& 1)) r1 r2 rfl xce_pi, xce_z hk, xpi_at]
    rfl] at hP1
  refine xW_le (fun hle => ?_)
  have hsz := hW.1
  have hlo := hS1.1
  have h7 := hR.2.2.2.2.2.2
  exact kk l B p e R s mid args below meth c H1 locs1 cells slots ls QQ hC hR ⟨by omega, hP1, hW.2.2⟩ (xS_trans hS hS1) hL kr
theorem xe_aast {a j : Nat} {i : Int32} (hd : decode M.2.1 pc = .ok (.aastore, 1)) (hk : xk G a = 13) (hj : xk G j = 1) (hi : vp_in i (xn G a)) (kk : Ev xs L M (pc + 1) lv st (xgr G a i.toNatClampNeg j) σ G' Q) : Ev xs L M pc lv (.ref j :: .int i :: .ref a :: st) G σ G' Q := by
  intro l B p e R s mid args below meth c H locs cells slots ls QQ hC hR hW hS hL kr
  obtain ⟨r1, r2⟩ := hW.2.2 a (by rw [hk]; omega)
  obtain ⟨j1, j2⟩ := hW.2.2 j (by rw [hj]; omega)
  rw [List.map_cons, List.map_cons, List.map_cons, xv_ref B r1, xv_ref B j1]
  refine va_astq hC.1 hC.2.1 hC.2.2.2.2.2.2.2.1 hW.2.1 (xw_D B G σ) (xS_self hS) (a - 1) 2 (j - 1) 0 (r := (RX0, TX0, 7)) (by rw [xw_get r1 r2, xce_q hk]) rfl (by rw [xw_get j1 j2, xce_o hj (by omega)]) rfl hi hd (fun H1 locs1 hP1 hD1 hS1 => ?_)
  rw [show (xw B G σ).set (a - 1) (B.1 + (a - 1), .inl (xcB B, xn G a, .inr (.inr (.inr (.inr (va_up (fun k => xro B (xr G a k)) i.toNatClampNeg (some (B.1 + (j - 1))))))))) = xw B (xgr G a i.toNatClampNeg j) σ by
    have ef : va_up (fun k => xro B (xr G a k)) i.toNatClampNeg (some (B.1 + (j - 1))) = fun k => xro B (xr (xgr G a i.toNatClampNeg j) a k) := by
      funext k
      by_cases hk2 : k = i.toNatClampNeg
      · subst hk2
        rw [xgr_at, show xro B j = some (B.1 + (j - 1)) from if_neg (Nat.ne_of_gt j1)]
        exact if_pos rfl
      · rw [xgr_ne G (fun z => hk2 z.2)]
        simp only [va_up, if_neg hk2]
    rw [← xw_set (G' := xgr G a i.toNatClampNeg j) (σ' := σ) r1 r2 rfl (fun b hb => xce_cong rfl rfl rfl rfl (fun k => xgr_ne G (fun z => hb z.1))), xce_q (G := xgr G a i.toNatClampNeg j) hk, ef]
    rfl] at hP1
  refine xW_le (fun hle => ?_)
  have hsz := hW.1
  have hlo := hS1.1
  have h7 := hR.2.2.2.2.2.2
  exact kk l B p e R s mid args below meth c H1 locs1 cells slots ls QQ hC hR ⟨by show H1.size = B.1 + xN G; omega, hP1, hW.2.2⟩ (xS_trans hS hS1) hL kr
/-- the script -/
theorem xe_sald {i : Int32} (hd : decode M.2.1 pc = .ok (.iaload, 1)) (hi : vp_in i L) (kk : Ev xs L M (pc + 1) lv (.int (xs i.toNatClampNeg) :: st) G σ G' Q) : Ev xs L M pc lv (.int i :: .float 0 :: st) G σ G' Q := by
  intro l B p e R s mid args below meth c H locs cells slots ls QQ hC hR hW hS hL kr
  have hI := hC.2.2.2.2.2.2
  exact va_sld hC.1 hC.2.1 hI.2.2.2.2.2.2.2.1 (Nat.lt_of_lt_of_le hI.2.2.2.2.2.2.2.2.1 hI.1) (fun z => absurd hI.2.2.2.2.2.2.2.2.1 (Nat.not_lt.mpr z)) hS hi hd (kk l B p e R s mid args below meth c H locs cells slots ls QQ hC hR hW hS hL kr)
theorem xe_slen (hd : decode M.2.1 pc = .ok (.arraylength, 1)) (kk : Ev xs L M (pc + 1) lv (.int (Int32.ofNat L) :: st) G σ G' Q) : Ev xs L M pc lv (.float 0 :: st) G σ G' Q := by
  intro l B p e R s mid args below meth c H locs cells slots ls QQ hC hR hW hS hL kr
  have hI := hC.2.2.2.2.2.2
  exact va_slen hC.1 hC.2.1 hI.2.2.2.2.2.2.2.1 (Nat.lt_of_lt_of_le hI.2.2.2.2.2.2.2.2.1 hI.1) (fun z => absurd hI.2.2.2.2.2.2.2.2.1 (Nat.not_lt.mpr z)) hS hd (kk l B p e R s mid args below meth c H locs cells slots ls QQ hC hR hW hS hL kr)
/-- the two tables -/
theorem xe_gets1 {idx : Nat} (hd : decode M.2.1 pc = .ok (.getstatic idx, 3)) (hl : Cond.fieldLink M.1.cls idx "NailThreads$Ring" "LENGTHS" "[I" ∈ GT) (kk : Ev xs L M (pc + 3) lv (.float 1 :: st) G σ G' Q) : Ev xs L M pc lv st G σ G' Q := by
  intro l B p e R s mid args below meth c H locs cells slots ls QQ hC hR hW hS hL kr
  have hI := hC.2.2.2.2.2.2
  exact va_gets hC.1 hC.2.1 hI.2.2.2.1 hS hC.2.2.2.1 (hC.2.2.2.2.1 _ hl) (fun x h => h) hd (kk l B p e R s mid args below meth c H locs cells slots ls QQ hC hR hW hS hL kr)
theorem xe_gets2 {idx : Nat} (hd : decode M.2.1 pc = .ok (.getstatic idx, 3)) (hl : Cond.fieldLink M.1.cls idx "NailThreads$Doings" "POWERS" "[J" ∈ GT) (kk : Ev xs L M (pc + 3) lv (.float 2 :: st) G σ G' Q) : Ev xs L M pc lv st G σ G' Q := by
  intro l B p e R s mid args below meth c H locs cells slots ls QQ hC hR hW hS hL kr
  have hI := hC.2.2.2.2.2.2
  exact va_gets hC.1 hC.2.1 hI.2.2.2.2.2.1 hS hC.2.2.2.1 (hC.2.2.2.2.1 _ hl) (fun x h => h) hd (kk l B p e R s mid args below meth c H locs cells slots ls QQ hC hR hW hS hL kr)
theorem xe_tald {i : Int32} (hd : decode M.2.1 pc = .ok (.iaload, 1)) (hi : vp_in i 12) (kk : Ev xs L M (pc + 1) lv (.int (xlen i.toNatClampNeg) :: st) G σ G' Q) : Ev xs L M pc lv (.int i :: .float 1 :: st) G σ G' Q := by
  intro l B p e R s mid args below meth c H locs cells slots ls QQ hC hR hW hS hL kr
  have hI := hC.2.2.2.2.2.2
  exact va_ti hC.1 hC.2.1 hI.2.2.2.2.1 hS hi rfl hd (kk l B p e R s mid args below meth c H locs cells slots ls QQ hC hR hW hS hL kr)
theorem xe_tlen (hd : decode M.2.1 pc = .ok (.arraylength, 1)) (kk : Ev xs L M (pc + 1) lv (.int 12 :: st) G σ G' Q) : Ev xs L M pc lv (.float 1 :: st) G σ G' Q := by
  intro l B p e R s mid args below meth c H locs cells slots ls QQ hC hR hW hS hL kr
  have hI := hC.2.2.2.2.2.2
  exact va_tlen hC.1 hC.2.1 hI.2.2.2.2.1 hS rfl hd (kk l B p e R s mid args below meth c H locs cells slots ls QQ hC hR hW hS hL kr)
theorem xe_pald {i : Int32} (hd : decode M.2.1 pc = .ok (.laload, 1)) (hi : vp_in i 5) (kk : Ev xs L M (pc + 1) lv (.long (xpow i.toNatClampNeg) :: st) G σ G' Q) : Ev xs L M pc lv (.int i :: .float 2 :: st) G σ G' Q := by
  intro l B p e R s mid args below meth c H locs cells slots ls QQ hC hR hW hS hL kr
  have hI := hC.2.2.2.2.2.2
  exact va_tl hC.1 hC.2.1 hI.2.2.2.2.2.2.1 hS hi rfl hd (kk l B p e R s mid args below meth c H locs cells slots ls QQ hC hR hW hS hL kr)
/-- one cell more: of kind q, n long, of z slots -/
def xgk (G : xG) (q n z : Nat) : xG := (fun i => if i = xN G + 1 then q else xk G i, fun i => if i = xN G + 1 then n else xn G i, fun i => if i = xN G + 1 then fun _ => 0 else xr G i, xN G + 1, xZ G + z)
def xs0 (σ : xS) (i : Nat) : xS := (fun a => if a = i then fun _ => 0 else σ.1 a, fun a => if a = i then fun _ => 0 else σ.2 a)
theorem xgk_old {B : xB} {G : xG} {σ : xS} {q n z : Nat} : ∀ j, j ≤ xN G → xce B (xgk G q n z) (xs0 σ (xN G + 1)) j = xce B G σ j := by
  intro j hj
  have hne : ¬ j = xN G + 1 := by omega
  refine xce_cong ?_ ?_ ?_ ?_ (fun k => ?_)
  · show (if j = xN G + 1 then q else _) = _
    rw [if_neg hne]
  · show (if j = xN G + 1 then n else _) = _
    rw [if_neg hne]
  · show (if j = xN G + 1 then _ else _) = _
    rw [if_neg hne]
  · show (if j = xN G + 1 then _ else _) = _
    rw [if_neg hne]
  · show (if j = xN G + 1 then (fun _ => 0) else xr G j) k = _
    rw [if_neg hne]
theorem xgk_wd {B : xB} {G : xG} {σ : xS} {q n z : Nat} {H H1 : Heap} (hW : xWd B G σ H) (hs : H1.size = H.size + 1) (ho : ∀ x, x < H.size → H1[x]? = H[x]?) (hc : va_at (xD B) vwCl (H.size, xce B (xgk G q n z) (xs0 σ (xN G + 1)) (xN G + 1)) H1) : xWd B (xgk G q n z) (xs0 σ (xN G + 1)) H1 := by
  refine ⟨by show H1.size = B.1 + (xN G + 1); rw [hs, hW.1]; omega, ?_, fun i hi => ?_⟩
  · rw [← xw_push (G := G) (σ := σ) rfl xgk_old]
    refine va_P.app (hW.2.1.kept (fun k x hx => ho x.1 ((hW.2.1 k x hx).lt))) (fun k x hx => ?_)
    have hz : k < 1 := (List.getElem?_eq_some_iff.mp hx).1
    rw [show k = 0 by omega] at hx
    cases hx
    have e : B.1 + xN G = H.size := hW.1.symm
    rw [e]
    exact hc
  · show 1 ≤ i ∧ i ≤ xN G + 1
    by_cases hj : i = xN G + 1
    · omega
    · have h2 : xk G i ≠ 0 := by
        intro z
        apply hi
        show (if i = xN G + 1 then q else xk G i) = 0
        rw [if_neg hj]
        exact z
      have := hW.2.2 i h2
      omega
theorem xgk_k (G : xG) (q n z : Nat) : xk (xgk G q n z) (xN G + 1) = q := by
  show (if xN G + 1 = xN G + 1 then q else _) = q
  rw [if_pos rfl]
theorem xgk_n (G : xG) (q n z : Nat) : xn (xgk G q n z) (xN G + 1) = n := by
  show (if xN G + 1 = xN G + 1 then n else _) = n
  rw [if_pos rfl]
theorem xgk_r (G : xG) (q n z k : Nat) : xr (xgk G q n z) (xN G + 1) k = 0 := by
  show (if xN G + 1 = xN G + 1 then (fun _ => 0) else _) k = 0
  rw [if_pos rfl]
theorem xs0_i (σ : xS) (i : Nat) : (xs0 σ i).1 i = fun _ => 0 := by
  show (if i = i then _ else _) = _
  rw [if_pos rfl]
theorem xs0_l (σ : xS) (i : Nat) : (xs0 σ i).2 i = fun _ => 0 := by
  show (if i = i then _ else _) = _
  rw [if_pos rfl]
/-- how the room goes on behind one cell more -/
theorem xRm.more {M : xM} {B : xB} {s : State} {R : Room} {cells slots : Nat} {G G2 : xG} {q n z : Nat} (hR : xRm M B s R cells slots G G2) (h1 : xN G + 1 ≤ xN G2) (h2 : xZ G + z ≤ xZ G2) : cells + 1 ≤ R.cells ∧ slots + z ≤ R.slots ∧ xRm M B s R (cells + 1) (slots + z) (xgk G q n z) G2 ∧ cells + 1 + (xN G2 - xN (xgk G q n z)) = cells + (xN G2 - xN G) ∧ slots + z + (xZ G2 - xZ (xgk G q n z)) = slots + (xZ G2 - xZ G) := by
  obtain ⟨a1, a2, a3, a4, a5, a6, a7⟩ := hR
  have e1 : xN (xgk G q n z) = xN G + 1 := rfl
  have e2 : xZ (xgk G q n z) = xZ G + z := rfl
  refine ⟨by omega, by omega, ⟨a1, a2, by rw [e1]; omega, by rw [e2]; omega, by rw [e1]; omega, by rw [e2]; omega, by rw [e1]; omega⟩, by rw [e1]; omega, by rw [e2]; omega⟩
theorem xe_new {idx q : Nat} {C : String} {T : u_T} (hd : decode M.2.1 pc = .ok (.new idx, 3)) (hcf : xCf q C T) (hcl : Cond.classLink M.1.cls idx C ∈ GT) (h1 : xN G + 1 ≤ xN G') (h2 : xZ G + xnf q ≤ xZ G') (kk : Ev xs L M (pc + 3) lv (.ref (xN G + 1) :: st) (xgk G q 0 (xnf q)) (xs0 σ (xN G + 1)) G' Q) : Ev xs L M pc lv st G σ G' Q := by
  intro l B p e R s mid args below meth c H locs cells slots ls QQ hC hR hW hS hL kr
  obtain ⟨hcl2, hq1, hq10, hin, hty, hnm, hins, hini⟩ := hcf
  obtain ⟨b1, b2, b3, b4, b5⟩ := hR.more (q := q) (n := 0) (z := xnf q) h1 h2
  have hKn := hC.2.2.2.2.2.2.2.1.1 (q - 1) _ hcl2
  refine W.newcK hC.1 hC.2.1 hC.2.2.2.1 (hC.2.2.2.2.1 _ hcl) (hC.2.2.2.2.1 _ hins) (hC.2.2.2.2.1 _ hini) rfl hd b1 b2 hKn.2.1 rfl fun H1 kC hkC e1 z1 o1 => ?_
  have hWd : xWd B (xgk G q 0 (xnf q)) (xs0 σ (xN G + 1)) H1 := by
    refine xgk_wd hW z1 o1 ?_
    rw [xce_o (xgk_k G q 0 (xnf q)) hq10]
    refine ⟨_, hcl2, (u_born (xty q) hC.2.2.2.2.1 hin hKn hkC e1 hty).to (fun j hj => ?_)⟩
    show _ = (xfs B _ _ _ q).getD j .null
    rw [List.getD_eq_getElem?_getD, xfs_get hj, Option.getD_some]
    rcases xty_ok q j with h | h | h | ⟨t, h⟩ | ⟨t, h⟩ <;> rw [h]
    · show Value.int 0 = .int ((xs0 σ (xN G + 1)).1 (xN G + 1) j)
      rw [xs0_i]
    · show Value.int 0 = .int ((xs0 σ (xN G + 1)).1 (xN G + 1) j)
      rw [xs0_i]
    · show Value.long 0 = .long ((xs0 σ (xN G + 1)).2 (xN G + 1) j)
      rw [xs0_l]
    · show Value.null = xv B (.ref (xr (xgk G q 0 (xnf q)) (xN G + 1) j))
      rw [xgk_r]
      simp only [xv, if_true]
    · show Value.null = xv B (.ref (xr (xgk G q 0 (xnf q)) (xN G + 1) j))
      rw [xgk_r]
      simp only [xv, if_true]
  have hS1 : va_S (xA B) s.heap H1 locs := ⟨by rw [z1]; exact Nat.le_succ_of_le hS.1, fun x a b => (o1 x (Nat.lt_of_lt_of_le a hS.1)).trans (hS.2.1 x a b), hS.2.2⟩
  have kk := kk l B p e R s mid args below meth c H1 locs (cells + 1) (slots + xnf q) ls QQ hC b3 hWd hS1 hL (by rw [b4, b5]; exact kr)
  rw [List.map_cons, xv_ref B (by omega), show B.1 + (xN G + 1 - 1) = H.size by rw [hW.1]; omega] at kk
  exact kk
theorem xe_newI {n : Int32} {N : Nat} (hd : decode M.2.1 pc = .ok (.newarray .int, 2)) (hw : Cond.arrayClass .int ∈ GT) (hn : ¬ n < 0) (hN : n.toNatClampNeg = N) (hb : N ≤ 1000000) (h1 : xN G + 1 ≤ xN G') (h2 : xZ G + N ≤ xZ G') (kk : Ev xs L M (pc + 2) lv (.ref (xN G + 1) :: st) (xgk G 11 N N) (xs0 σ (xN G + 1)) G' Q) : Ev xs L M pc lv (.int n :: st) G σ G' Q := by
  intro l B p e R s mid args below meth c H locs cells slots ls QQ hC hR hW hS hL kr
  obtain ⟨b1, b2, b3, b4, b5⟩ := hR.more (q := 11) (n := N) (z := N) h1 h2
  refine va_newaK (atype := .int) hC.1 hC.2.1 (hC.2.2.2.2.1 _ hw) rfl hd rfl hn hN (by show N * 4 ≤ _; omega) b1 b2 rfl fun H1 cA e1 z1 o1 hAr hNm => ?_
  have hcA : cA = xcI B := Option.some.inj (hNm.symm.trans (hC.2.2.2.2.2.2.2.1.2 0 _ rfl).2)
  subst hcA
  have hWd : xWd B (xgk G 11 N N) (xs0 σ (xN G + 1)) H1 := by
    refine xgk_wd hW z1 o1 ?_
    rw [xce_i (xgk_k G 11 N N), xgk_n, xs0_i]
    exact e1
  have hS1 : va_S (xA B) s.heap H1 locs := ⟨by rw [z1]; exact Nat.le_succ_of_le hS.1, fun x a b => (o1 x (Nat.lt_of_lt_of_le a hS.1)).trans (hS.2.1 x a b), hS.2.2⟩
  have kk := kk l B p e R s mid args below meth c H1 locs (cells + 1) (slots + N) ls QQ hC b3 hWd hS1 hL (by rw [b4, b5]; exact kr)
  rw [List.map_cons, xv_ref B (by omega), show B.1 + (xN G + 1 - 1) = H.size by rw [hW.1]; omega] at kk
  exact kk
theorem xe_newZ {n : Int32} {N : Nat} (hd : decode M.2.1 pc = .ok (.newarray .boolean, 2)) (hw : Cond.arrayClass .boolean ∈ GT) (hn : ¬ n < 0) (hN : n.toNatClampNeg = N) (hb : N ≤ 1000000) (h1 : xN G + 1 ≤ xN G') (h2 : xZ G + N ≤ xZ G') (kk : Ev xs L M (pc + 2) lv (.ref (xN G + 1) :: st) (xgk G 12 N N) (xs0 σ (xN G + 1)) G' Q) : Ev xs L M pc lv (.int n :: st) G σ G' Q := by
  intro l B p e R s mid args below meth c H locs cells slots ls QQ hC hR hW hS hL kr
  obtain ⟨b1, b2, b3, b4, b5⟩ := hR.more (q := 12) (n := N) (z := N) h1 h2
  refine va_newaK (atype := .boolean) hC.1 hC.2.1 (hC.2.2.2.2.1 _ hw) rfl hd rfl hn hN (by show N * 1 ≤ _; omega) b1 b2 rfl fun H1 cA e1 z1 o1 hAr hNm => ?_
  have hcA : cA = xcZ B := Option.some.inj (hNm.symm.trans (hC.2.2.2.2.2.2.2.1.2 1 _ rfl).2)
  subst hcA
  have hWd : xWd B (xgk G 12 N N) (xs0 σ (xN G + 1)) H1 := by
    refine xgk_wd hW z1 o1 ?_
    rw [xce_z (xgk_k G 12 N N), xgk_n, xs0_i]
    exact e1
  have hS1 : va_S (xA B) s.heap H1 locs := ⟨by rw [z1]; exact Nat.le_succ_of_le hS.1, fun x a b => (o1 x (Nat.lt_of_lt_of_le a hS.1)).trans (hS.2.1 x a b), hS.2.2⟩
  have kk := kk l B p e R s mid args below meth c H1 locs (cells + 1) (slots + N) ls QQ hC b3 hWd hS1 hL (by rw [b4, b5]; exact kr)
  rw [List.map_cons, xv_ref B (by omega), show B.1 + (xN G + 1 - 1) = H.size by rw [hW.1]; omega] at kk
  exact kk
theorem xe_newQ {n : Int32} {N idx : Nat} (hd : decode M.2.1 pc = .ok (.anewarray idx, 3)) (hcl : Cond.classLink M.1.cls idx "NailThreads$Board" ∈ GT) (hn : ¬ n < 0) (hN : n.toNatClampNeg = N) (hb : N ≤ 1000000) (h1 : xN G + 1 ≤ xN G') (h2 : xZ G + N ≤ xZ G') (kk : Ev xs L M (pc + 3) lv (.ref (xN G + 1) :: st) (xgk G 13 N N) (xs0 σ (xN G + 1)) G' Q) : Ev xs L M pc lv (.int n :: st) G σ G' Q := by
  intro l B p e R s mid args below meth c H locs cells slots ls QQ hC hR hW hS hL kr
  obtain ⟨b1, b2, b3, b4, b5⟩ := hR.more (q := 13) (n := N) (z := N) h1 h2
  subst hN
  refine W.anew hC.1 hC.2.1 hC.2.2.2.1 (hC.2.2.2.2.1 _ hcl) (va_AO.use hC.2.2.2.2.2.2.2.2.1) rfl hd rfl hn (by omega) b1 b2 fun cA kA comp f1 f2 f3 f4 => ?_
  generalize hH1 : H.push ({ cls := cA, slots := Array.replicate n.toNatClampNeg .null, vm := .none } : Cell) = H1
  have z1 : H1.size = H.size + 1 := by rw [← hH1, Array.size_push]
  have e1 : H1[H.size]? = some (arrV cA n.toNatClampNeg (fun _ => .null)) := by rw [← hH1, Array.getElem?_push_size, ← arrV_new]
  have o1 : ∀ x, x < H.size → H1[x]? = H[x]? := fun x hx => by rw [← hH1, Array.getElem?_push, if_neg (Nat.ne_of_lt hx)]
  obtain ⟨_, _, _, _, _, hNm⟩ := (hC.2.2.2.2.2.2.2.1.2 2 _ rfl).2
  have hcA : cA = xcB B := by
    first
      | exact Option.some.inj (f1.symm.trans hNm)
      | exact Option.some.inj (f2.symm.trans hNm)
      | exact Option.some.inj (f3.symm.trans hNm)
      | exact Option.some.inj (f4.symm.trans hNm)
  subst hcA
  have hWd : xWd B (xgk G 13 n.toNatClampNeg n.toNatClampNeg) (xs0 σ (xN G + 1)) H1 := by
    refine xgk_wd hW z1 o1 ?_
    rw [xce_q (xgk_k G 13 n.toNatClampNeg n.toNatClampNeg), xgk_n]
    have ef : (fun k => xro B (xr (xgk G 13 n.toNatClampNeg n.toNatClampNeg) (xN G + 1) k)) = fun _ => none := funext fun k => by
      rw [xgk_r]
      rfl
    rw [ef]
    exact e1
  have hS1 : va_S (xA B) s.heap H1 locs := ⟨by rw [z1]; exact Nat.le_succ_of_le hS.1, fun x a b => (o1 x (Nat.lt_of_lt_of_le a hS.1)).trans (hS.2.1 x a b), hS.2.2⟩
  have kk := kk l B p e R s mid args below meth c H1 locs (cells + 1) (slots + n.toNatClampNeg) ls QQ hC b3 hWd hS1 hL (by rw [b4, b5]; exact kr)
  rw [List.map_cons, xv_ref B (by omega), show B.1 + (xN G + 1 - 1) = H.size by rw [hW.1]; omega] at kk
  exact kk
end XA
