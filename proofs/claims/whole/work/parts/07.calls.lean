/-! rows of calls -/
def xCd (M : xM) : Prop := Cond.code M.1 M.2.1 M.2.2.1 M.2.2.2.1 ∈ GT ∧ Cond.initialized M.1.cls ∈ GT ∧ plainFor M.1 = true ∧ M.1.cls ≠ "java/lang/invoke/MethodHandle" ∧ M.1.cls ≠ "java/lang/invoke/VarHandle"
def xCn (M : xM) (n : Nat) : Prop := (parseMethodDescriptor M.1.desc).map (fun d => d.parameters.length) = some n
def xCv (own : String) (idx : Nat) (M2 : xM) (n q : Nat) : Prop := xCd M2 ∧ xCn M2 n ∧ Cond.methodLink own idx M2.1 ∈ GT ∧ Cond.instanceMethod M2.1 ∈ GT ∧ Cond.selects M2.1.cls M2.1 M2.1 ∈ GT ∧ ∃ T, xCf q M2.1.cls T
def xCs (own : String) (idx : Nat) (M2 : xM) (n : Nat) : Prop := xCd M2 ∧ xCn M2 n ∧ (Cond.methodLink own idx M2.1 ∈ GT ∨ ((own, idx) ∈ xNst ∧ M2.1 = yX10_isOutside)) ∧ Cond.static M2.1 ∈ GT
def xCi (own : String) (idx : Nat) (M2 : xM) (n : Nat) : Prop := xCd M2 ∧ xCn M2 n ∧ Cond.methodLink own idx M2.1 ∈ GT ∧ Cond.instanceMethod M2.1 ∈ GT ∧ M2.1.name = "<init>" ∧ M2.2.2.2.1 = none
abbrev xWs (M : xM) : List Cond := Cond.code M.1 M.2.1 M.2.2.1 M.2.2.2.1 :: GT
abbrev xRo (M : xM) (G G1 : xG) : Room := { frames := M.2.2.2.2.1, cells := xN G1 - xN G, slots := xZ G1 - xZ G, locals := M.2.2.2.2.2 }
abbrev xPc (xs : Nat → Int32) (L : Nat) (B : xB) (As : List Value) (G : xG) (σ : xS) : Array Value → State → Prop := va_Pc (As.map (xv B)) (fun U => xI xs L B U ∧ xWd B G σ U.heap)
def xQc (B : xB) (G1 : xG) (Q : Option Value → xS → Prop) : Array Value → State → Outcome → State → Prop := fun _ st oc t => (∃ (v : Option Value) (σ1 : xS), oc = .returned v ∧ Q v σ1 ∧ v.toList.map (xv B) = v.toList ∧ xWd B G1 σ1 t.heap) ∧ va_F (xA B) st t
theorem xpos_len (B : xB) : ∀ As : List Value, (lg_sl (As.map (xv B))).length = (xpos As).length
  | [] => rfl
  | v :: r => by
    have ih := xpos_len B r
    have hc := xv_cat B v
    have e : lg_sl ((v :: r).map (xv B)) = lg_sl [xv B v] ++ lg_sl (r.map (xv B)) := by simp [lg_sl]
    rw [e, List.length_append, ih]
    cases v with
    | ref a =>
      by_cases h : a = 0
      · have e1 : xv B (.ref a) = .null := by simp only [xv, if_pos h]
        rw [e1]
        simp [lg_sl, xpos, Value.category]
        omega
      · have e1 : xv B (.ref a) = .ref (B.1 + (a - 1)) := by simp only [xv, if_neg h]
        rw [e1]
        simp [lg_sl, xpos, Value.category]
        omega
    | _ => simp [lg_sl, xpos, Value.category, xv]; omega
theorem xpos_at (B : xB) : ∀ (As : List Value) (off i : Nat) (w : Value), (xpos As)[i]? = some w → w ≠ .null → (off + i, xv B w) ∈ lv_args off (As.map (xv B))
  | [], off, i, w, h, _ => by simp [xpos] at h
  | v :: r, off, i, w, h, hw => by
    have ih := xpos_at B r
    have hc := xv_cat B v
    have one : v.category = 1 → xpos (v :: r) = v :: xpos r → (off + i, xv B w) ∈ lv_args off ((v :: r).map (xv B)) := by
      intro h1 h2
      rw [h2] at h
      rw [List.map_cons]
      show _ ∈ (off, xv B v) :: lv_args (if (xv B v).category = 2 then off + 2 else off + 1) (r.map (xv B))
      rw [hc, h1, if_neg (by omega)]
      cases i with
      | zero =>
        cases h
        exact List.mem_cons_self ..
      | succ k =>
        have := ih (off + 1) k w h hw
        rw [show off + (k + 1) = off + 1 + k by omega]
        exact List.mem_cons_of_mem _ this
    have two : v.category = 2 → xpos (v :: r) = v :: .null :: xpos r → (off + i, xv B w) ∈ lv_args off ((v :: r).map (xv B)) := by
      intro h1 h2
      rw [h2] at h
      rw [List.map_cons]
      show _ ∈ (off, xv B v) :: lv_args (if (xv B v).category = 2 then off + 2 else off + 1) (r.map (xv B))
      rw [hc, h1, if_pos rfl]
      match i, h with
      | 0, h =>
        cases h
        exact List.mem_cons_self ..
      | 1, h =>
        cases h
        exact absurd rfl hw
      | k + 2, h =>
        have := ih (off + 2) k w h hw
        rw [show off + (k + 2) = off + 2 + k by omega]
        exact List.mem_cons_of_mem _ this
    cases v with
    | long x => exact two rfl rfl
    | double x => exact two rfl rfl
    | _ => exact one rfl rfl
theorem xent_at (B : xB) {n : Nat} {As : List Value} {i : Nat} {w : Value} (h : (xent n As)[i]? = some w) (hw : w ≠ .null) : (i, xv B w) ∈ lv_args 0 (As.map (xv B)) := by
  unfold xent at h
  by_cases hi : i < (xpos As).length
  · rw [List.getElem?_append_left hi] at h
    have := xpos_at B As 0 i w h hw
    rwa [Nat.zero_add] at this
  · rw [List.getElem?_append_right (by omega)] at h
    exact absurd (List.eq_of_mem_replicate (List.mem_of_getElem? h)) hw
theorem xe_met {xs : Nat → Int32} {L : Nat} {M : xM} {As : List Value} {G G1 : xG} {σ : xS} {Q : Option Value → xS → Prop} (l : Launch) (B : xB) (hE : Cl xs L M As G σ G1 Q) (hc : xCd M) (hA : (xpos As).length ≤ M.2.2.1) (hN : xN G ≤ xN G1) (hZ : xZ G ≤ xZ G1) : Met l M.1 (xWs M) (xRo M G G1) (xPc xs L B As G σ) (xQc B G1 Q) (xN G1 - xN G) (xZ G1 - xZ G) (xA B) := by
  refine va_MetF (cc := M.2.1) (maxL := M.2.2.1) (ret := M.2.2.2.1) hc.2.2.1 rfl ?_
  intro p e s m args below meth c s₁ Bd hml hv
  obtain ⟨rfl, hI, hWd⟩ := hv
  have hts := atoms_spec (ws := xWs M) Bd.pre
  have hown : s.vm.findClass M.1.cls = some m.cls := findClass_of_methodNamed Bd.named
  have hlocks := Bd.notSynchronized
  have hret := Bd.returns
  have hin : meth.name = M.1.name := (name_of_methodNamed Bd.named Bd.method).1
  have hl := lv_entry (As.map (xv B)) (n := M.2.2.1) (by rw [xpos_len]; exact hA)
  rw [lg_entry_eq]
  generalize (lg_sl (As.map (xv B)) ++ List.replicate (M.2.2.1 - (lg_sl (As.map (xv B))).length) Slot.unset).toArray = ls at hl ⊢
  refine hE l B p e _ s m _ below meth c s.heap [] 0 0 ls _ ⟨Bd.exec, Bd.bytes, hml, hown, fun w hw => hts w (List.mem_cons_of_mem _ hw), fun h => hin.trans h, hI⟩ ⟨Nat.le_refl _, Nat.le_refl _, by show 0 + _ ≤ _; rw [Nat.zero_add]; exact Nat.le_refl _, by show 0 + _ ≤ _; rw [Nat.zero_add]; exact Nat.le_refl _, hN, hZ, by rw [Nat.add_zero]; exact hWd.1.symm⟩ hWd va_S.rf ⟨hl.1, hl.2.1, fun i w h hw => hl.2.2 (i, xv B w) (xent_at B h hw)⟩ ?_
  intro v σ' H' locs' ls' pc' hq hWd' hS' hr
  rw [Nat.zero_add, Nat.zero_add]
  cases v with
  | none =>
    exact W.vret (Qc := xQc B G1 Q) (free := xA B) Bd.exec Bd.bytes (hret.trans hr.1) (fun t ht _ => ⟨⟨none, σ', rfl, hq, rfl, by rw [ht]; exact hWd'⟩, hS'.F ht⟩) hS'.2.2 hr.2 hlocks
  | some v =>
    cases v with
    | int x =>
      obtain ⟨hd, ty, hty, hn⟩ := hr
      exact W.zret (Qc := xQc B G1 Q) (free := xA B) Bd.exec Bd.bytes (hret.trans hty) hn (fun t ht _ => ⟨⟨some (.int x), σ', rfl, hq, rfl, by rw [ht]; exact hWd'⟩, hS'.F ht⟩) hS'.2.2 hd hlocks
    | long x =>
      exact W.lret (Qc := xQc B G1 Q) (free := xA B) Bd.exec Bd.bytes (hret.trans hr.1) (fun t ht _ => ⟨⟨some (.long x), σ', rfl, hq, rfl, by rw [ht]; exact hWd'⟩, hS'.F ht⟩) hS'.2.2 hr.2 hlocks
    | _ => exact hr.elim
theorem xblind {xs : Nat → Int32} {L : Nat} {B : xB} {As : List Value} {G : xG} {σ : xS} : FrameBlind (xPc xs L B As G σ) := fun a U g mk q => by
  obtain ⟨q0, qI, qW⟩ := q
  exact ⟨q0, qI.go (U := U.calling g mk a) (locs := []) va_S.rf (Vm.Alike.refl U.vm) (fun _ _ _ _ h => va_Nw.same rfl (rfl : U.vm = (U.calling g mk a).vm) h), qW⟩
theorem xgood {M : xM} (hc : xCd M) : GoodIn GT (xWs M) := fun w hw => by
  rcases List.mem_cons.mp hw with rfl | h
  · exact ⟨hc.1, (gt_good _ hc.1).2⟩
  · exact ⟨h, (gt_good _ h).2⟩
section XK
variable {xs : Nat → Int32} {L : Nat} {M M2 : xM} {pc : Nat} {lv st : List Value} {G G' G1 : xG} {σ : xS} {Q Q1 : Option Value → xS → Prop}
/-- behind a call -/
theorem xe_after {p : Program} {l : Launch} {e : Env} {R : Room} {s : State} {mid : MethodId} {args : Array Value} {below : List Frame} {meth : Method} {c : Code} {H : Heap} {locs : List Loc} {cells slots : Nat} {QQ : State → Prop} {B : xB} {ls : Array Slot} {st0 rest : List Value} {a : Array Value}
    (hr : va_Run p l e R s mid args below meth c H locs cells slots (xN G1 - xN G) (xZ G1 - xZ G) (F0 mid pc ls st0) (rest.map (xv B)) (xQc B G1 Q1 a) (xA B)) (hC : xCx xs L M B p s mid args meth c) (hR : xRm M B s R cells slots G G') (hW : xWd B G σ H) (hS : va_S (xA B) s.heap H locs) (hL : xLv B M.2.2.1 lv ls) (hN : xN G ≤ xN G1) (hZ : xZ G ≤ xZ G1) (hN2 : xN G1 ≤ xN G') (hZ2 : xZ G1 ≤ xZ G')
    (kr : ∀ (v : Option Value) (σ' : xS) (H' : Heap) (locs' : List Loc) (ls' : Array Slot) (pc' : Nat), Q v σ' → xWd B G' σ' H' → va_S (xA B) s.heap H' locs' → xRt M pc' v → W p l e R s mid args below meth c H' locs' (cells + (xN G' - xN G)) (slots + (xZ G' - xZ G)) QQ (F0 mid pc' ls' v.toList))
    (kk : ∀ (v : Option Value) (t : xS), Q1 v t → Ev xs L M (pc + 3) lv (v.toList ++ rest) G1 t G' Q) : W p l e R s mid args below meth c H locs cells slots QQ (F0 mid pc ls st0) := by
  intro T hT X
  obtain ⟨v, st₀, t, T', L', h0, X', hL', e1, e2, ⟨⟨v', σ1, hv, hq, hvt, hwd⟩, hz, hF⟩, st1⟩ := hr T hT X
  cases hv
  rw [h0] at hz hF
  rw [← e1] at hz hF hwd
  obtain ⟨a1, a2, a3, a4, a5, a6, a7⟩ := hR
  have hS1 : va_S (xA B) s.heap T'.heap (locs ++ L') := ⟨Nat.le_trans hS.1 hz, fun q h1 h2 => (hF q (Nat.lt_of_lt_of_le h1 hS.1) h2).trans (hS.2.1 q h1 h2), fun q hq' => by
    rcases List.mem_append.mp hq' with h | h
    · exact hS.2.2 q h
    · exact hL' q h⟩
  have d1 : cells + (xN G1 - xN G) + (xN G' - xN G1) = cells + (xN G' - xN G) := by omega
  have d2 : slots + (xZ G1 - xZ G) + (xZ G' - xZ G1) = slots + (xZ G' - xZ G) := by omega
  have key := kk v σ1 hq l B p e R s mid args below meth c T'.heap (locs ++ L') (cells + (xN G1 - xN G)) (slots + (xZ G1 - xZ G)) ls QQ hC ⟨a1, a2, by omega, by omega, hN2, hZ2, by omega⟩ hwd hS1 hL (by rw [d1, d2]; exact kr)
  rw [List.map_append, hvt] at key
  obtain ⟨t2, c1, c2⟩ := key T' rfl X'
  exact ⟨t2, st1 t2 c1, c2⟩
theorem xe_callV' {idx n q r : Nat} {As rest : List Value} (hE : Cl xs L M2 (.ref r :: As) G σ G1 Q1) (hd : decode M.2.1 pc = .ok (.invokevirtual idx, 3)) (hc : xCv M.1.cls idx M2 n q) (hst : st = As.reverse ++ .ref r :: rest) (hk : xk G r = q) (hn : As.length = n) (hA : (xpos (.ref r :: As)).length ≤ M2.2.2.1) (hw : (rest.map fun v => v.category).sum ≤ 8) (hf : M2.2.2.2.2.1 + 1 ≤ M.2.2.2.2.1 ∧ 8 + (M2.2.2.1 + 11) + M2.2.2.2.2.2 ≤ M.2.2.2.2.2) (hN : xN G ≤ xN G1) (hZ : xZ G ≤ xZ G1) (hN2 : xN G1 ≤ xN G') (hZ2 : xZ G1 ≤ xZ G') (kk : ∀ (v : Option Value) (t : xS), Q1 v t → Ev xs L M (pc + 3) lv (v.toList ++ rest) G1 t G' Q) : Ev xs L M pc lv st G σ G' Q := by
  intro l B p e R s mid args below meth c H locs cells slots ls QQ hC hR hW hS hL kr
  obtain ⟨hcd, hcn, hlk, hin, hse, T, hcf⟩ := hc
  obtain ⟨r1, r2⟩ := hW.2.2 r (by rw [hk]; have := hcf.2.1; omega)
  have hq10 := hcf.2.2.1
  subst hst
  refine xe_after (va_runV (As := As.map (xv B)) (b := B.1 + (r - 1)) (C := M2.1.cls) (Ts := GT) (own := M.1.cls) (nL := M.2.2.1) ⟨hC.1, hC.2.1, hC.2.2.1, hC.2.2.2.1, hC.2.2.2.2.1⟩ (xe_met l B hE hcd hA hN hZ) (cwV n hC.2.2.2.2.1 ?_ rfl rfl rfl ⟨rfl, hcd.2.2.2.1, hcd.2.2.2.2, hcn⟩ ⟨Nat.le_trans hf.1 hR.1, Nat.le_trans hf.2 hR.2.1⟩) ⟨xblind, va_recv hC.2.2.2.2.2.2.2.1 hW.2.1 (ci := q - 1) (q0 := r - 1) (q := (M2.1.cls, T, xnf q)) hcf.1 (by rw [xw_get r1 r2, xce_o hk hq10]), fun U hU hWm => ?_⟩ rfl (by rw [List.length_map]; exact hn) hL.1 ?_ ?_ hd ⟨?_, ?_⟩) hC hR hW hS hL hN hZ hN2 hZ2 kr kk
  · intro w hw
    rcases List.mem_append.mp hw with h | h
    · simp only [List.mem_cons, List.not_mem_nil, or_false] at h
      rcases h with rfl | rfl | rfl | rfl
      · exact ⟨hlk, (gt_good _ hlk).2⟩
      · exact ⟨hin, (gt_good _ hin).2⟩
      · exact ⟨hse, (gt_good _ hse).2⟩
      · exact ⟨hcd.2.1, (gt_good _ hcd.2.1).2⟩
    · exact xgood hcd w h
  · refine ⟨by rw [List.map_cons, xv_ref B r1], hC.2.2.2.2.2.2.go (U := U) (locs := locs) (by rw [hU]; exact hS) hWm.alike (fun _ _ _ _ h => va_Nw.warmM hWm h), by rw [hU]; exact hW⟩
  · show List.map (xv B) (As.reverse ++ .ref r :: rest) = _
    rw [List.map_append, List.map_reverse, List.map_cons, xv_ref B r1]
  · refine lv_room ?_
    rw [List.map_map]
    have e1 : (fun v : Value => v.category) ∘ xv B = fun v => v.category := funext fun v => xv_cat B v
    rw [e1]
    exact hw
  · have := hR.2.2.1
    omega
  · have := hR.2.2.2.1
    omega
theorem xe_callS' {idx n : Nat} {As rest : List Value} (hE : Cl xs L M2 As G σ G1 Q1) (hd : decode M.2.1 pc = .ok (.invokestatic idx, 3)) (hc : xCs M.1.cls idx M2 n) (hst : st = As.reverse ++ rest) (hn : As.length = n) (hA : (xpos As).length ≤ M2.2.2.1) (hw : (rest.map fun v => v.category).sum ≤ 8) (hf : M2.2.2.2.2.1 + 1 ≤ M.2.2.2.2.1 ∧ 8 + (M2.2.2.1 + 11) + M2.2.2.2.2.2 ≤ M.2.2.2.2.2) (hN : xN G ≤ xN G1) (hZ : xZ G ≤ xZ G1) (hN2 : xN G1 ≤ xN G') (hZ2 : xZ G1 ≤ xZ G') (kk : ∀ (v : Option Value) (t : xS), Q1 v t → Ev xs L M (pc + 3) lv (v.toList ++ rest) G1 t G' Q) : Ev xs L M pc lv st G σ G' Q := by
  intro l B p e R s mid args below meth c H locs cells slots ls QQ hC hR hW hS hL kr
  obtain ⟨hcd, hcn, hlk, hsa⟩ := hc
  subst hst
  have hstack : List.map (xv B) (As.reverse ++ rest) = (As.map (xv B)).reverse ++ rest.map (xv B) := by rw [List.map_append, List.map_reverse]
  have hroom : 2 * (F0 mid pc ls (List.map (xv B) (As.reverse ++ rest))).monitorRoom + ((rest.map (xv B)).map fun v => v.category).sum ≤ 8 := by
    refine lv_room ?_
    rw [List.map_map]
    have e1 : (fun v : Value => v.category) ∘ xv B = fun v => v.category := funext fun v => xv_cat B v
    rw [e1]
    exact hw
  have hpre : PreS s H (xPc xs L B As G σ) (As.map (xv B)) := ⟨xblind, fun U hU hWm => ⟨rfl, hC.2.2.2.2.2.2.go (U := U) (locs := locs) (by rw [hU]; exact hS) hWm.alike (fun _ _ _ _ h => va_Nw.warmM hWm h), by rw [hU]; exact hW⟩⟩
  have hcel : cells + (xN G1 - xN G) ≤ R.cells ∧ slots + (xZ G1 - xZ G) ≤ R.slots := ⟨by have := hR.2.2.1; omega, by have := hR.2.2.2.1; omega⟩
  rcases hlk with hlk | ⟨hlk, hy⟩
  · refine xe_after (va_runS (As := As.map (xv B)) (Ts := GT) (own := M.1.cls) (nL := M.2.2.1) ⟨hC.1, hC.2.1, hC.2.2.1, hC.2.2.2.1, hC.2.2.2.2.1⟩ (xe_met l B hE hcd hA hN hZ) (va_cwS n hC.2.2.2.2.1 ?_ rfl rfl rfl ⟨hcd.2.2.2.1, hcd.2.2.2.2, hcn⟩ ⟨Nat.le_trans hf.1 hR.1, Nat.le_trans hf.2 hR.2.1⟩) hpre rfl (by rw [List.length_map]; exact hn) hL.1 hstack hroom hd hcel) hC hR hW hS hL hN hZ hN2 hZ2 kr kk
    intro w hw
    rcases List.mem_append.mp hw with h | h
    · simp only [List.mem_cons, List.not_mem_nil, or_false] at h
      rcases h with rfl | rfl | rfl
      · exact ⟨hlk, (gt_good _ hlk).2⟩
      · exact ⟨hsa, (gt_good _ hsa).2⟩
      · exact ⟨hcd.2.1, (gt_good _ hcd.2.1).2⟩
    · exact xgood hcd w h
  · exact xe_after (va_runSN (As := As.map (xv B)) (Ts := GT) (own := M.1.cls) (host := RX10) (nL := M.2.2.1) ⟨hC.1, hC.2.1, hC.2.2.1, hC.2.2.2.1, hC.2.2.2.2.1⟩ (xe_met l B hE hcd hA hN hZ) ⟨va_cnB n hC.2.2.2.2.1 (xgood hcd) rfl rfl rfl (by rw [hy]; exact hC.2.2.2.2.2.2.2.2.2.2.2.2.2.2.2 _ hlk) (hC.2.2.2.2.1 _ hcd.2.1) ⟨hcd.2.2.2.1, hcd.2.2.2.2, hcn⟩ ⟨Nat.le_trans hf.1 hR.1, Nat.le_trans hf.2 hR.2.1⟩, hC.2.2.2.2.1 _ hsa, trivial⟩ hpre rfl (by rw [List.length_map]; exact hn) hL.1 hstack hroom hd hcel) hC hR hW hS hL hN hZ hN2 hZ2 kr kk
theorem xe_callI' {idx n r : Nat} {As rest : List Value} (hE : Cl xs L M2 (.ref r :: As) G σ G1 Q1) (hd : decode M.2.1 pc = .ok (.invokespecial idx, 3)) (hc : xCi M.1.cls idx M2 n) (hst : st = As.reverse ++ .ref r :: rest) (hk : 1 ≤ r) (hn : As.length = n) (hA : (xpos (.ref r :: As)).length ≤ M2.2.2.1) (hw : (rest.map fun v => v.category).sum ≤ 8) (hf : M2.2.2.2.2.1 + 1 ≤ M.2.2.2.2.1 ∧ 8 + (M2.2.2.1 + 11) + M2.2.2.2.2.2 ≤ M.2.2.2.2.2) (hN : xN G ≤ xN G1) (hZ : xZ G ≤ xZ G1) (hN2 : xN G1 ≤ xN G') (hZ2 : xZ G1 ≤ xZ G') (kk : ∀ (v : Option Value) (t : xS), Q1 v t → Ev xs L M (pc + 3) lv (v.toList ++ rest) G1 t G' Q) : Ev xs L M pc lv st G σ G' Q := by
  intro l B p e R s mid args below meth c H locs cells slots ls QQ hC hR hW hS hL kr
  obtain ⟨hcd, hcn, hlk, hin, hnm, hrt⟩ := hc
  subst hst
  have hstack : List.map (xv B) (As.reverse ++ .ref r :: rest) = (As.map (xv B)).reverse ++ .ref (B.1 + (r - 1)) :: rest.map (xv B) := by rw [List.map_append, List.map_reverse, List.map_cons, xv_ref B hk]
  have hroom : 2 * (F0 mid pc ls (List.map (xv B) (As.reverse ++ .ref r :: rest))).monitorRoom + ((rest.map (xv B)).map fun v => v.category).sum ≤ 8 := by
    refine lv_room ?_
    rw [List.map_map]
    have e1 : (fun v : Value => v.category) ∘ xv B = fun v => v.category := funext fun v => xv_cat B v
    rw [e1]
    exact hw
  have hcel : cells + (xN G1 - xN G) ≤ R.cells ∧ slots + (xZ G1 - xZ G) ≤ R.slots := ⟨by have := hR.2.2.1; omega, by have := hR.2.2.2.1; omega⟩
  refine xe_after (va_runI (As := As.map (xv B)) (b := B.1 + (r - 1)) (Ts := GT) (own := M.1.cls) (nL := M.2.2.1) ⟨hC.1, hC.2.1, hC.2.2.1, hC.2.2.2.1, hC.2.2.2.2.1⟩ (xe_met l B hE hcd hA hN hZ) (cwI n hC.2.2.2.2.1 (xgood hcd) (show xWs M2 = Cond.code M2.1 M2.2.1 M2.2.2.1 none :: GT by show Cond.code M2.1 M2.2.1 M2.2.2.1 M2.2.2.2.1 :: GT = _; rw [hrt]) rfl rfl (hC.2.2.2.2.1 _ hcd.2.1) (hC.2.2.2.2.1 _ hlk) (hC.2.2.2.2.1 _ hin) hnm ⟨hcd.2.2.2.1, hcd.2.2.2.2, hcn⟩ ⟨Nat.le_trans hf.1 hR.1, Nat.le_trans hf.2 hR.2.1⟩) ⟨xblind, fun U hU hWm => ?_⟩ rfl (by rw [List.length_map]; exact hn) hL.1 hstack hroom hd hcel) hC hR hW hS hL hN hZ hN2 hZ2 kr kk
  exact ⟨by rw [List.map_cons, xv_ref B hk], hC.2.2.2.2.2.2.go (U := U) (locs := locs) (by rw [hU]; exact hS) hWm.alike (fun _ _ _ _ h => va_Nw.warmM hWm h), by rw [hU]; exact hW⟩
theorem xe_objInit {idx r : Nat} (hd : decode M.2.1 pc = .ok (.invokespecial idx, 3)) (hl : Cond.methodLink M.1.cls idx Lib.objectInit ∈ GT) (hi : Cond.instanceMethod Lib.objectInit ∈ GT) (hcd : Cond.code Lib.objectInit ⟨#[0xb1]⟩ 1 none ∈ GT) (hr : 1 ≤ r) (hw : (st.map fun v => v.category).sum + 12 ≤ M.2.2.2.2.2) (hf : 1 ≤ M.2.2.2.2.1) (kk : Ev xs L M (pc + 3) lv st G σ G' Q) : Ev xs L M pc lv (.ref r :: st) G σ G' Q := by
  intro l B p e R s mid args below meth c H locs cells slots ls QQ hC hR hW hS hL kr
  rw [List.map_cons, xv_ref B hr]
  refine W.objInit hC.1 hC.2.1 hC.2.2.2.1 (hC.2.2.2.2.1 _ hl) (hC.2.2.2.2.1 _ hi) (hC.2.2.2.2.1 _ hcd) rfl (hL.1.trans hC.2.2.1.symm) rfl hd (Nat.le_trans hf hR.1) ?_ (kk l B p e R s mid args below meth c H locs cells slots ls QQ hC hR hW hS hL kr)
  have e1 : (fun v : Value => v.category) ∘ xv B = fun v => v.category := funext fun v => xv_cat B v
  show 2 * 0 + _ + 12 ≤ _
  rw [List.map_map, e1]
  have := hR.2.1
  omega
theorem xe_copy {idx a0 a : Nat} {sp dp n : Int32} (hd : decode M.2.1 pc = .ok (.invokestatic idx, 3)) (hl : Cond.methodLink M.1.cls idx arraycopyName ∈ GT) (hna : Cond.native arraycopyName ∈ GT) (hsa : Cond.static arraycopyName ∈ GT) (hini : Cond.initialized "java/lang/System" ∈ GT) (k0 : xk G a0 = 11) (k1 : xk G a = 11) (h1 : ¬ sp < 0) (h2 : ¬ dp < 0) (h3 : ¬ n < 0) (h4 : sp.toNatClampNeg + n.toNatClampNeg ≤ xn G a0) (h5 : dp.toNatClampNeg + n.toNatClampNeg ≤ xn G a) (hw : (st.map fun v => v.category).sum + 18 ≤ M.2.2.2.2.2) (hf : 1 ≤ M.2.2.2.2.1) (kk : Ev xs L M (pc + 3) lv st G (fun b => if b = a then va_cpy (σ.1 a0) (σ.1 a) sp.toNatClampNeg dp.toNatClampNeg n.toNatClampNeg else σ.1 b, σ.2) G' Q) : Ev xs L M pc lv (.int n :: .int dp :: .ref a :: .int sp :: .ref a0 :: st) G σ G' Q := by
  intro l B p e R s mid args below meth c H locs cells slots ls QQ hC hR hW hS hL kr
  obtain ⟨r1, r2⟩ := hW.2.2 a (by rw [k1]; omega)
  obtain ⟨q1, q2⟩ := hW.2.2 a0 (by rw [k0]; omega)
  rw [List.map_cons, List.map_cons, List.map_cons, List.map_cons, List.map_cons, xv_ref B r1, xv_ref B q1]
  refine va_copyi hC.1 hC.2.1 (hC.2.2.1.trans hL.1.symm) hC.2.2.2.1 (hC.2.2.2.2.1 _ hl) (hC.2.2.2.2.1 _ hna) (hC.2.2.2.2.1 _ hsa) (hC.2.2.2.2.1 _ hini) hC.2.2.2.2.2.2.2.1 hW.2.1 (xw_D B G σ) (xS_self hS) (a0 - 1) (a - 1) 0 0 (by rw [xw_get q1 q2, xce_i k0]) (by rw [xw_get r1 r2, xce_i k1]) rfl rfl rfl h1 h2 h3 h4 h5 (fun _ _ => rfl) (Nat.le_trans hf hR.1) ?_ hd (fun H1 locs1 hP1 hD1 hS1 => ?_)
  · have e1 : (fun v : Value => v.category) ∘ xv B = fun v => v.category := funext fun v => xv_cat B v
    rw [List.map_map, e1, show nativeFrameWords "java/lang/System" "arraycopy" 5 + 11 = 18 by decide]
    exact Nat.le_trans hw hR.2.1
  · rw [show (xw B G σ).set (a - 1) (B.1 + (a - 1), .inl (xcI B, xn G a, .inl (va_cpy (σ.1 a0) (σ.1 a) sp.toNatClampNeg dp.toNatClampNeg n.toNatClampNeg))) = xw B G (fun b => if b = a then va_cpy (σ.1 a0) (σ.1 a) sp.toNatClampNeg dp.toNatClampNeg n.toNatClampNeg else σ.1 b, σ.2) by
      rw [← xw_set (G' := G) (σ' := (fun b => if b = a then va_cpy (σ.1 a0) (σ.1 a) sp.toNatClampNeg dp.toNatClampNeg n.toNatClampNeg else σ.1 b, σ.2)) r1 r2 rfl (fun j hj => xce_cong rfl rfl (if_neg hj) rfl (fun _ => rfl)), xce_i k1]
      simp only [if_pos]] at hP1
    refine xW_le (fun hle => ?_)
    have hsz := hW.1
    have hlo := hS1.1
    have h7 := hR.2.2.2.2.2.2
    exact kk l B p e R s mid args below meth c H1 locs1 cells slots ls QQ hC hR ⟨by omega, hP1, hW.2.2⟩ (xS_trans hS hS1) hL kr
end XK
