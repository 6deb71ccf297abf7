/-! THE CLAIM OUT OF ONE WALK OF THE LAW'S BODY. Your part is whole_start (and what it stands on); all else here is the same for every law, but numbers. -/
def R_law : String := "NailThreadsLaw"
def lw_P (b : Addr) (xs : List Int32) (args : Array Value) (s : State) : Prop := args = #[.ref b] ∧ s.IntsAt b xs ∧ xs.length ≤ 2560 ∧ (Jvm.Cond.and given_1 narrow_1).before args s = true
def lw_Q (_ : Array Value) (s : State) (o : Outcome) (t : State) : Prop := o = .returned (some (.int 1)) ∧ Framed s o t [] 600000 7302250
def lw_Z (below : List Frame) (a : Array Value) (s : State) : State → Prop := fun t => ∃ o, t.status = .running ∧ Ended t below o ∧ lw_Q a s o t
/-- the law's own end, with 1 on the stack, nothing written that was there before, its room as the claim has it -/
theorem lw_ret {p : Program} {l : Launch} {e : Env} {s : State} {m : MethodId} {below : List Frame} {meth : Method} {c : Code} {b : Nat} (hx : p.tables.exec = Jvm.exec) (hb : c.code = code) (hr : meth.sig.returnType = ret) (hlocks : meth.locks = false) {pc : Nat} {H : Heap} {ls : Array Slot} (hdg : decode code pc = .ok (.ireturn, 1)) : W p l e room_1 s m #[Value.ref b] below meth c H [] 600000 7302250 (lw_Z below #[Value.ref b] s) (F0 m pc ls [.int 1]) := by
  intro T hT X
  obtain ⟨fs, hret, hrun, hended, hW, hframe⟩ := X.leave (v := some (.int 1)) (hlocks := hlocks) (fun h => by rw [hr] at h; cases h)
  have hmeth' : T.vm.method? m = some meth := X.method'
  refine ⟨T.setFrames fs, ?_, .returned (some (.int 1)), hrun, hended, rfl, ⟨_, rfl⟩, hW, hframe⟩
  jvm_step X.here [X.here.top, hx, hb, hdg, hmeth', hr, ret, narrow_b1]
  (try refine ⟨rfl, ?_⟩); (try refine ⟨rfl, ?_⟩)
  first | (intro acts; rw [hret _ acts rfl rfl rfl]) | rw [hret _ _ rfl rfl rfl]
  exact Steps.refl _
/-- what holds at the law's entry: the machine, the code, the tables' words (any of lw_tbl by 'hts w (by decide +kernel)'), the script of L ints xs at the cell b, what the Statement gives of the start (any of its parts by flat_of_before) -/
def lw_At (p : Program) (s : State) (m : MethodId) (meth : Method) (c : Code) (b L : Nat) (xs : Nat → Int32) : Prop :=
  p.tables.exec = Jvm.exec ∧ c.code = code ∧ meth.sig.returnType = ret ∧ c.maxLocals = 4 ∧ s.vm.findClass R_law = some m.cls ∧ (∀ w ∈ lw_tbl, w.before #[Value.ref b] s = true) ∧ va_X b L xs s s.heap ∧ b < s.heap.size ∧ meth.locks = false ∧ (Jvm.Cond.and given_1 narrow_1).before #[Value.ref b] s = true
abbrev xG0 : xG := (fun _ => 0, fun _ => 0, fun _ _ => 0, 0, 0)
abbrev xS0 : xS := (fun _ _ => 0, fun _ _ => 0)
theorem xk_all {s : State} {args : Array Value} (hts : ∀ w ∈ GT, w.before args s = true) : ∃ (dC : Nat → ClassId) (dI : Nat → Nat → Nat), ∀ (k : Nat) (q : vw_C), vwCl[k]? = some q → u_Kn s q.1 q.2.1 q.2.2 (dC k) (dI k) := by
  have one : ∀ {q : Nat} {C : String} {T : u_T}, xCf q C T → ∃ (c : ClassId) (iS : Nat → Nat), u_Kn s C T (xnf q) c iS := fun h => u_known hts h.2.2.2.1 (hts _ h.2.2.2.2.2.2.1)
  have h : ∀ k : Nat, ∃ (c : ClassId) (iS : Nat → Nat), ∀ q : vw_C, vwCl[k]? = some q → u_Kn s q.1 q.2.1 q.2.2 c iS := by
    intro k
    match k with
    | 0 => obtain ⟨c, i, h⟩ := one cfX0; exact ⟨c, i, fun q hq => by cases hq; exact h⟩
    | 1 => obtain ⟨c, i, h⟩ := one cfX1; exact ⟨c, i, fun q hq => by cases hq; exact h⟩
    | 2 => obtain ⟨c, i, h⟩ := one cfX3; exact ⟨c, i, fun q hq => by cases hq; exact h⟩
    | 3 => obtain ⟨c, i, h⟩ := one cfX4; exact ⟨c, i, fun q hq => by cases hq; exact h⟩
    | 4 => obtain ⟨c, i, h⟩ := one cfX6; exact ⟨c, i, fun q hq => by cases hq; exact h⟩
    | 5 => obtain ⟨c, i, h⟩ := one cfX7; exact ⟨c, i, fun q hq => by cases hq; exact h⟩
    | 6 => obtain ⟨c, i, h⟩ := one cfX8; exact ⟨c, i, fun q hq => by cases hq; exact h⟩
    | 7 => obtain ⟨c, i, h⟩ := one cfX9; exact ⟨c, i, fun q hq => by cases hq; exact h⟩
    | 8 => obtain ⟨c, i, h⟩ := one cfX10; exact ⟨c, i, fun q hq => by cases hq; exact h⟩
    | 9 => obtain ⟨c, i, h⟩ := one cfX11; exact ⟨c, i, fun q hq => by cases hq; exact h⟩
    | k + 10 => exact ⟨0, fun _ => 0, fun q hq => by simp [vwCl] at hq⟩
  exact ⟨fun k => Classical.choose (h k), fun k => Classical.choose (Classical.choose_spec (h k)), fun k q hq => Classical.choose_spec (Classical.choose_spec (h k)) q hq⟩
set_option maxRecDepth 20000 in
theorem xnst_tbl : ∀ q ∈ xNst, Cond.methodLinkNest q.1 q.2 yX10_isOutside RX10 ∈ lw_tbl := by
  intro q hq
  simp only [xNst, List.mem_cons, List.not_mem_nil, or_false] at hq
  rcases hq with rfl | rfl | rfl | rfl | rfl
  · exact List.mem_of_getElem? (i := 289) rfl
  · exact List.mem_of_getElem? (i := 313) rfl
  · exact List.mem_of_getElem? (i := 534) rfl
  · exact List.mem_of_getElem? (i := 598) rfl
  · exact List.mem_of_getElem? (i := 779) rfl
set_option maxRecDepth 20000 in
theorem gt_lays1 : Cond.laysStatic "NailThreads$Ring" "LENGTHS" "[I" ∈ lw_tbl := by decide +kernel
set_option maxRecDepth 20000 in
theorem gt_lays2 : Cond.laysStatic "NailThreads$Doings" "POWERS" "[J" ∈ lw_tbl := by decide +kernel
set_option maxRecDepth 20000 in
theorem gt_over : Cond.arrayOver (.object "NailThreads$Board") ∈ lw_tbl := by decide +kernel
theorem gt_tbl {w : Cond} (h : w ∈ GT) : w ∈ lw_tbl := (gt_good w h).1
set_option maxHeartbeats 4000000 in
set_option maxRecDepth 20000 in
theorem xstart {s : State} {b L : Nat} {xs : Nat → Int32} (hts : ∀ w ∈ lw_tbl, w.before #[Value.ref b] s = true) (hX : va_X b L xs s s.heap) (hbl : b < s.heap.size) (hgv : (Jvm.Cond.and given_1 narrow_1).before #[Value.ref b] s = true) : ∃ B : xB, B.1 = s.heap.size ∧ B.2.1 = b ∧ xI xs L B s := by
  obtain ⟨dC, dI, hK⟩ := xk_all (s := s) (args := #[Value.ref b]) (fun w hw => hts w (gt_tbl hw))
  have hs := flat_of_before _ hgv
  have hA : ∀ a : Nat, a < s.heap.size → ¬ (fun q : Nat => s.heap.size ≤ q) a := fun a h z => absurd h (Nat.not_lt.mpr z)
  obtain ⟨cI, kI, pI, i1, i2, i3⟩ := Cond.arrayClass_spec (hts _ (gt_tbl gw95))
  obtain ⟨cZ, kZ, pZ, z1, z2, z3⟩ := Cond.arrayClass_spec (hts _ (gt_tbl gw158))
  obtain ⟨pQ, cQ, kQ, q1, -, q2, q3, q4⟩ := Cond.arrayOver_spec (hts _ gt_over)
  obtain ⟨t0, e0, T0⟩ := va_Tof (tm := .static "NailThreads$Ring" "LENGTHS" "[I") (ty := .int) (N := 12) (f := fun j => .int (xlen j)) (A := fun q : Nat => s.heap.size ≤ q) (by decide) (hs _ (by decide +kernel)) (va_eqt (hs _ (by decide +kernel))) (fun j hj => by
    match j, hj with
    | 0, _ => exact va_eqt (z := 0) (hs _ (by decide +kernel))
    | 1, _ => exact va_eqt (z := 5) (hs _ (by decide +kernel))
    | 2, _ => exact va_eqt (z := 10) (hs _ (by decide +kernel))
    | 3, _ => exact va_eqt (z := 14) (hs _ (by decide +kernel))
    | 4, _ => exact va_eqt (z := 17) (hs _ (by decide +kernel))
    | 5, _ => exact va_eqt (z := 19) (hs _ (by decide +kernel))
    | 6, _ => exact va_eqt (z := 20) (hs _ (by decide +kernel))
    | 7, _ => exact va_eqt (z := 19) (hs _ (by decide +kernel))
    | 8, _ => exact va_eqt (z := 17) (hs _ (by decide +kernel))
    | 9, _ => exact va_eqt (z := 14) (hs _ (by decide +kernel))
    | 10, _ => exact va_eqt (z := 10) (hs _ (by decide +kernel))
    | 11, _ => exact va_eqt (z := 5) (hs _ (by decide +kernel))
    | k + 12, h => omega) hA
  obtain ⟨t1, e1, T1⟩ := va_Tof (tm := .static "NailThreads$Doings" "POWERS" "[J") (ty := .long) (N := 5) (f := fun j => .long (xpow j)) (A := fun q : Nat => s.heap.size ≤ q) (by decide) (hs _ (by decide +kernel)) (va_eqt (hs _ (by decide +kernel))) (fun j hj => by
    match j, hj with
    | 0, _ => exact va_eqtl (z := 1) (hs _ (by decide +kernel))
    | 1, _ => exact va_eqtl (z := 10000) (hs _ (by decide +kernel))
    | 2, _ => exact va_eqtl (z := 100000000) (hs _ (by decide +kernel))
    | 3, _ => exact va_eqtl (z := 1000000000000) (hs _ (by decide +kernel))
    | 4, _ => exact va_eqtl (z := 10000000000000000) (hs _ (by decide +kernel))
    | k + 5, h => omega) hA
  refine ⟨(s.heap.size, b, t0, t1, dC, dI, cI, cZ, cQ), rfl, rfl, Nat.le_refl _, ⟨hK, fun k q hq => ?_⟩, va_AO.of (hts _ gt_over), va_Zref (hts _ gt_lays1) (hts _ (gt_tbl gw62)) e0 hA, T0, va_Zref (hts _ gt_lays2) (hts _ (gt_tbl gw67)) e1 hA, T1, hX, hbl, fun q hq => va_Nw.of rfl (hts _ (xnst_tbl q hq))⟩
  match k, hq with
  | 0, hq => cases hq; exact ⟨fun n z => ⟨fun k h => (by cases h), kI, i2, pI, i3⟩, i1⟩
  | 1, hq => cases hq; exact ⟨fun n z => ⟨fun k h => (by cases h), kZ, z2, pZ, z3⟩, z1⟩
  | 2, hq => cases hq; exact ⟨fun n z => ⟨fun k h => (by cases h), kQ, q2, pQ, q3⟩, kQ, pQ, q2, q3, q1, q4⟩
  | k + 3, hq => simp [xtys] at hq
/-- the claim's walk out of the judgement -/
theorem whole_ev {p : Program} {e : Env} {s : State} {m : MethodId} {below : List Frame} {meth : Method} {c : Code} (l : Launch) {b L : Nat} {xs : Nat → Int32} {G1 : xG} (hE : Ev xs L mL_law 0 [.float 0, .null, .null, .null] [] xG0 xS0 G1 (fun v _ => v = some (.int 1))) (hN : xN G1 ≤ 600000) (hZ : xZ G1 ≤ 7302250) (C0 : lw_At p s m meth c b L xs) : W p l e room_1 s m #[Value.ref b] below meth c s.heap [] 0 0 (lw_Z below #[Value.ref b] s) (entryFrame m ([Value.ref b] : List Value).toArray 4) := by
  obtain ⟨hx, hb, hr, hml, hown, hts, hX, hbl, hlocks, hgv⟩ := id C0
  obtain ⟨B, b1, b2, hI⟩ := xstart hts hX hbl hgv
  have hl := lv_entry ([.ref b]) (n := 4) (Nat.le_of_ble_eq_true rfl)
  rw [lg_entry_eq]
  generalize (lg_sl ([.ref b]) ++ List.replicate (4 - (lg_sl ([.ref b])).length) Slot.unset).toArray = ls at hl ⊢
  refine hE l B p e room_1 s m _ below meth c s.heap [] 0 0 ls _ ⟨hx, hb, hml, hown, fun w hw => hts w (gt_tbl hw), fun h => absurd h (by decide), hI⟩ ⟨by decide, by decide, by show 0 + (xN G1 - 0) ≤ 600000; omega, by show 0 + (xZ G1 - 0) ≤ 7302250; omega, Nat.zero_le _, Nat.zero_le _, by rw [b1]⟩ ⟨by rw [b1]; rfl, fun k q hq => absurd (xw_at hq).1 (Nat.not_lt_zero _), fun i hi => absurd rfl hi⟩ va_S.rf ⟨hl.1, hl.2.1, fun i w hw hn => ?_⟩ ?_
  · match i, hw with
    | 0, hw =>
      cases hw
      have := hl.2.2 (0, .ref b) (List.mem_cons_self ..)
      rw [this]
      simp only [xv, if_true, b2]
    | 1, hw => cases hw; exact absurd rfl hn
    | 2, hw => cases hw; exact absurd rfl hn
    | 3, hw => cases hw; exact absurd rfl hn
    | k + 4, hw => simp at hw
  · intro v σ' H' locs' ls' pc' hq hWd hS' hrt
    subst hq
    refine va_forget (fun q hq => by rw [← b1]; exact hS'.2.2 q hq) ?_
    refine W.widen (k := 600000) (n := 7302250) (by show 0 + (xN G1 - 0) ≤ _; omega) (by show 0 + (xZ G1 - 0) ≤ _; omega) ?_
    exact lw_ret hx hb hr hlocks hrt.1
