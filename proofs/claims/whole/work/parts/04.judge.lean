/-! the judgement: from here the method comes to its end, with Q of its answer and of the store -/
def xlen (j : Nat) : Int32 := ([0, 5, 10, 14, 17, 19, 20, 19, 17, 14, 10, 5] : List Int32).getD j 0
def xpow (j : Nat) : Int64 := ([1, 10000, 100000000, 1000000000000, 10000000000000000] : List Int64).getD j 0
abbrev xNst : List (String × Nat) := [(RX8, 37), (RX0, 60), (RX9, 32), (RX2, 9), (RX7, 22)]
def xI (xs : Nat → Int32) (L : Nat) (B : xB) (s : State) : Prop :=
  B.1 ≤ s.heap.size ∧ va_K (xD B) vwCl (xtys B) s ∧ va_AO "NailThreads$Board" s ∧ va_Z "NailThreads$Ring" "LENGTHS" "[I" (.ref B.2.2.1) (xA B) s s.heap ∧ va_T .int B.2.2.1 12 (fun j => .int (xlen j)) (xA B) s s.heap ∧ va_Z "NailThreads$Doings" "POWERS" "[J" (.ref B.2.2.2.1) (xA B) s s.heap ∧ va_T .long B.2.2.2.1 5 (fun j => .long (xpow j)) (xA B) s s.heap ∧ va_X B.2.1 L xs s s.heap ∧ B.2.1 < B.1 ∧ ∀ q ∈ xNst, va_Nw (.methodLinkNest q.1 q.2 yX10_isOutside RX10) s
theorem xI.go {xs : Nat → Int32} {L : Nat} {B : xB} {s U : State} {locs : List Loc} (h : xI xs L B s) (hS : va_S (xA B) s.heap U.heap locs) (hvm : s.vm.Alike U.vm) (hn : ∀ (a : String) (i : Nat) (x : MethodName) (h : String), va_Nw (.methodLinkNest a i x h) s → va_Nw (.methodLinkNest a i x h) U) : xI xs L B U := by
  obtain ⟨h1, h2, h3, h4, h5, h6, h7, h8, h9, h10⟩ := h
  have hb : B.2.1 < s.heap.size := Nat.lt_of_lt_of_le h9 h1
  exact ⟨Nat.le_trans h1 hS.1, h2.moved hvm, h3.moved hvm, (h4.kept hS.2.1).moved hvm, (h5.kept hS.2.1).moved hvm, (h6.kept hS.2.1).moved hvm, (h7.kept hS.2.1).moved hvm, (h8.kept (hS.2.1 _ hb (fun z => absurd h9 (Nat.not_lt.mpr z)))).moved hvm, h9, fun q hq => hn _ _ _ _ (h10 q hq)⟩
def xCx (xs : Nat → Int32) (L : Nat) (M : xM) (B : xB) (p : Program) (s : State) (mid : MethodId) (args : Array Value) (meth : Method) (c : Code) : Prop :=
  p.tables.exec = Jvm.exec ∧ c.code = M.2.1 ∧ c.maxLocals = M.2.2.1 ∧ s.vm.findClass M.1.cls = some mid.cls ∧ (∀ w ∈ GT, w.before args s = true) ∧ (M.1.name = "<init>" → meth.name = "<init>") ∧ xI xs L B s
def xRm (M : xM) (B : xB) (s : State) (R : Room) (cells slots : Nat) (G G' : xG) : Prop := M.2.2.2.2.1 ≤ R.frames ∧ M.2.2.2.2.2 ≤ R.locals ∧ cells + (xN G' - xN G) ≤ R.cells ∧ slots + (xZ G' - xZ G) ≤ R.slots ∧ xN G ≤ xN G' ∧ xZ G ≤ xZ G' ∧ B.1 + xN G = s.heap.size + cells
def xLv (B : xB) (n : Nat) (lv : List Value) (ls : Array Slot) : Prop := ls.size = n ∧ lv_wf ls ∧ ∀ (i : Nat) (w : Value), lv[i]? = some w → w ≠ .null → ls[i]? = some (.val (xv B w))
def xRt (M : xM) (pc : Nat) (v : Option Value) : Prop := match v with
  | none => M.2.2.2.1 = none ∧ decode M.2.1 pc = .ok (.return_, 1)
  | some (.int x) => decode M.2.1 pc = .ok (.ireturn, 1) ∧ ∃ ty, M.2.2.2.1 = some ty ∧ narrow ty (.int x) = .int x
  | some (.long _) => M.2.2.2.1 = some .long ∧ decode M.2.1 pc = .ok (.lreturn, 1)
  | _ => False
def Ev (xs : Nat → Int32) (L : Nat) (M : xM) (pc : Nat) (lv st : List Value) (G : xG) (σ : xS) (G' : xG) (Q : Option Value → xS → Prop) : Prop :=
  ∀ (l : Launch) (B : xB) (p : Program) (e : Env) (R : Room) (s : State) (mid : MethodId) (args : Array Value) (below : List Frame) (meth : Method) (c : Code) (H : Heap) (locs : List Loc) (cells slots : Nat) (ls : Array Slot) (QQ : State → Prop),
    xCx xs L M B p s mid args meth c → xRm M B s R cells slots G G' → xWd B G σ H → va_S (xA B) s.heap H locs → xLv B M.2.2.1 lv ls →
    (∀ (v : Option Value) (σ' : xS) (H' : Heap) (locs' : List Loc) (ls' : Array Slot) (pc' : Nat), Q v σ' → xWd B G' σ' H' → va_S (xA B) s.heap H' locs' → xRt M pc' v → W p l e R s mid args below meth c H' locs' (cells + (xN G' - xN G)) (slots + (xZ G' - xZ G)) QQ (F0 mid pc' ls' v.toList)) →
    W p l e R s mid args below meth c H locs cells slots QQ (F0 mid pc ls (st.map (xv B)))
/-- the words of the slots, one behind the other; a long takes two -/
def xpos : List Value → List Value
  | [] => []
  | .long x :: r => .long x :: .null :: xpos r
  | .double x :: r => .double x :: .null :: xpos r
  | v :: r => v :: xpos r
/-- how a method begins with these arguments -/
def xent (n : Nat) (As : List Value) : List Value := xpos As ++ List.replicate (n - (xpos As).length) .null
def Cl (xs : Nat → Int32) (L : Nat) (M : xM) (As : List Value) (G : xG) (σ : xS) (G' : xG) (Q : Option Value → xS → Prop) : Prop := Ev xs L M 0 (xent M.2.2.1 As) [] G σ G' Q
/-- storing in a slot -/
def xst (lv : List Value) (i : Nat) (w : Value) : List Value := (match i with
  | 0 => lv
  | j + 1 => (match lv[j]? with
    | some (.long _) => lv.set j .null
    | some (.double _) => lv.set j .null
    | _ => lv)).set i w
def xas (B : xB) (lv : List Value) : List (Nat × Value) := (List.range lv.length).filterMap (fun i => match lv[i]? with
  | some w => if w = .null then none else some (i, xv B w)
  | none => none)
theorem xas_mem {B : xB} {lv : List Value} {i : Nat} {w : Value} (h : lv[i]? = some w) (hw : w ≠ .null) : (i, xv B w) ∈ xas B lv := by
  unfold xas
  refine List.mem_filterMap.mpr ⟨i, List.mem_range.mpr (List.getElem?_eq_some_iff.mp h).1, ?_⟩
  simp only [h, if_neg hw]
theorem xas_of {B : xB} {lv : List Value} {q : Nat × Value} (h : q ∈ xas B lv) : ∃ w, lv[q.1]? = some w ∧ w ≠ .null ∧ q.2 = xv B w := by
  unfold xas at h
  obtain ⟨i, -, hi⟩ := List.mem_filterMap.mp h
  cases hl : lv[i]? with
  | none => rw [hl] at hi; cases hi
  | some w =>
    rw [hl] at hi
    by_cases hw : w = .null
    · simp only [if_pos hw] at hi; cases hi
    · simp only [if_neg hw] at hi
      cases hi
      exact ⟨w, hl, hw, rfl⟩
theorem xLv.has {B : xB} {n : Nat} {lv : List Value} {ls : Array Slot} (h : xLv B n lv ls) : lv_has ls n (xas B lv) := ⟨h.1, h.2.1, fun q hq => by
  obtain ⟨w, h1, h2, h3⟩ := xas_of hq
  rw [h3]
  exact h.2.2 _ _ h1 h2⟩
theorem xst_at {lv : List Value} {i j : Nat} {w x : Value} (h : (xst lv i w)[j]? = some x) (hx : x ≠ .null) : (j = i ∧ x = w) ∨ (j ≠ i ∧ lv[j]? = some x ∧ ¬ (j + 1 = i ∧ x.category = 2)) := by
  by_cases hj : j = i
  · subst hj
    left
    refine ⟨rfl, ?_⟩
    unfold xst at h
    rcases Nat.lt_or_ge j (match j with
      | 0 => lv
      | k + 1 => (match lv[k]? with
        | some (.long _) => lv.set k .null
        | some (.double _) => lv.set k .null
        | _ => lv)).length with z | z
    · rw [List.getElem?_set_self z] at h
      exact (Option.some.inj h).symm
    · rw [List.getElem?_eq_none (by rw [List.length_set]; exact z)] at h
      cases h
  · right
    refine ⟨hj, ?_⟩
    unfold xst at h
    rw [List.getElem?_set_ne (Ne.symm hj)] at h
    cases i with
    | zero => exact ⟨h, fun z => by omega⟩
    | succ k =>
      dsimp only at h
      by_cases hk : j = k
      · subst hk
        cases hl : lv[j]? with
        | none => rw [hl] at h; dsimp only at h; rw [hl] at h; cases h
        | some y =>
          rw [hl] at h
          have hlt := (List.getElem?_eq_some_iff.mp hl).1
          cases y with
          | long z => dsimp only at h; rw [List.getElem?_set_self hlt] at h; exact absurd (Option.some.inj h).symm hx
          | double z => dsimp only at h; rw [List.getElem?_set_self hlt] at h; exact absurd (Option.some.inj h).symm hx
          | _ => dsimp only at h; rw [hl] at h; refine ⟨h, fun z => ?_⟩; cases h; exact absurd z.2 (by simp [Value.category])
      · refine ⟨?_, fun z => hk (by omega)⟩
        cases hl : lv[k]? with
        | none => rw [hl] at h; exact h
        | some y =>
          rw [hl] at h
          cases y with
          | long z => dsimp only at h; rw [List.getElem?_set_ne (Ne.symm hk)] at h; exact h
          | double z => dsimp only at h; rw [List.getElem?_set_ne (Ne.symm hk)] at h; exact h
          | _ => exact h
theorem xLv.st1 {B : xB} {n i : Nat} {lv : List Value} {ls' : Array Slot} {w : Value} (h : lv_has ls' n ((i, xv B w) :: (xas B lv).filter (fun q => !(q.1 == i) && !(q.1 + 1 == i && q.2.category == 2)))) : xLv B n (xst lv i w) ls' := by
  refine ⟨h.1, h.2.1, fun j x hj hx => ?_⟩
  rcases xst_at hj hx with ⟨rfl, rfl⟩ | ⟨h1, h2, h3⟩
  · exact h.2.2 (j, xv B x) (List.mem_cons_self ..)
  · refine h.2.2 (j, xv B x) (List.mem_cons_of_mem _ (List.mem_filter.mpr ⟨xas_mem h2 hx, ?_⟩))
    simp only [Bool.and_eq_true, Bool.not_eq_true', beq_eq_false_iff_ne, ne_eq, Bool.and_eq_false_iff]
    refine ⟨h1, ?_⟩
    by_cases hi : j + 1 = i
    · exact Or.inr (fun z => h3 ⟨hi, by rw [← xv_cat B]; exact z⟩)
    · exact Or.inl hi
theorem xLv.st2 {B : xB} {n i : Nat} {lv : List Value} {ls' : Array Slot} {w : Value} (h : lv_has ls' n ((i, xv B w) :: (xas B lv).filter (fun q => !(q.1 == i) && (!(q.1 == i + 1) && !(q.1 + 1 == i && q.2.category == 2))))) : xLv B n ((xst lv i w).set (i + 1) .null) ls' := by
  refine ⟨h.1, h.2.1, fun j x hj hx => ?_⟩
  by_cases hj1 : j = i + 1
  · subst hj1
    rcases Nat.lt_or_ge (i + 1) (xst lv i w).length with z | z
    · rw [List.getElem?_set_self z] at hj
      exact absurd (Option.some.inj hj).symm hx
    · rw [List.getElem?_eq_none (by rw [List.length_set]; exact z)] at hj
      cases hj
  · rw [List.getElem?_set_ne (Ne.symm hj1)] at hj
    rcases xst_at hj hx with ⟨rfl, rfl⟩ | ⟨h1, h2, h3⟩
    · exact h.2.2 (j, xv B x) (List.mem_cons_self ..)
    · refine h.2.2 (j, xv B x) (List.mem_cons_of_mem _ (List.mem_filter.mpr ⟨xas_mem h2 hx, ?_⟩))
      simp only [Bool.and_eq_true, Bool.not_eq_true', beq_eq_false_iff_ne, ne_eq, Bool.and_eq_false_iff]
      refine ⟨h1, hj1, ?_⟩
      by_cases hi : j + 1 = i
      · exact Or.inr (fun z => h3 ⟨hi, by rw [← xv_cat B]; exact z⟩)
      · exact Or.inl hi
section XE
variable {xs : Nat → Int32} {L : Nat} {M : xM} {pc : Nat} {lv st : List Value} {G G' : xG} {σ : xS} {Q : Option Value → xS → Prop}
theorem Ev.mono {Q2 : Option Value → xS → Prop} (h : ∀ v t, Q v t → Q2 v t) (k : Ev xs L M pc lv st G σ G' Q) : Ev xs L M pc lv st G σ G' Q2 := by
  intro l B p e R s mid args below meth c H locs cells slots ls QQ hC hR hW hS hL kr
  exact k l B p e R s mid args below meth c H locs cells slots ls QQ hC hR hW hS hL (fun v t H' locs' ls' pc' hq => kr v t H' locs' ls' pc' (h v t hq))
theorem xe_iconst {n : Int} {v : Int32} (hd : decode M.2.1 pc = .ok (.iconst n, 1)) (hv : Int32.ofInt n = v) (k : Ev xs L M (pc + 1) lv (.int v :: st) G σ G' Q) : Ev xs L M pc lv st G σ G' Q := by
  intro l B p e R s mid args below meth c H locs cells slots ls QQ hC hR hW hS hL kr
  exact lv_iconst hC.1 hC.2.1 hd hv (k l B p e R s mid args below meth c H locs cells slots ls QQ hC hR hW hS hL kr)
theorem xe_bipush {n : Int} {v : Int32} (hd : decode M.2.1 pc = .ok (.bipush n, 2)) (hv : (Int8.ofInt n).toInt32 = v) (k : Ev xs L M (pc + 2) lv (.int v :: st) G σ G' Q) : Ev xs L M pc lv st G σ G' Q := by
  intro l B p e R s mid args below meth c H locs cells slots ls QQ hC hR hW hS hL kr
  exact lv_bipush hC.1 hC.2.1 hd hv (k l B p e R s mid args below meth c H locs cells slots ls QQ hC hR hW hS hL kr)
theorem xe_sipush {n : Int} {v : Int32} (hd : decode M.2.1 pc = .ok (.sipush n, 3)) (hv : (Int16.ofInt n).toInt32 = v) (k : Ev xs L M (pc + 3) lv (.int v :: st) G σ G' Q) : Ev xs L M pc lv st G σ G' Q := by
  intro l B p e R s mid args below meth c H locs cells slots ls QQ hC hR hW hS hL kr
  exact lv_sipush hC.1 hC.2.1 hd hv (k l B p e R s mid args below meth c H locs cells slots ls QQ hC hR hW hS hL kr)
theorem xe_lconst {n : Fin 2} {v : Int64} (hd : decode M.2.1 pc = .ok (.lconst n, 1)) (hv : Int64.ofNat (n : Nat) = v) (k : Ev xs L M (pc + 1) lv (.long v :: st) G σ G' Q) : Ev xs L M pc lv st G σ G' Q := by
  intro l B p e R s mid args below meth c H locs cells slots ls QQ hC hR hW hS hL kr
  exact lv_lconst hC.1 hC.2.1 hd hv (k l B p e R s mid args below meth c H locs cells slots ls QQ hC hR hW hS hL kr)
theorem xe_iload_n {i : Fin 4} {x : Int32} (hd : decode M.2.1 pc = .ok (.iload_n i, 1)) (hl : lv[(i : Nat)]? = some (.int x)) (k : Ev xs L M (pc + 1) lv (.int x :: st) G σ G' Q) : Ev xs L M pc lv st G σ G' Q := by
  intro l B p e R s mid args below meth c H locs cells slots ls QQ hC hR hW hS hL kr
  exact lv_iload_n hC.1 hC.2.1 hd rfl (hL.2.2 _ _ hl (fun z => by cases z)) (k l B p e R s mid args below meth c H locs cells slots ls QQ hC hR hW hS hL kr)
theorem xe_iload {i : Nat} {x : Int32} (hd : decode M.2.1 pc = .ok (.iload i, 2)) (hl : lv[i]? = some (.int x)) (k : Ev xs L M (pc + 2) lv (.int x :: st) G σ G' Q) : Ev xs L M pc lv st G σ G' Q := by
  intro l B p e R s mid args below meth c H locs cells slots ls QQ hC hR hW hS hL kr
  exact lv_iload hC.1 hC.2.1 hd (hL.2.2 _ _ hl (fun z => by cases z)) (k l B p e R s mid args below meth c H locs cells slots ls QQ hC hR hW hS hL kr)
theorem xe_lload_n {i : Fin 4} {x : Int64} (hd : decode M.2.1 pc = .ok (.lload_n i, 1)) (hl : lv[(i : Nat)]? = some (.long x)) (k : Ev xs L M (pc + 1) lv (.long x :: st) G σ G' Q) : Ev xs L M pc lv st G σ G' Q := by
  intro l B p e R s mid args below meth c H locs cells slots ls QQ hC hR hW hS hL kr
  exact lv_lload_n hC.1 hC.2.1 hd rfl (hL.2.2 _ _ hl (fun z => by cases z)) (k l B p e R s mid args below meth c H locs cells slots ls QQ hC hR hW hS hL kr)
theorem xe_lload {i : Nat} {x : Int64} (hd : decode M.2.1 pc = .ok (.lload i, 2)) (hl : lv[i]? = some (.long x)) (k : Ev xs L M (pc + 2) lv (.long x :: st) G σ G' Q) : Ev xs L M pc lv st G σ G' Q := by
  intro l B p e R s mid args below meth c H locs cells slots ls QQ hC hR hW hS hL kr
  exact lv_lload hC.1 hC.2.1 hd (hL.2.2 _ _ hl (fun z => by cases z)) (k l B p e R s mid args below meth c H locs cells slots ls QQ hC hR hW hS hL kr)
theorem xe_aload_n {i : Fin 4} {r : Nat} (hd : decode M.2.1 pc = .ok (.aload_n i, 1)) (hl : lv[(i : Nat)]? = some (.ref r)) (k : Ev xs L M (pc + 1) lv (.ref r :: st) G σ G' Q) : Ev xs L M pc lv st G σ G' Q := by
  intro l B p e R s mid args below meth c H locs cells slots ls QQ hC hR hW hS hL kr
  have hg := hL.2.2 _ _ hl (fun z => by cases z)
  have k := k l B p e R s mid args below meth c H locs cells slots ls QQ hC hR hW hS hL kr
  by_cases hr : r = 0
  · have e1 : xv B (.ref r) = .null := by simp only [xv, if_pos hr]
    rw [e1] at hg
    rw [List.map_cons, e1] at k
    exact lv_aload_nN hC.1 hC.2.1 hd rfl hg k
  · have e1 : xv B (.ref r) = .ref (B.1 + (r - 1)) := by simp only [xv, if_neg hr]
    rw [e1] at hg
    rw [List.map_cons, e1] at k
    exact lv_aload_n hC.1 hC.2.1 hd rfl hg k
theorem xe_aload_nT {i : Fin 4} {z : UInt32} (hd : decode M.2.1 pc = .ok (.aload_n i, 1)) (hl : lv[(i : Nat)]? = some (.float z)) (k : Ev xs L M (pc + 1) lv (.float z :: st) G σ G' Q) : Ev xs L M pc lv st G σ G' Q := by
  intro l B p e R s mid args below meth c H locs cells slots ls QQ hC hR hW hS hL kr
  exact lv_aload_n hC.1 hC.2.1 hd rfl (hL.2.2 _ _ hl (fun z => by cases z)) (k l B p e R s mid args below meth c H locs cells slots ls QQ hC hR hW hS hL kr)
theorem xe_aload {i : Nat} {r : Nat} (hd : decode M.2.1 pc = .ok (.aload i, 2)) (hl : lv[i]? = some (.ref r)) (k : Ev xs L M (pc + 2) lv (.ref r :: st) G σ G' Q) : Ev xs L M pc lv st G σ G' Q := by
  intro l B p e R s mid args below meth c H locs cells slots ls QQ hC hR hW hS hL kr
  have hg := hL.2.2 _ _ hl (fun z => by cases z)
  have k := k l B p e R s mid args below meth c H locs cells slots ls QQ hC hR hW hS hL kr
  by_cases hr : r = 0
  · have e1 : xv B (.ref r) = .null := by simp only [xv, if_pos hr]
    rw [e1] at hg
    rw [List.map_cons, e1] at k
    exact lv_aloadN hC.1 hC.2.1 hd hg k
  · have e1 : xv B (.ref r) = .ref (B.1 + (r - 1)) := by simp only [xv, if_neg hr]
    rw [e1] at hg
    rw [List.map_cons, e1] at k
    exact lv_aload hC.1 hC.2.1 hd hg k
theorem xe_aloadT {i : Nat} {z : UInt32} (hd : decode M.2.1 pc = .ok (.aload i, 2)) (hl : lv[i]? = some (.float z)) (k : Ev xs L M (pc + 2) lv (.float z :: st) G σ G' Q) : Ev xs L M pc lv st G σ G' Q := by
  intro l B p e R s mid args below meth c H locs cells slots ls QQ hC hR hW hS hL kr
  exact lv_aload hC.1 hC.2.1 hd (hL.2.2 _ _ hl (fun z => by cases z)) (k l B p e R s mid args below meth c H locs cells slots ls QQ hC hR hW hS hL kr)
theorem xe_istore_n {i : Fin 4} {x : Int32} (hd : decode M.2.1 pc = .ok (.istore_n i, 1)) (hn : (i : Nat) < M.2.2.1) (k : Ev xs L M (pc + 1) (xst lv i (.int x)) st G σ G' Q) : Ev xs L M pc lv (.int x :: st) G σ G' Q := by
  intro l B p e R s mid args below meth c H locs cells slots ls QQ hC hR hW hS hL kr
  exact lv_istore_n hC.1 hC.2.1 hd rfl hL.has hn rfl (fun ls2 h2 => (k l B p e R s mid args below meth c H locs cells slots ls2 QQ hC hR hW hS (xLv.st1 (w := .int x) h2) kr))
theorem xe_istore {i : Nat} {x : Int32} (hd : decode M.2.1 pc = .ok (.istore i, 2)) (hn : i < M.2.2.1) (k : Ev xs L M (pc + 2) (xst lv i (.int x)) st G σ G' Q) : Ev xs L M pc lv (.int x :: st) G σ G' Q := by
  intro l B p e R s mid args below meth c H locs cells slots ls QQ hC hR hW hS hL kr
  exact lv_istore hC.1 hC.2.1 hd hL.has hn rfl (fun ls2 h2 => (k l B p e R s mid args below meth c H locs cells slots ls2 QQ hC hR hW hS (xLv.st1 (w := .int x) h2) kr))
theorem xe_lstore_n {i : Fin 4} {x : Int64} (hd : decode M.2.1 pc = .ok (.lstore_n i, 1)) (hn : (i : Nat) + 1 < M.2.2.1) (k : Ev xs L M (pc + 1) ((xst lv i (.long x)).set ((i : Nat) + 1) .null) st G σ G' Q) : Ev xs L M pc lv (.long x :: st) G σ G' Q := by
  intro l B p e R s mid args below meth c H locs cells slots ls QQ hC hR hW hS hL kr
  exact lv_lstore_n hC.1 hC.2.1 hd rfl hL.has hn rfl (fun ls2 h2 => (k l B p e R s mid args below meth c H locs cells slots ls2 QQ hC hR hW hS (xLv.st2 (w := .long x) h2) kr))
theorem xe_astore_n {i : Fin 4} {r : Nat} (hd : decode M.2.1 pc = .ok (.astore_n i, 1)) (hn : (i : Nat) < M.2.2.1) (k : Ev xs L M (pc + 1) (xst lv i (.ref r)) st G σ G' Q) : Ev xs L M pc lv (.ref r :: st) G σ G' Q := by
  intro l B p e R s mid args below meth c H locs cells slots ls QQ hC hR hW hS hL kr
  by_cases hr : r = 0
  · have e1 : xv B (.ref r) = .null := by simp only [xv, if_pos hr]
    rw [List.map_cons, e1]
    exact lv_astore_nN hC.1 hC.2.1 hd rfl hL.has hn rfl (fun ls2 h2 => (k l B p e R s mid args below meth c H locs cells slots ls2 QQ hC hR hW hS (xLv.st1 (w := .ref r) (by rw [e1]; exact h2)) kr))
  · have e1 : xv B (.ref r) = .ref (B.1 + (r - 1)) := by simp only [xv, if_neg hr]
    rw [List.map_cons, e1]
    exact lv_astore_n hC.1 hC.2.1 hd rfl hL.has hn rfl (fun ls2 h2 => (k l B p e R s mid args below meth c H locs cells slots ls2 QQ hC hR hW hS (xLv.st1 (w := .ref r) (by rw [e1]; exact h2)) kr))
theorem xe_iinc {i : Nat} {n : Int} {x v : Int32} (hd : decode M.2.1 pc = .ok (.iinc i n, 3)) (hl : lv[i]? = some (.int x)) (hv : x + Int32.ofInt n = v) (hn : i < M.2.2.1) (k : Ev xs L M (pc + 3) (xst lv i (.int v)) st G σ G' Q) : Ev xs L M pc lv st G σ G' Q := by
  intro l B p e R s mid args below meth c H locs cells slots ls QQ hC hR hW hS hL kr
  obtain ⟨q, hq⟩ := List.getElem?_of_mem (xas_mem (B := B) hl (fun z => by cases z))
  exact lv_iinc hC.1 hC.2.1 hd hL.has hq hv hn rfl (fun ls2 h2 => (k l B p e R s mid args below meth c H locs cells slots ls2 QQ hC hR hW hS (xLv.st1 (w := .int v) h2) kr))
theorem xe_iadd {x y : Int32} (hd : decode M.2.1 pc = .ok (.iadd, 1)) (k : Ev xs L M (pc + 1) lv (.int (x + y) :: st) G σ G' Q) : Ev xs L M pc lv (.int y :: .int x :: st) G σ G' Q := by
  intro l B p e R s mid args below meth c H locs cells slots ls QQ hC hR hW hS hL kr
  exact lv_iadd hC.1 hC.2.1 hd (k l B p e R s mid args below meth c H locs cells slots ls QQ hC hR hW hS hL kr)
theorem xe_isub {x y : Int32} (hd : decode M.2.1 pc = .ok (.isub, 1)) (k : Ev xs L M (pc + 1) lv (.int (x - y) :: st) G σ G' Q) : Ev xs L M pc lv (.int y :: .int x :: st) G σ G' Q := by
  intro l B p e R s mid args below meth c H locs cells slots ls QQ hC hR hW hS hL kr
  exact lv_isub hC.1 hC.2.1 hd (k l B p e R s mid args below meth c H locs cells slots ls QQ hC hR hW hS hL kr)
theorem xe_imul {x y : Int32} (hd : decode M.2.1 pc = .ok (.imul, 1)) (k : Ev xs L M (pc + 1) lv (.int (x * y) :: st) G σ G' Q) : Ev xs L M pc lv (.int y :: .int x :: st) G σ G' Q := by
  intro l B p e R s mid args below meth c H locs cells slots ls QQ hC hR hW hS hL kr
  exact lv_imul hC.1 hC.2.1 hd (k l B p e R s mid args below meth c H locs cells slots ls QQ hC hR hW hS hL kr)
theorem xe_iand {x y : Int32} (hd : decode M.2.1 pc = .ok (.iand, 1)) (k : Ev xs L M (pc + 1) lv (.int (x &&& y) :: st) G σ G' Q) : Ev xs L M pc lv (.int y :: .int x :: st) G σ G' Q := by
  intro l B p e R s mid args below meth c H locs cells slots ls QQ hC hR hW hS hL kr
  exact lv_iand hC.1 hC.2.1 hd (k l B p e R s mid args below meth c H locs cells slots ls QQ hC hR hW hS hL kr)
theorem xe_ior {x y : Int32} (hd : decode M.2.1 pc = .ok (.ior, 1)) (k : Ev xs L M (pc + 1) lv (.int (x ||| y) :: st) G σ G' Q) : Ev xs L M pc lv (.int y :: .int x :: st) G σ G' Q := by
  intro l B p e R s mid args below meth c H locs cells slots ls QQ hC hR hW hS hL kr
  exact lv_ior hC.1 hC.2.1 hd (k l B p e R s mid args below meth c H locs cells slots ls QQ hC hR hW hS hL kr)
theorem xe_ixor {x y : Int32} (hd : decode M.2.1 pc = .ok (.ixor, 1)) (k : Ev xs L M (pc + 1) lv (.int (x ^^^ y) :: st) G σ G' Q) : Ev xs L M pc lv (.int y :: .int x :: st) G σ G' Q := by
  intro l B p e R s mid args below meth c H locs cells slots ls QQ hC hR hW hS hL kr
  exact lv_ixor hC.1 hC.2.1 hd (k l B p e R s mid args below meth c H locs cells slots ls QQ hC hR hW hS hL kr)
theorem xe_ishl {x y : Int32} (hd : decode M.2.1 pc = .ok (.ishl, 1)) (k : Ev xs L M (pc + 1) lv (.int (x <<< (y &&& 31)) :: st) G σ G' Q) : Ev xs L M pc lv (.int y :: .int x :: st) G σ G' Q := by
  intro l B p e R s mid args below meth c H locs cells slots ls QQ hC hR hW hS hL kr
  exact lv_ishl hC.1 hC.2.1 hd (k l B p e R s mid args below meth c H locs cells slots ls QQ hC hR hW hS hL kr)
theorem xe_ishr {x y : Int32} (hd : decode M.2.1 pc = .ok (.ishr, 1)) (k : Ev xs L M (pc + 1) lv (.int (x >>> (y &&& 31)) :: st) G σ G' Q) : Ev xs L M pc lv (.int y :: .int x :: st) G σ G' Q := by
  intro l B p e R s mid args below meth c H locs cells slots ls QQ hC hR hW hS hL kr
  exact lv_ishr hC.1 hC.2.1 hd (k l B p e R s mid args below meth c H locs cells slots ls QQ hC hR hW hS hL kr)
theorem xe_idiv {x y : Int32} (hd : decode M.2.1 pc = .ok (.idiv, 1)) (hne : ¬ y = 0) (k : Ev xs L M (pc + 1) lv (.int (x / y) :: st) G σ G' Q) : Ev xs L M pc lv (.int y :: .int x :: st) G σ G' Q := by
  intro l B p e R s mid args below meth c H locs cells slots ls QQ hC hR hW hS hL kr
  exact lv_idiv hC.1 hC.2.1 hd hne (k l B p e R s mid args below meth c H locs cells slots ls QQ hC hR hW hS hL kr)
theorem xe_irem {x y : Int32} (hd : decode M.2.1 pc = .ok (.irem, 1)) (hne : ¬ y = 0) (k : Ev xs L M (pc + 1) lv (.int (x - x / y * y) :: st) G σ G' Q) : Ev xs L M pc lv (.int y :: .int x :: st) G σ G' Q := by
  intro l B p e R s mid args below meth c H locs cells slots ls QQ hC hR hW hS hL kr
  exact lv_irem hC.1 hC.2.1 hd hne (k l B p e R s mid args below meth c H locs cells slots ls QQ hC hR hW hS hL kr)
theorem xe_ineg {x : Int32} (hd : decode M.2.1 pc = .ok (.ineg, 1)) (k : Ev xs L M (pc + 1) lv (.int (-x) :: st) G σ G' Q) : Ev xs L M pc lv (.int x :: st) G σ G' Q := by
  intro l B p e R s mid args below meth c H locs cells slots ls QQ hC hR hW hS hL kr
  exact lv_ineg hC.1 hC.2.1 hd (k l B p e R s mid args below meth c H locs cells slots ls QQ hC hR hW hS hL kr)
theorem xe_iushr {x y : Int32} (hd : decode M.2.1 pc = .ok (.iushr, 1)) (k : Ev xs L M (pc + 1) lv (.int (x.toUInt32 >>> (y.toUInt32 &&& Int32.toUInt32 31)).toInt32 :: st) G σ G' Q) : Ev xs L M pc lv (.int y :: .int x :: st) G σ G' Q := by
  intro l B p e R s mid args below meth c H locs cells slots ls QQ hC hR hW hS hL kr
  exact lv_iushr hC.1 hC.2.1 hd rfl (k l B p e R s mid args below meth c H locs cells slots ls QQ hC hR hW hS hL kr)
theorem xe_ladd {x y : Int64} (hd : decode M.2.1 pc = .ok (.ladd, 1)) (k : Ev xs L M (pc + 1) lv (.long (x + y) :: st) G σ G' Q) : Ev xs L M pc lv (.long y :: .long x :: st) G σ G' Q := by
  intro l B p e R s mid args below meth c H locs cells slots ls QQ hC hR hW hS hL kr
  exact lv_ladd hC.1 hC.2.1 hd (k l B p e R s mid args below meth c H locs cells slots ls QQ hC hR hW hS hL kr)
theorem xe_lsub {x y : Int64} (hd : decode M.2.1 pc = .ok (.lsub, 1)) (k : Ev xs L M (pc + 1) lv (.long (x - y) :: st) G σ G' Q) : Ev xs L M pc lv (.long y :: .long x :: st) G σ G' Q := by
  intro l B p e R s mid args below meth c H locs cells slots ls QQ hC hR hW hS hL kr
  exact lv_lsub hC.1 hC.2.1 hd (k l B p e R s mid args below meth c H locs cells slots ls QQ hC hR hW hS hL kr)
theorem xe_lmul {x y : Int64} (hd : decode M.2.1 pc = .ok (.lmul, 1)) (k : Ev xs L M (pc + 1) lv (.long (x * y) :: st) G σ G' Q) : Ev xs L M pc lv (.long y :: .long x :: st) G σ G' Q := by
  intro l B p e R s mid args below meth c H locs cells slots ls QQ hC hR hW hS hL kr
  exact lv_lmul hC.1 hC.2.1 hd (k l B p e R s mid args below meth c H locs cells slots ls QQ hC hR hW hS hL kr)
theorem xe_land {x y : Int64} (hd : decode M.2.1 pc = .ok (.land, 1)) (k : Ev xs L M (pc + 1) lv (.long (x &&& y) :: st) G σ G' Q) : Ev xs L M pc lv (.long y :: .long x :: st) G σ G' Q := by
  intro l B p e R s mid args below meth c H locs cells slots ls QQ hC hR hW hS hL kr
  exact lv_land hC.1 hC.2.1 hd (k l B p e R s mid args below meth c H locs cells slots ls QQ hC hR hW hS hL kr)
theorem xe_lor {x y : Int64} (hd : decode M.2.1 pc = .ok (.lor, 1)) (k : Ev xs L M (pc + 1) lv (.long (x ||| y) :: st) G σ G' Q) : Ev xs L M pc lv (.long y :: .long x :: st) G σ G' Q := by
  intro l B p e R s mid args below meth c H locs cells slots ls QQ hC hR hW hS hL kr
  exact lv_lor hC.1 hC.2.1 hd (k l B p e R s mid args below meth c H locs cells slots ls QQ hC hR hW hS hL kr)
theorem xe_ldiv {x y : Int64} (hd : decode M.2.1 pc = .ok (.ldiv, 1)) (hne : ¬ y = 0) (k : Ev xs L M (pc + 1) lv (.long (x / y) :: st) G σ G' Q) : Ev xs L M pc lv (.long y :: .long x :: st) G σ G' Q := by
  intro l B p e R s mid args below meth c H locs cells slots ls QQ hC hR hW hS hL kr
  exact lv_ldiv hC.1 hC.2.1 hd hne (k l B p e R s mid args below meth c H locs cells slots ls QQ hC hR hW hS hL kr)
theorem xe_lrem {x y : Int64} (hd : decode M.2.1 pc = .ok (.lrem, 1)) (hne : ¬ y = 0) (k : Ev xs L M (pc + 1) lv (.long (x - x / y * y) :: st) G σ G' Q) : Ev xs L M pc lv (.long y :: .long x :: st) G σ G' Q := by
  intro l B p e R s mid args below meth c H locs cells slots ls QQ hC hR hW hS hL kr
  exact lv_lrem hC.1 hC.2.1 hd hne (k l B p e R s mid args below meth c H locs cells slots ls QQ hC hR hW hS hL kr)
theorem xe_lshl {x : Int64} {y : Int32} (hd : decode M.2.1 pc = .ok (.lshl, 1)) (k : Ev xs L M (pc + 1) lv (.long (x <<< (y.toInt64 &&& 63)) :: st) G σ G' Q) : Ev xs L M pc lv (.int y :: .long x :: st) G σ G' Q := by
  intro l B p e R s mid args below meth c H locs cells slots ls QQ hC hR hW hS hL kr
  exact lv_lshl hC.1 hC.2.1 hd rfl (k l B p e R s mid args below meth c H locs cells slots ls QQ hC hR hW hS hL kr)
theorem xe_lshr {x : Int64} {y : Int32} (hd : decode M.2.1 pc = .ok (.lshr, 1)) (k : Ev xs L M (pc + 1) lv (.long (x >>> (y.toInt64 &&& 63)) :: st) G σ G' Q) : Ev xs L M pc lv (.int y :: .long x :: st) G σ G' Q := by
  intro l B p e R s mid args below meth c H locs cells slots ls QQ hC hR hW hS hL kr
  exact lv_lshr hC.1 hC.2.1 hd rfl (k l B p e R s mid args below meth c H locs cells slots ls QQ hC hR hW hS hL kr)
theorem xe_lushr {x : Int64} {y : Int32} (hd : decode M.2.1 pc = .ok (.lushr, 1)) (k : Ev xs L M (pc + 1) lv (.long ((x.toUInt64 >>> (y.toInt64.toUInt64 &&& Int64.toUInt64 63)).toInt64) :: st) G σ G' Q) : Ev xs L M pc lv (.int y :: .long x :: st) G σ G' Q := by
  intro l B p e R s mid args below meth c H locs cells slots ls QQ hC hR hW hS hL kr
  exact lv_lushr hC.1 hC.2.1 hd rfl (k l B p e R s mid args below meth c H locs cells slots ls QQ hC hR hW hS hL kr)
theorem xe_i2l {x : Int32} (hd : decode M.2.1 pc = .ok (.i2l, 1)) (k : Ev xs L M (pc + 1) lv (.long x.toInt64 :: st) G σ G' Q) : Ev xs L M pc lv (.int x :: st) G σ G' Q := by
  intro l B p e R s mid args below meth c H locs cells slots ls QQ hC hR hW hS hL kr
  exact lv_i2l hC.1 hC.2.1 hd rfl (k l B p e R s mid args below meth c H locs cells slots ls QQ hC hR hW hS hL kr)
theorem xe_l2i {x : Int64} (hd : decode M.2.1 pc = .ok (.l2i, 1)) (k : Ev xs L M (pc + 1) lv (.int x.toInt32 :: st) G σ G' Q) : Ev xs L M pc lv (.long x :: st) G σ G' Q := by
  intro l B p e R s mid args below meth c H locs cells slots ls QQ hC hR hW hS hL kr
  exact lv_l2i hC.1 hC.2.1 hd rfl (k l B p e R s mid args below meth c H locs cells slots ls QQ hC hR hW hS hL kr)
theorem xe_lcmp {x y : Int64} (hd : decode M.2.1 pc = .ok (.lcmp, 1)) (k : Ev xs L M (pc + 1) lv (.int (lg_cmp x y) :: st) G σ G' Q) : Ev xs L M pc lv (.long y :: .long x :: st) G σ G' Q := by
  intro l B p e R s mid args below meth c H locs cells slots ls QQ hC hR hW hS hL kr
  exact W.lcmp hC.1 hC.2.1 hd (k l B p e R s mid args below meth c H locs cells slots ls QQ hC hR hW hS hL kr)
theorem xe_dup {v : Value} (hd : decode M.2.1 pc = .ok (.dup, 1)) (hv : v.category = 1) (k : Ev xs L M (pc + 1) lv (v :: v :: st) G σ G' Q) : Ev xs L M pc lv (v :: st) G σ G' Q := by
  intro l B p e R s mid args below meth c H locs cells slots ls QQ hC hR hW hS hL kr
  exact lv_dup hC.1 hC.2.1 hd ((xv_cat B v).trans hv) (k l B p e R s mid args below meth c H locs cells slots ls QQ hC hR hW hS hL kr)
theorem xe_pop {v : Value} (hd : decode M.2.1 pc = .ok (.pop, 1)) (hv : v.category = 1) (k : Ev xs L M (pc + 1) lv st G σ G' Q) : Ev xs L M pc lv (v :: st) G σ G' Q := by
  intro l B p e R s mid args below meth c H locs cells slots ls QQ hC hR hW hS hL kr
  exact lv_pop hC.1 hC.2.1 hd ((xv_cat B v).trans hv) (k l B p e R s mid args below meth c H locs cells slots ls QQ hC hR hW hS hL kr)
theorem xe_dup2 {v w : Value} (hd : decode M.2.1 pc = .ok (.dup2, 1)) (hv : v.category = 1) (hw : w.category = 1) (k : Ev xs L M (pc + 1) lv (v :: w :: v :: w :: st) G σ G' Q) : Ev xs L M pc lv (v :: w :: st) G σ G' Q := by
  intro l B p e R s mid args below meth c H locs cells slots ls QQ hC hR hW hS hL kr
  exact lv_dup2_11 hC.1 hC.2.1 hd ((xv_cat B v).trans hv) ((xv_cat B w).trans hw) (k l B p e R s mid args below meth c H locs cells slots ls QQ hC hR hW hS hL kr)
theorem xe_icmp_eq {x y : Int32} {off : Int} (tgt : Nat) (hd : decode M.2.1 pc = .ok (.if_icmp .eq off, 3)) (ht : (pc : Int) + off = (tgt : Int)) (k1 : x = y → Ev xs L M tgt lv st G σ G' Q) (k2 : ¬ x = y → Ev xs L M (pc + 3) lv st G σ G' Q) : Ev xs L M pc lv (.int y :: .int x :: st) G σ G' Q := by
  intro l B p e R s mid args below meth c H locs cells slots ls QQ hC hR hW hS hL kr
  exact lv_icmp_eq hC.1 hC.2.1 hd ht (fun h => k1 h l B p e R s mid args below meth c H locs cells slots ls QQ hC hR hW hS hL kr) (fun h => k2 h l B p e R s mid args below meth c H locs cells slots ls QQ hC hR hW hS hL kr)
theorem xe_if_eq {x : Int32} {off : Int} (tgt : Nat) (hd : decode M.2.1 pc = .ok (.ifCond .eq off, 3)) (ht : (pc : Int) + off = (tgt : Int)) (k1 : x = 0 → Ev xs L M tgt lv st G σ G' Q) (k2 : ¬ x = 0 → Ev xs L M (pc + 3) lv st G σ G' Q) : Ev xs L M pc lv (.int x :: st) G σ G' Q := by
  intro l B p e R s mid args below meth c H locs cells slots ls QQ hC hR hW hS hL kr
  exact lv_if_eq hC.1 hC.2.1 hd ht (fun h => k1 h l B p e R s mid args below meth c H locs cells slots ls QQ hC hR hW hS hL kr) (fun h => k2 h l B p e R s mid args below meth c H locs cells slots ls QQ hC hR hW hS hL kr)
theorem xe_icmp_ne {x y : Int32} {off : Int} (tgt : Nat) (hd : decode M.2.1 pc = .ok (.if_icmp .ne off, 3)) (ht : (pc : Int) + off = (tgt : Int)) (k1 : ¬ x = y → Ev xs L M tgt lv st G σ G' Q) (k2 : x = y → Ev xs L M (pc + 3) lv st G σ G' Q) : Ev xs L M pc lv (.int y :: .int x :: st) G σ G' Q := by
  intro l B p e R s mid args below meth c H locs cells slots ls QQ hC hR hW hS hL kr
  exact lv_icmp_ne hC.1 hC.2.1 hd ht (fun h => k1 h l B p e R s mid args below meth c H locs cells slots ls QQ hC hR hW hS hL kr) (fun h => k2 h l B p e R s mid args below meth c H locs cells slots ls QQ hC hR hW hS hL kr)
theorem xe_if_ne {x : Int32} {off : Int} (tgt : Nat) (hd : decode M.2.1 pc = .ok (.ifCond .ne off, 3)) (ht : (pc : Int) + off = (tgt : Int)) (k1 : ¬ x = 0 → Ev xs L M tgt lv st G σ G' Q) (k2 : x = 0 → Ev xs L M (pc + 3) lv st G σ G' Q) : Ev xs L M pc lv (.int x :: st) G σ G' Q := by
  intro l B p e R s mid args below meth c H locs cells slots ls QQ hC hR hW hS hL kr
  exact lv_if_ne hC.1 hC.2.1 hd ht (fun h => k1 h l B p e R s mid args below meth c H locs cells slots ls QQ hC hR hW hS hL kr) (fun h => k2 h l B p e R s mid args below meth c H locs cells slots ls QQ hC hR hW hS hL kr)
theorem xe_icmp_lt {x y : Int32} {off : Int} (tgt : Nat) (hd : decode M.2.1 pc = .ok (.if_icmp .lt off, 3)) (ht : (pc : Int) + off = (tgt : Int)) (k1 : x < y → Ev xs L M tgt lv st G σ G' Q) (k2 : ¬ x < y → Ev xs L M (pc + 3) lv st G σ G' Q) : Ev xs L M pc lv (.int y :: .int x :: st) G σ G' Q := by
  intro l B p e R s mid args below meth c H locs cells slots ls QQ hC hR hW hS hL kr
  exact lv_icmp_lt hC.1 hC.2.1 hd ht (fun h => k1 h l B p e R s mid args below meth c H locs cells slots ls QQ hC hR hW hS hL kr) (fun h => k2 h l B p e R s mid args below meth c H locs cells slots ls QQ hC hR hW hS hL kr)
theorem xe_if_lt {x : Int32} {off : Int} (tgt : Nat) (hd : decode M.2.1 pc = .ok (.ifCond .lt off, 3)) (ht : (pc : Int) + off = (tgt : Int)) (k1 : x < 0 → Ev xs L M tgt lv st G σ G' Q) (k2 : ¬ x < 0 → Ev xs L M (pc + 3) lv st G σ G' Q) : Ev xs L M pc lv (.int x :: st) G σ G' Q := by
  intro l B p e R s mid args below meth c H locs cells slots ls QQ hC hR hW hS hL kr
  exact lv_if_lt hC.1 hC.2.1 hd ht (fun h => k1 h l B p e R s mid args below meth c H locs cells slots ls QQ hC hR hW hS hL kr) (fun h => k2 h l B p e R s mid args below meth c H locs cells slots ls QQ hC hR hW hS hL kr)
theorem xe_icmp_ge {x y : Int32} {off : Int} (tgt : Nat) (hd : decode M.2.1 pc = .ok (.if_icmp .ge off, 3)) (ht : (pc : Int) + off = (tgt : Int)) (k1 : y ≤ x → Ev xs L M tgt lv st G σ G' Q) (k2 : ¬ y ≤ x → Ev xs L M (pc + 3) lv st G σ G' Q) : Ev xs L M pc lv (.int y :: .int x :: st) G σ G' Q := by
  intro l B p e R s mid args below meth c H locs cells slots ls QQ hC hR hW hS hL kr
  exact lv_icmp_ge hC.1 hC.2.1 hd ht (fun h => k1 h l B p e R s mid args below meth c H locs cells slots ls QQ hC hR hW hS hL kr) (fun h => k2 h l B p e R s mid args below meth c H locs cells slots ls QQ hC hR hW hS hL kr)
theorem xe_if_ge {x : Int32} {off : Int} (tgt : Nat) (hd : decode M.2.1 pc = .ok (.ifCond .ge off, 3)) (ht : (pc : Int) + off = (tgt : Int)) (k1 : 0 ≤ x → Ev xs L M tgt lv st G σ G' Q) (k2 : ¬ 0 ≤ x → Ev xs L M (pc + 3) lv st G σ G' Q) : Ev xs L M pc lv (.int x :: st) G σ G' Q := by
  intro l B p e R s mid args below meth c H locs cells slots ls QQ hC hR hW hS hL kr
  exact lv_if_ge hC.1 hC.2.1 hd ht (fun h => k1 h l B p e R s mid args below meth c H locs cells slots ls QQ hC hR hW hS hL kr) (fun h => k2 h l B p e R s mid args below meth c H locs cells slots ls QQ hC hR hW hS hL kr)
theorem xe_icmp_gt {x y : Int32} {off : Int} (tgt : Nat) (hd : decode M.2.1 pc = .ok (.if_icmp .gt off, 3)) (ht : (pc : Int) + off = (tgt : Int)) (k1 : y < x → Ev xs L M tgt lv st G σ G' Q) (k2 : ¬ y < x → Ev xs L M (pc + 3) lv st G σ G' Q) : Ev xs L M pc lv (.int y :: .int x :: st) G σ G' Q := by
  intro l B p e R s mid args below meth c H locs cells slots ls QQ hC hR hW hS hL kr
  exact lv_icmp_gt hC.1 hC.2.1 hd ht (fun h => k1 h l B p e R s mid args below meth c H locs cells slots ls QQ hC hR hW hS hL kr) (fun h => k2 h l B p e R s mid args below meth c H locs cells slots ls QQ hC hR hW hS hL kr)
theorem xe_if_gt {x : Int32} {off : Int} (tgt : Nat) (hd : decode M.2.1 pc = .ok (.ifCond .gt off, 3)) (ht : (pc : Int) + off = (tgt : Int)) (k1 : 0 < x → Ev xs L M tgt lv st G σ G' Q) (k2 : ¬ 0 < x → Ev xs L M (pc + 3) lv st G σ G' Q) : Ev xs L M pc lv (.int x :: st) G σ G' Q := by
  intro l B p e R s mid args below meth c H locs cells slots ls QQ hC hR hW hS hL kr
  exact lv_if_gt hC.1 hC.2.1 hd ht (fun h => k1 h l B p e R s mid args below meth c H locs cells slots ls QQ hC hR hW hS hL kr) (fun h => k2 h l B p e R s mid args below meth c H locs cells slots ls QQ hC hR hW hS hL kr)
theorem xe_icmp_le {x y : Int32} {off : Int} (tgt : Nat) (hd : decode M.2.1 pc = .ok (.if_icmp .le off, 3)) (ht : (pc : Int) + off = (tgt : Int)) (k1 : x ≤ y → Ev xs L M tgt lv st G σ G' Q) (k2 : ¬ x ≤ y → Ev xs L M (pc + 3) lv st G σ G' Q) : Ev xs L M pc lv (.int y :: .int x :: st) G σ G' Q := by
  intro l B p e R s mid args below meth c H locs cells slots ls QQ hC hR hW hS hL kr
  exact lv_icmp_le hC.1 hC.2.1 hd ht (fun h => k1 h l B p e R s mid args below meth c H locs cells slots ls QQ hC hR hW hS hL kr) (fun h => k2 h l B p e R s mid args below meth c H locs cells slots ls QQ hC hR hW hS hL kr)
theorem xe_if_le {x : Int32} {off : Int} (tgt : Nat) (hd : decode M.2.1 pc = .ok (.ifCond .le off, 3)) (ht : (pc : Int) + off = (tgt : Int)) (k1 : x ≤ 0 → Ev xs L M tgt lv st G σ G' Q) (k2 : ¬ x ≤ 0 → Ev xs L M (pc + 3) lv st G σ G' Q) : Ev xs L M pc lv (.int x :: st) G σ G' Q := by
  intro l B p e R s mid args below meth c H locs cells slots ls QQ hC hR hW hS hL kr
  exact lv_if_le hC.1 hC.2.1 hd ht (fun h => k1 h l B p e R s mid args below meth c H locs cells slots ls QQ hC hR hW hS hL kr) (fun h => k2 h l B p e R s mid args below meth c H locs cells slots ls QQ hC hR hW hS hL kr)
theorem xe_goto {off : Int} (tgt : Nat) (hd : decode M.2.1 pc = .ok (.goto off, 3)) (ht : (pc : Int) + off = (tgt : Int)) (k : Ev xs L M tgt lv st G σ G' Q) : Ev xs L M pc lv st G σ G' Q := by
  intro l B p e R s mid args below meth c H locs cells slots ls QQ hC hR hW hS hL kr
  exact lv_goto hC.1 hC.2.1 hd ht (k l B p e R s mid args below meth c H locs cells slots ls QQ hC hR hW hS hL kr)
theorem xe_lookup {dflt off : Int} {ps : Array (Int × Int)} {len : Nat} {x : Int32} (tgt : Nat) (hd : decode M.2.1 pc = .ok (.lookupswitch dflt ps, len)) (hp : (ps.toList.zip (ps.toList.drop 1)).all (fun (a, next) => a.1 < next.1) = true) (ho : Op.lookupswitch.offset ps.toList dflt x.toInt = off) (ht : (pc : Int) + off = (tgt : Int)) (k : Ev xs L M tgt lv st G σ G' Q) : Ev xs L M pc lv (.int x :: st) G σ G' Q := by
  intro l B p e R s mid args below meth c H locs cells slots ls QQ hC hR hW hS hL kr
  exact lv_lookup hC.1 hC.2.1 hd hp ho ht (k l B p e R s mid args below meth c H locs cells slots ls QQ hC hR hW hS hL kr)
theorem xe_tableOut {dflt lo hi : Int} {offs : Array Int} {len : Nat} {x : Int32} (tgt : Nat) (hd : decode M.2.1 pc = .ok (.tableswitch dflt lo hi offs, len)) (h : x.toInt < lo ∨ hi < x.toInt) (ht : (pc : Int) + dflt = (tgt : Int)) (k : Ev xs L M tgt lv st G σ G' Q) : Ev xs L M pc lv (.int x :: st) G σ G' Q := by
  intro l B p e R s mid args below meth c H locs cells slots ls QQ hC hR hW hS hL kr
  exact lv_tableOut hC.1 hC.2.1 hd h ht (k l B p e R s mid args below meth c H locs cells slots ls QQ hC hR hW hS hL kr)
theorem xe_tableIn {dflt lo hi off : Int} {offs : Array Int} {len : Nat} {x : Int32} (tgt : Nat) (hd : decode M.2.1 pc = .ok (.tableswitch dflt lo hi offs, len)) (h1 : ¬ x.toInt < lo) (h2 : ¬ hi < x.toInt) (ho : offs[(x.toInt - lo).toNat]? = some off) (ht : (pc : Int) + off = (tgt : Int)) (k : Ev xs L M tgt lv st G σ G' Q) : Ev xs L M pc lv (.int x :: st) G σ G' Q := by
  intro l B p e R s mid args below meth c H locs cells slots ls QQ hC hR hW hS hL kr
  exact lv_tableIn hC.1 hC.2.1 hd h1 h2 ho ht (k l B p e R s mid args below meth c H locs cells slots ls QQ hC hR hW hS hL kr)
theorem xe_ldc2 {idx : Nat} {v : Int64} (hd : decode M.2.1 pc = .ok (.ldc2_w idx, 3)) (hw : Cond.constantLong M.1.cls idx v ∈ GT) (k : Ev xs L M (pc + 3) lv (.long v :: st) G σ G' Q) : Ev xs L M pc lv st G σ G' Q := by
  intro l B p e R s mid args below meth c H locs cells slots ls QQ hC hR hW hS hL kr
  exact lv_ldc2 hC.1 hC.2.1 hC.2.2.2.1 (hC.2.2.2.2.1 _ hw) hd (k l B p e R s mid args below meth c H locs cells slots ls QQ hC hR hW hS hL kr)
theorem xe_ldcw {idx : Nat} {v : Int32} (hd : decode M.2.1 pc = .ok (.ldc_w idx, 3)) (hw : Cond.constant M.1.cls idx v ∈ GT) (k : Ev xs L M (pc + 3) lv (.int v :: st) G σ G' Q) : Ev xs L M pc lv st G σ G' Q := by
  intro l B p e R s mid args below meth c H locs cells slots ls QQ hC hR hW hS hL kr
  exact lv_ldcw hC.1 hC.2.1 hC.2.2.2.1 (hC.2.2.2.2.1 _ hw) hd (k l B p e R s mid args below meth c H locs cells slots ls QQ hC hR hW hS hL kr)
theorem xe_iret {x : Int32} (hd : decode M.2.1 pc = .ok (.ireturn, 1)) (hr : M.2.2.2.1 = some .int) (hq : Q (some (.int x)) σ) : Ev xs L M pc lv [.int x] G σ G Q := by
  intro l B p e R s mid args below meth c H locs cells slots ls QQ hC hR hW hS hL kr
  have := kr (some (.int x)) σ H locs ls pc hq hW hS ⟨hd, .int, hr, rfl⟩
  rwa [Nat.sub_self, Nat.sub_self, Nat.add_zero, Nat.add_zero] at this
theorem xe_zret {x : Int32} (hd : decode M.2.1 pc = .ok (.ireturn, 1)) (hr : M.2.2.2.1 = some .boolean) (hz : x = 0 ∨ x = 1) (hq : Q (some (.int x)) σ) : Ev xs L M pc lv [.int x] G σ G Q := by
  intro l B p e R s mid args below meth c H locs cells slots ls QQ hC hR hW hS hL kr
  have := kr (some (.int x)) σ H locs ls pc hq hW hS ⟨hd, .boolean, hr, by rcases hz with rfl | rfl <;> rfl⟩
  rwa [Nat.sub_self, Nat.sub_self, Nat.add_zero, Nat.add_zero] at this
theorem xe_lret {x : Int64} (hd : decode M.2.1 pc = .ok (.lreturn, 1)) (hr : M.2.2.2.1 = some .long) (hq : Q (some (.long x)) σ) : Ev xs L M pc lv [.long x] G σ G Q := by
  intro l B p e R s mid args below meth c H locs cells slots ls QQ hC hR hW hS hL kr
  have := kr (some (.long x)) σ H locs ls pc hq hW hS ⟨hr, hd⟩
  rwa [Nat.sub_self, Nat.sub_self, Nat.add_zero, Nat.add_zero] at this
theorem xe_vret (hd : decode M.2.1 pc = .ok (.return_, 1)) (hr : M.2.2.2.1 = none) (hq : Q none σ) : Ev xs L M pc lv [] G σ G Q := by
  intro l B p e R s mid args below meth c H locs cells slots ls QQ hC hR hW hS hL kr
  have := kr none σ H locs ls pc hq hW hS ⟨hr, hd⟩
  rwa [Nat.sub_self, Nat.sub_self, Nat.add_zero, Nat.add_zero] at this
end XE
