/-! the model: two who choose; told doings -/
theorem wst_K (j k : Nat) : ∀ n (P : xP), (wst j k n P).1.2.1 = P.2.1
  | 0, P => rfl
  | n + 1, P => by
    show (if mayW P j ((P.2.2.1 j + k) % 12) = true then _ else _ : xP × Nat × Nat).1.2.1 = P.2.1
    split
    · exact wst_K j k n _
    · rfl
theorem Kd.wst {σ : xS} {v : Nat} {P : xP} (h : Kd σ v P) (j k n : Nat) : Kd σ v (wst j k n P).1 := by
  obtain ⟨r, h1, h2⟩ := h
  exact ⟨r, h1, by rw [wst_T, wst_K]; exact h2⟩
def FT (σ t : xS) : Prop := (∀ c, c ≠ 112 → c ≠ 117 → t.1 c = σ.1 c) ∧ (∀ k, k < 53 → t.1 112 k = σ.1 112 k) ∧ t.2 = σ.2
theorem FT.rf (σ : xS) : FT σ σ := ⟨fun _ _ _ => rfl, fun _ _ => rfl, rfl⟩
theorem FT.tr {σ t u : xS} (h1 : FT σ t) (h2 : FT t u) : FT σ u := ⟨fun c a b => (h2.1 c a b).trans (h1.1 c a b), fun k hk => (h2.2.1 k hk).trans (h1.2.1 k hk), h2.2.2.trans h1.2.2⟩
theorem FT.of {σ t : xS} (h : FL σ t 1) : FT σ t := ⟨fun c a _ => h.1 c a, fun k hk => h.2.1 k (by omega), h.2.2⟩
theorem FT.fa {σ t : xS} (h : FA 117 σ t) : FT σ t := ⟨fun c _ b => h.1 c b, fun k _ => by rw [h.1 112 (by decide)], h.2⟩
theorem Kd.ft {σ t : xS} {v : Nat} {P : xP} (h : Kd σ v P) (f : FT σ t) : Kd t v P := by
  obtain ⟨r, h1, h2⟩ := h
  refine ⟨r, by rw [f.1 110 (by omega) (by omega)]; exact h1, fun u hu => ?_⟩
  rw [f.1 113 (by omega) (by omega), f.1 111 (by omega) (by omega)]
  exact h2 u hu
theorem ch_all : ∀ p, p < 4 → (p ^^^ 2) / 2 = 1 - p / 2 ∧ (p ^^^ 2) % 2 = p % 2 ∧ (p ^^^ 1) / 2 = p / 2 ∧ (p ^^^ 1) % 2 = 1 - p % 2 := by decide
section MT
variable {xs : Nat → Int32} {L : Nat} {σ : xS} {v : Nat} {P : xP} {G : xG}
theorem M_choose (h : Lv σ 1 P) (hk : Kd σ 1 P) {j c : Nat} (hj : j < P.1) (hc : c < 2) : Cl xs L mX11_choose [.ref 110, .int (nI j), .int (nI c)] GS σ GS (fun w t => w = none ∧ Lv t 1 (wst j 5 c P).1 ∧ FL σ t 1) := by
  show Ev xs L mX11_choose 0 [.ref 110, .int (nI j), .int (nI c), .null] [] GS σ GS _
  have h4 := h.2.1.1
  have t5 := (h.2.1.2.1 j hj).2.1
  refine xe_aload_n dX11_choose_0 rfl ?_
  refine e_getA (G := GS) (r := 110) dX11_choose_1 fdX11_13 rfl gk_110 gr_110_2 ?_
  refine xe_bipush (v := nI 53) dX11_choose_4 (by decide) ?_
  refine xe_iload_n dX11_choose_6 rfl ?_
  first | refine xn_iadd dX11_choose_7 ?_ | refine xe_iadd dX11_choose_7 ?_
  refine e_iald (G := GS) (a := 112) dX11_choose_8 gk_112 gn_112 (by omega) (by decide) (h.2.2.1 j hj) ?_
  refine xe_iconst (v := nI 5) dX11_choose_9 (by decide) ?_
  first | refine xn_iadd dX11_choose_10 ?_ | refine xe_iadd dX11_choose_10 ?_
  refine xe_bipush (v := nI 12) dX11_choose_11 (by decide) ?_
  refine xn_irem dX11_choose_13 (by omega) (by decide) (by decide) ?_
  refine xe_istore_n dX11_choose_14 (by decide) ?_
  refine xe_iload_n dX11_choose_15 rfl ?_
  refine xe_iconst (v := nI 1) dX11_choose_16 (by decide) ?_
  refine xn_icmp_ne 38 dX11_choose_17 (by decide) (by omega) (by omega) (fun c2 => ?_) (fun c2 => ?_)
  · have : c = 0 := by omega
    subst this
    exact xe_vret dX11_choose_38 rfl ⟨rfl, h, FL.rf σ 1⟩
  · subst c2
    refine xe_aload_n dX11_choose_20 rfl ?_
    refine xe_iconst (v := nI 1) dX11_choose_21 (by decide) ?_
    refine xe_iload_n dX11_choose_22 rfl ?_
    refine xe_iload_n dX11_choose_23 rfl ?_
    refine e_callVp (G := GS) (r := 110) (M_mayWind h hk hj (by omega)) dX11_choose_24 kvX11_105 gk_110 rfl ?_
    refine xz_if_eq 38 dX11_choose_27 (by decide) (fun d => ?_) (fun d => ?_)
    · have e : (wst j 5 1 P).1 = P := by
        show (if mayW P j ((P.2.2.1 j + 5) % 12) = true then _ else _ : xP × Nat × Nat).1 = P
        rw [d]
        rfl
      rw [e]
      exact xe_vret dX11_choose_38 rfl ⟨rfl, h, FL.rf σ 1⟩
    · have e : (wst j 5 1 P).1 = wnd P j ((P.2.2.1 j + 5) % 12) := by
        show (if mayW P j ((P.2.2.1 j + 5) % 12) = true then _ else _ : xP × Nat × Nat).1 = _
        rw [d]
        rfl
      rw [e]
      refine xe_aload_n dX11_choose_30 rfl ?_
      refine xe_iconst (v := nI 1) dX11_choose_31 (by decide) ?_
      refine xe_iload_n dX11_choose_32 rfl ?_
      refine xe_iload_n dX11_choose_33 rfl ?_
      refine e_callV (G := GS) (r := 110) (M_windOn h d) dX11_choose_34 kvX11_108 gk_110 rfl ?_
      rintro w t ⟨rfl, h2, f2⟩
      refine xe_pop dX11_choose_37 rfl ?_
      exact xe_vret dX11_choose_38 rfl ⟨rfl, h2, f2⟩
theorem M_gain (h : Lv σ 0 P) (hk : Kd σ 1 P) {a b c d t : Nat} (ha : a < P.1) (hb : b < P.1) (hc : c < 2) (hd : d < 2) (ht : t < 2 ^ 31) : Cl xs L mX11_gain [.ref 110, .int (nI a), .int (nI b), .int (nI c), .int (nI d), .int (nI t)] GS σ GS (fun w u => w = some (.int (wth (wst b 5 d (wst a 5 c P).1).1.2.2.2 t)) ∧ FL σ u 1) := by
  show Ev xs L mX11_gain 0 [.ref 110, .int (nI a), .int (nI b), .int (nI c), .int (nI d), .int (nI t), .null, .null] [] GS σ GS _
  refine xe_aload_n dX11_gain_0 rfl ?_
  refine e_callV (G := GS) (r := 110) (M_layTrial h) dX11_gain_1 kvX11_226 gk_110 rfl ?_
  rintro w u1 ⟨rfl, h1, f1⟩
  refine xe_aload_n dX11_gain_4 rfl ?_
  refine xe_iload_n dX11_gain_5 rfl ?_
  refine xe_iload_n dX11_gain_6 rfl ?_
  refine e_callV (G := GS) (r := 110) (M_choose h1 (hk.fl f1) ha hc) dX11_gain_7 kvX11_252 gk_110 rfl ?_
  rintro w u2 ⟨rfl, h2, f2⟩
  refine xe_aload_n dX11_gain_10 rfl ?_
  refine xe_iload_n dX11_gain_11 rfl ?_
  refine xe_iload dX11_gain_12 rfl ?_
  refine e_callV (G := GS) (r := 110) (M_choose h2 (((hk.fl f1).fl f2).wst a 5 c) (by rw [wst_T]; exact hb) hd) dX11_gain_14 kvX11_252 gk_110 rfl ?_
  rintro w u3 ⟨rfl, h3, f3⟩
  generalize (wst b 5 d (wst a 5 c P).1).1 = Q at h3 ⊢
  have f := (f1.tr f2).tr f3
  have h48 := h3.2.1.len
  refine xe_aload_n dX11_gain_17 rfl ?_
  refine xe_iconst (v := nI 1) dX11_gain_18 (by decide) ?_
  refine xe_iload dX11_gain_19 rfl ?_
  refine e_callVp (G := GS) (r := 110) (M_lastOf h3 ht) dX11_gain_21 kvX11_162 gk_110 rfl ?_
  cases hl : las Q.2.2.2 t with
  | none =>
    refine xe_istore dX11_gain_24 (by decide) ?_
    refine xe_iload dX11_gain_26 rfl ?_
    refine xe_bipush (v := -9) dX11_gain_28 (by decide) ?_
    refine xe_icmp_ne 35 dX11_gain_30 (by decide) (fun c => absurd c (fun q => q rfl)) (fun _ => ?_)
    refine xe_iconst (v := nI 0) dX11_gain_33 (by decide) ?_
    refine xe_iret dX11_gain_34 rfl ⟨?_, f⟩
    have ew : wth Q.2.2.2 t = nI 0 := by unfold wth; rw [hl]
    rw [ew]
  | some i =>
    obtain ⟨s, hs, -⟩ := las_some hl
    have hil := Ls.lt hs
    obtain ⟨o1, o2, o3, o4⟩ := h3.so hs
    have ew : wth Q.2.2.2 t = nI 3 * nI (crA s.2.1 s.2.2.1 Q.2.2.2) - nI (lnb s.2.1 s.2.2.1) / nI 5 := by unfold wth; rw [hl]; dsimp only; rw [hs]
    rw [ew]
    refine xe_istore dX11_gain_24 (by decide) ?_
    refine xe_iload dX11_gain_26 rfl ?_
    refine xe_bipush (v := -9) dX11_gain_28 (by decide) ?_
    refine xe_icmp_ne 35 dX11_gain_30 (by decide) (fun _ => ?_) (fun c => absurd c (show ¬ nI i = -9 from nI_m9 (by omega)))
    refine xe_aload_n dX11_gain_35 rfl ?_
    refine xe_iconst (v := nI 1) dX11_gain_36 (by decide) ?_
    refine xe_iload dX11_gain_37 rfl ?_
    show Ev xs L mX11_gain 39 _ [.int (nI i), .int (nI 1), .ref 110] GS u3 GS _
    refine e_callVp (G := GS) (r := 110) (M_laid h3 hs) dX11_gain_39 kvX11_124 gk_110 rfl ?_
    refine xe_istore dX11_gain_42 (by decide) ?_
    refine xe_iconst (v := nI 3) dX11_gain_44 (by decide) ?_
    refine xe_aload_n dX11_gain_45 rfl ?_
    refine xe_iconst (v := nI 1) dX11_gain_46 (by decide) ?_
    refine xe_bipush (v := -9) dX11_gain_47 (by decide) ?_
    refine xe_iload dX11_gain_49 rfl ?_
    refine e_callSp (M_fromOf (h3.so hs)) dX11_gain_51 ksX11_61 rfl ?_
    refine xe_iload dX11_gain_54 rfl ?_
    refine e_callSp (M_toOf (h3.so hs)) dX11_gain_56 ksX11_65 rfl ?_
    refine e_callVp (G := GS) (r := 110) (M_crossedBy h3 (p := fun _ => true) o2 o3 (Or.inl ⟨rfl, fun _ => rfl⟩)) dX11_gain_59 kvX11_143 gk_110 rfl ?_
    refine xe_imul dX11_gain_62 ?_
    refine xe_iload dX11_gain_63 rfl ?_
    refine e_callSp (M_fromOf (h3.so hs)) dX11_gain_65 ksX11_61 rfl ?_
    refine xe_iload dX11_gain_68 rfl ?_
    refine e_callSp (M_toOf (h3.so hs)) dX11_gain_70 ksX11_65 rfl ?_
    refine e_callSp (M_longBy o2 o3 (h3.ne hs)) dX11_gain_73 ksX11_130 rfl ?_
    refine xe_iconst (v := nI 5) dX11_gain_76 (by decide) ?_
    refine xe_idiv dX11_gain_77 (by decide) ?_
    refine xe_isub dX11_gain_78 ?_
    exact xe_iret dX11_gain_79 rfl ⟨rfl, f⟩
theorem M_isRest (h : Lv σ 0 P) (hk : Kd σ 1 P) {a b p : Nat} (ha : a < P.1) (hb : b < P.1) (hp : p < 4) : Cl xs L mX11_isRest [.ref 110, .int (nI a), .int (nI b), .int (nI (p / 2)), .int (nI (p % 2))] GS σ GS (fun w u => w = some (.int (bI (rsQ P a b p))) ∧ FL σ u 1) := by
  show Ev xs L mX11_isRest 0 [.ref 110, .int (nI a), .int (nI b), .int (nI (p / 2)), .int (nI (p % 2))] [] GS σ GS _
  have h4 := h.2.1.1
  obtain ⟨e1, e2, e3, e4⟩ := ch_all p hp
  have r1 : rs1 P a b (p ^^^ 2) = wth (wst b 5 (p % 2) (wst a 5 (1 - p / 2) P).1).1.2.2.2 a := by unfold rs1 rsP; rw [e1, e2]
  have r2 : rs2 P a b (p ^^^ 1) = wth (wst b 5 (1 - p % 2) (wst a 5 (p / 2) P).1).1.2.2.2 b := by unfold rs2 rsP; rw [e3, e4]
  have q1 : rs1 P a b p = wth (wst b 5 (p % 2) (wst a 5 (p / 2) P).1).1.2.2.2 a := rfl
  have q2 : rs2 P a b p = wth (wst b 5 (p % 2) (wst a 5 (p / 2) P).1).1.2.2.2 b := rfl
  refine xe_aload_n dX11_isRest_0 rfl ?_
  refine xe_iload_n dX11_isRest_1 rfl ?_
  refine xe_iload_n dX11_isRest_2 rfl ?_
  refine xe_iconst (v := nI 1) dX11_isRest_3 (by decide) ?_
  refine xe_iload_n dX11_isRest_4 rfl ?_
  refine xn_isub dX11_isRest_5 (by omega) ?_
  refine xe_iload dX11_isRest_6 rfl ?_
  refine xe_iload_n dX11_isRest_8 rfl ?_
  refine e_callV (G := GS) (r := 110) (M_gain h hk ha hb (show 1 - p / 2 < 2 by omega) (show p % 2 < 2 by omega) (show a < 2 ^ 31 by omega)) dX11_isRest_9 kvX11_255 gk_110 rfl ?_
  rintro w t1 ⟨rfl, f1⟩
  rw [← r1]
  refine xe_aload_n dX11_isRest_12 rfl ?_
  refine xe_iload_n dX11_isRest_13 rfl ?_
  refine xe_iload_n dX11_isRest_14 rfl ?_
  refine xe_iload_n dX11_isRest_15 rfl ?_
  refine xe_iload dX11_isRest_16 rfl ?_
  refine xe_iload_n dX11_isRest_18 rfl ?_
  refine e_callV (G := GS) (r := 110) (M_gain (h.fl f1 (by decide)) (hk.fl f1) ha hb (show p / 2 < 2 by omega) (show p % 2 < 2 by omega) (show a < 2 ^ 31 by omega)) dX11_isRest_19 kvX11_255 gk_110 rfl ?_
  rintro w t2 ⟨rfl, f2⟩
  rw [← q1]
  have f12 := f1.tr f2
  have no : ∀ (t : xS) (lv : List Value), rsQ P a b p = false → FL σ t 1 → Ev xs L mX11_isRest 54 lv [] GS t GS (fun w u => w = some (.int (bI (rsQ P a b p))) ∧ FL σ u 1) := by
    intro t lv e f
    rw [e]
    refine xe_iconst (v := nI 0) dX11_isRest_54 (by decide) ?_
    exact xe_zret dX11_isRest_55 rfl (by decide) ⟨rfl, f⟩
  refine xe_icmp_gt 54 dX11_isRest_22 (by decide) (fun c => ?_) (fun c => ?_)
  · refine no _ _ ?_ f12
    unfold rsQ
    rw [decide_eq_false (Int32.not_le.mpr c)]
    rfl
  · have c := Int32.not_lt.mp c
    refine xe_aload_n dX11_isRest_25 rfl ?_
    refine xe_iload_n dX11_isRest_26 rfl ?_
    refine xe_iload_n dX11_isRest_27 rfl ?_
    refine xe_iload_n dX11_isRest_28 rfl ?_
    refine xe_iconst (v := nI 1) dX11_isRest_29 (by decide) ?_
    refine xe_iload dX11_isRest_30 rfl ?_
    refine xn_isub dX11_isRest_32 (by omega) ?_
    refine xe_iload_n dX11_isRest_33 rfl ?_
    refine e_callV (G := GS) (r := 110) (M_gain (h.fl f12 (by decide)) (hk.fl f12) ha hb (show p / 2 < 2 by omega) (show 1 - p % 2 < 2 by omega) (show b < 2 ^ 31 by omega)) dX11_isRest_34 kvX11_255 gk_110 rfl ?_
    rintro w t3 ⟨rfl, f3⟩
    rw [← r2]
    have f13 := f12.tr f3
    refine xe_aload_n dX11_isRest_37 rfl ?_
    refine xe_iload_n dX11_isRest_38 rfl ?_
    refine xe_iload_n dX11_isRest_39 rfl ?_
    refine xe_iload_n dX11_isRest_40 rfl ?_
    refine xe_iload dX11_isRest_41 rfl ?_
    refine xe_iload_n dX11_isRest_43 rfl ?_
    refine e_callV (G := GS) (r := 110) (M_gain (h.fl f13 (by decide)) (hk.fl f13) ha hb (show p / 2 < 2 by omega) (show p % 2 < 2 by omega) (show b < 2 ^ 31 by omega)) dX11_isRest_44 kvX11_255 gk_110 rfl ?_
    rintro w t4 ⟨rfl, f4⟩
    rw [← q2]
    refine xe_icmp_gt 54 dX11_isRest_47 (by decide) (fun c2 => ?_) (fun c2 => ?_)
    · refine no _ _ ?_ (f13.tr f4)
      unfold rsQ
      rw [decide_eq_false (Int32.not_le.mpr c2), Bool.and_false]
    · have e : rsQ P a b p = true := by
        unfold rsQ
        rw [decide_eq_true c, decide_eq_true (Int32.not_lt.mp c2)]
        rfl
      rw [e]
      refine xe_iconst (v := nI 1) dX11_isRest_50 (by decide) ?_
      refine xe_goto 55 dX11_isRest_51 (by decide) ?_
      exact xe_zret dX11_isRest_55 rfl (by decide) ⟨rfl, f13.tr f4⟩
theorem M_tryThing (h : Lv σ 1 P) (hT : σ.1 110 0 = nI P.1) (hk : Kd σ 1 P) {q a m : Nat} (hq : q < 10) (ha : a < 10) (hm : m < 100) : Cl xs L mX11_tryThing [.ref 110, .int (nI q), .int (nI a), .int (nI m)] GS σ GS (fun w t => w = some (.int (bI (tng P (1000 * q + 100 * a + m)).isSome)) ∧ Lv t 1 ((tng P (1000 * q + 100 * a + m)).getD P) ∧ FT σ t) := by
  show Ev xs L mX11_tryThing 0 [.ref 110, .int (nI q), .int (nI a), .int (nI m), .null, .null, .null, .null] [] GS σ GS _
  have h4 := h.2.1.1
  have h48 := h.2.1.len
  generalize hd : 1000 * q + 100 * a + m = d
  have e1 : d / 1000 = q := by omega
  have e2 : d / 100 % 10 = a := by omega
  have e3 : d % 100 = m := by omega
  have et : tng P d = tngQ P d q := by show tngQ P d (d / 1000) = _; rw [e1]
  have out : ∀ lv : List Value, tng P d = none → Ev xs L mX11_tryThing 261 lv [] GS σ GS (fun w t => w = some (.int (bI (tng P d).isSome)) ∧ Lv t 1 ((tng P d).getD P) ∧ FT σ t) := by
    intro lv e
    rw [e]
    refine xe_iconst (v := nI 0) dX11_tryThing_261 (by decide) ?_
    exact xe_zret dX11_tryThing_262 rfl (by decide) ⟨rfl, h, FT.rf σ⟩
  refine xe_iload_n dX11_tryThing_0 rfl ?_
  match q, hq, hd, et with
  | 0, _, _, et =>
    refine xe_tableOut 261 dX11_tryThing_1 (Or.inl (by decide)) (by decide) ?_
    exact out _ et
  | 1, _, _, et =>
    have et : tng P d = doW P (d / 100 % 10) (d % 100) := et
    rw [e2, e3] at et
    refine xe_tableIn 44 dX11_tryThing_1 (by decide) (by decide) rfl (by decide) ?_
    have no : mayW P a m = false → Ev xs L mX11_tryThing 66 [.ref 110, .int (nI 1), .int (nI a), .int (nI m), .null, .null, .null, .null] [] GS σ GS (fun w t => w = some (.int (bI (tng P d).isSome)) ∧ Lv t 1 ((tng P d).getD P) ∧ FT σ t) := by
      intro e
      have et : tng P d = none := by rw [et]; unfold doW; rw [e]; rfl
      rw [et]
      refine xe_iconst (v := nI 0) dX11_tryThing_66 (by decide) ?_
      refine xe_istore dX11_tryThing_67 (by decide) ?_
      refine xe_iload dX11_tryThing_69 rfl ?_
      refine xe_if_eq 82 dX11_tryThing_71 (by decide) (fun _ => ?_) (fun c => absurd rfl c)
      refine xe_iload dX11_tryThing_82 rfl ?_
      exact xe_zret dX11_tryThing_84 rfl (by decide) ⟨rfl, h, FT.rf σ⟩
    refine xe_aload_n dX11_tryThing_44 rfl ?_
    refine xe_iload_n dX11_tryThing_45 rfl ?_
    refine e_callVp (G := GS) (r := 110) (M_isThread (by omega) hT) dX11_tryThing_46 kvX11_159 gk_110 rfl ?_
    rw [hasT_n (by omega) (by omega)]
    refine xz_if_eq 66 dX11_tryThing_49 (by decide) (fun c => ?_) (fun c => ?_)
    · refine no ?_
      unfold mayW
      rw [c]
      rfl
    refine xe_aload_n dX11_tryThing_52 rfl ?_
    refine xe_iconst (v := nI 1) dX11_tryThing_53 (by decide) ?_
    refine xe_iload_n dX11_tryThing_54 rfl ?_
    refine xe_iload_n dX11_tryThing_55 rfl ?_
    refine e_callVp (G := GS) (r := 110) (M_mayWind h hk (of_decide_eq_true c) (by omega)) dX11_tryThing_56 kvX11_105 gk_110 rfl ?_
    refine xz_if_eq 66 dX11_tryThing_59 (by decide) (fun c2 => ?_) (fun c2 => ?_)
    · exact no c2
    have et : tng P d = some (wnd P a m) := by rw [et]; unfold doW; rw [c2]; rfl
    rw [et]
    refine xe_iconst (v := nI 1) dX11_tryThing_62 (by decide) ?_
    refine xe_goto 67 dX11_tryThing_63 (by decide) ?_
    refine xe_istore dX11_tryThing_67 (by decide) ?_
    refine xe_iload dX11_tryThing_69 rfl ?_
    refine xe_if_eq 82 dX11_tryThing_71 (by decide) (fun c => absurd c (by decide)) (fun _ => ?_)
    refine xe_aload_n dX11_tryThing_74 rfl ?_
    refine xe_iconst (v := nI 1) dX11_tryThing_75 (by decide) ?_
    refine xe_iload_n dX11_tryThing_76 rfl ?_
    refine xe_iload_n dX11_tryThing_77 rfl ?_
    refine e_callV (G := GS) (r := 110) (M_windOn h c2) dX11_tryThing_78 kvX11_108 gk_110 rfl ?_
    rintro w t ⟨rfl, h2, f2⟩
    refine xe_pop dX11_tryThing_81 rfl ?_
    refine xe_iload dX11_tryThing_82 rfl ?_
    exact xe_zret dX11_tryThing_84 rfl (by decide) ⟨rfl, h2, FT.of f2⟩
  | 2, _, hd, et =>
    have et : tng P d = if d < 2010 then doU P (d % 10) else none := et
    refine xe_tableIn 85 dX11_tryThing_1 (by decide) (by decide) rfl (by decide) ?_
    have no : tng P d = none → Ev xs L mX11_tryThing 102 [.ref 110, .int (nI 2), .int (nI a), .int (nI m), .null, .null, .null, .null] [] GS σ GS (fun w t => w = some (.int (bI (tng P d).isSome)) ∧ Lv t 1 ((tng P d).getD P) ∧ FT σ t) := by
      intro et
      rw [et]
      refine xe_iconst (v := nI 0) dX11_tryThing_102 (by decide) ?_
      refine xe_istore dX11_tryThing_103 (by decide) ?_
      refine xe_iload dX11_tryThing_105 rfl ?_
      refine xe_if_eq 116 dX11_tryThing_107 (by decide) (fun _ => ?_) (fun c => absurd rfl c)
      refine xe_iload dX11_tryThing_116 rfl ?_
      exact xe_zret dX11_tryThing_118 rfl (by decide) ⟨rfl, h, FT.rf σ⟩
    refine xe_iload_n dX11_tryThing_85 rfl ?_
    refine xn_if_ne 102 dX11_tryThing_86 (by decide) (by omega) (fun c => ?_) (fun c => ?_)
    · exact no (by rw [et, if_neg (by omega)])
    refine xe_aload_n dX11_tryThing_89 rfl ?_
    refine xe_iconst (v := nI 1) dX11_tryThing_90 (by decide) ?_
    refine xe_iload_n dX11_tryThing_91 rfl ?_
    refine e_callVp (G := GS) (r := 110) (M_canUnwind h hT (show m < 2 ^ 31 by omega)) dX11_tryThing_92 kvX11_179 gk_110 rfl ?_
    refine xz_if_eq 102 dX11_tryThing_95 (by decide) (fun c2 => ?_) (fun c2 => ?_)
    · refine no ?_
      rw [et]
      by_cases g : d < 2010
      · rw [if_pos g, show d % 10 = m by omega]
        unfold doU
        rw [c2]
        rfl
      · rw [if_neg g]
    obtain ⟨i, s, hl, hs⟩ := mayU_some c2
    obtain ⟨s', hs', s1, -⟩ := las_some hl
    have hmT := (h.2.1.2.2.1 s' (List.mem_of_getElem? hs')).1
    have et : tng P d = some (uwd P m i s) := by
      rw [et, if_pos (by omega), show d % 10 = m by omega]
      unfold doU
      rw [c2, if_pos rfl, hl]
      dsimp only
      rw [hs]
    rw [et]
    refine xe_iconst (v := nI 1) dX11_tryThing_98 (by decide) ?_
    refine xe_goto 103 dX11_tryThing_99 (by decide) ?_
    refine xe_istore dX11_tryThing_103 (by decide) ?_
    refine xe_iload dX11_tryThing_105 rfl ?_
    refine xe_if_eq 116 dX11_tryThing_107 (by decide) (fun c => absurd c (by decide)) (fun _ => ?_)
    refine xe_aload_n dX11_tryThing_110 rfl ?_
    refine xe_iconst (v := nI 1) dX11_tryThing_111 (by decide) ?_
    refine xe_iload_n dX11_tryThing_112 rfl ?_
    refine e_callV (G := GS) (r := 110) (M_unwindOn h hl hs) dX11_tryThing_113 kvX11_191 gk_110 rfl ?_
    rintro w t ⟨rfl, h2, f2⟩
    refine xe_iload dX11_tryThing_116 rfl ?_
    exact xe_zret dX11_tryThing_118 rfl (by decide) ⟨rfl, h2, FT.of f2⟩
  | 3, _, hd, et =>
    have et : tng P d = if d < 3010 then doC P (d % 10) else none := et
    have hcl : cnt P.2.2.2 m ≤ 48 := Nat.le_trans List.countP_le_length h48
    refine xe_tableIn 119 dX11_tryThing_1 (by decide) (by decide) rfl (by decide) ?_
    have no : tng P d = none → Ev xs L mX11_tryThing 144 [.ref 110, .int (nI 3), .int (nI a), .int (nI m), .null, .null, .null, .null] [] GS σ GS (fun w t => w = some (.int (bI (tng P d).isSome)) ∧ Lv t 1 ((tng P d).getD P) ∧ FT σ t) := by
      intro et
      rw [et]
      refine xe_iconst (v := nI 0) dX11_tryThing_144 (by decide) ?_
      refine xe_istore dX11_tryThing_145 (by decide) ?_
      refine xe_iload dX11_tryThing_147 rfl ?_
      refine xe_if_eq 159 dX11_tryThing_149 (by decide) (fun _ => ?_) (fun c => absurd rfl c)
      refine xe_iload dX11_tryThing_159 rfl ?_
      exact xe_zret dX11_tryThing_161 rfl (by decide) ⟨rfl, h, FT.rf σ⟩
    have no0 : a = 0 → cnt P.2.2.2 m = 0 → tng P d = none := by
      intro a0 c0
      rw [et]
      by_cases g : d < 3010
      · rw [if_pos g, show d % 10 = m by omega]
        unfold doC
        rw [if_neg (by omega)]
      · rw [if_neg g]
    refine xe_iload_n dX11_tryThing_119 rfl ?_
    refine xn_if_ne 144 dX11_tryThing_120 (by decide) (by omega) (fun c => ?_) (fun c => ?_)
    · exact no (by rw [et, if_neg (by omega)])
    refine xe_aload_n dX11_tryThing_123 rfl ?_
    refine xe_iload_n dX11_tryThing_124 rfl ?_
    refine e_callVp (G := GS) (r := 110) (M_isThread (by omega) hT) dX11_tryThing_125 kvX11_159 gk_110 rfl ?_
    rw [hasT_n (by omega) (by omega)]
    refine xz_if_eq 144 dX11_tryThing_128 (by decide) (fun c2 => ?_) (fun c2 => ?_)
    · refine no (no0 c (List.countP_eq_zero.mpr (fun s hs => ?_)))
      have g1 := (h.2.1.2.2.1 s hs).1
      have g2 := of_decide_eq_false c2
      simp only [beq_iff_eq]
      omega
    have c2 := of_decide_eq_true c2
    refine xe_aload_n dX11_tryThing_131 rfl ?_
    refine xe_iconst (v := nI 1) dX11_tryThing_132 (by decide) ?_
    refine xe_iload_n dX11_tryThing_133 rfl ?_
    refine e_callVp (G := GS) (r := 110) (M_stretchesOf h (show m < 2 ^ 31 by omega)) dX11_tryThing_134 kvX11_137 gk_110 rfl ?_
    refine xn_if_le 144 dX11_tryThing_137 (by decide) (by omega) (fun c3 => ?_) (fun c3 => ?_)
    · exact no (no0 c c3)
    have et : tng P d = some (cutP P m) := by
      rw [et, if_pos (by omega), show d % 10 = m by omega]
      unfold doC
      rw [if_pos c3]
    rw [et]
    refine xe_iconst (v := nI 1) dX11_tryThing_140 (by decide) ?_
    refine xe_goto 145 dX11_tryThing_141 (by decide) ?_
    refine xe_istore dX11_tryThing_145 (by decide) ?_
    refine xe_iload dX11_tryThing_147 rfl ?_
    refine xe_if_eq 159 dX11_tryThing_149 (by decide) (fun c => absurd c (by decide)) (fun _ => ?_)
    refine xe_aload_n dX11_tryThing_152 rfl ?_
    refine xe_iconst (v := nI 1) dX11_tryThing_153 (by decide) ?_
    refine xe_iload_n dX11_tryThing_154 rfl ?_
    refine e_callV (G := GS) (r := 110) (M_cutOn h (show m < 2 ^ 31 by omega)) dX11_tryThing_155 kvX11_194 gk_110 rfl ?_
    rintro w t ⟨rfl, h2, f2⟩
    refine xe_pop dX11_tryThing_158 rfl ?_
    refine xe_iload dX11_tryThing_159 rfl ?_
    exact xe_zret dX11_tryThing_161 rfl (by decide) ⟨rfl, h2, FT.of f2⟩
  | 4, _, hd, et =>
    have et : tng P d = if d = 4000 then some (trnP P) else none := et
    refine xe_tableIn 162 dX11_tryThing_1 (by decide) (by decide) rfl (by decide) ?_
    have no : tng P d = none → Ev xs L mX11_tryThing 174 [.ref 110, .int (nI 4), .int (nI a), .int (nI m), .null, .null, .null, .null] [] GS σ GS (fun w t => w = some (.int (bI (tng P d).isSome)) ∧ Lv t 1 ((tng P d).getD P) ∧ FT σ t) := by
      intro et
      rw [et]
      refine xe_iconst (v := nI 0) dX11_tryThing_174 (by decide) ?_
      refine xe_istore dX11_tryThing_175 (by decide) ?_
      refine xe_iload dX11_tryThing_177 rfl ?_
      refine xe_if_eq 197 dX11_tryThing_179 (by decide) (fun _ => ?_) (fun c => absurd rfl c)
      refine xe_iload dX11_tryThing_197 rfl ?_
      exact xe_zret dX11_tryThing_199 rfl (by decide) ⟨rfl, h, FT.rf σ⟩
    refine xe_iload_n dX11_tryThing_162 rfl ?_
    refine xn_if_ne 174 dX11_tryThing_163 (by decide) (by omega) (fun c => ?_) (fun c => ?_)
    · exact no (by rw [et, if_neg (by omega)])
    refine xe_iload_n dX11_tryThing_166 rfl ?_
    refine xn_if_ne 174 dX11_tryThing_167 (by decide) (by omega) (fun c2 => ?_) (fun c2 => ?_)
    · exact no (by rw [et, if_neg (by omega)])
    rw [if_pos (by omega)] at et
    rw [et]
    refine xe_iconst (v := nI 1) dX11_tryThing_170 (by decide) ?_
    refine xe_goto 175 dX11_tryThing_171 (by decide) ?_
    refine xe_istore dX11_tryThing_175 (by decide) ?_
    refine xe_iload dX11_tryThing_177 rfl ?_
    refine xe_if_eq 197 dX11_tryThing_179 (by decide) (fun c => absurd c (by decide)) (fun _ => ?_)
    refine xe_aload_n dX11_tryThing_182 rfl ?_
    refine xe_iconst (v := nI 1) dX11_tryThing_183 (by decide) ?_
    refine xe_iload_n dX11_tryThing_184 rfl ?_
    refine xe_iconst (v := nI 5) dX11_tryThing_185 (by decide) ?_
    refine xe_icmp_ne 193 dX11_tryThing_186 (by decide) (fun _ => ?_) (fun c => absurd c (by decide))
    refine xe_iconst (v := nI 0) dX11_tryThing_193 (by decide) ?_
    refine e_callV (G := GS) (r := 110) (M_renameOn h hT false) dX11_tryThing_194 kvX11_197 gk_110 rfl ?_
    rintro w t ⟨rfl, h2, f2⟩
    refine xe_iload dX11_tryThing_197 rfl ?_
    exact xe_zret dX11_tryThing_199 rfl (by decide) ⟨rfl, h2, FT.of f2⟩
  | 5, _, hd, et =>
    have et : tng P d = if d = 5000 then some (ovrP P) else none := et
    refine xe_tableIn 162 dX11_tryThing_1 (by decide) (by decide) rfl (by decide) ?_
    have no : tng P d = none → Ev xs L mX11_tryThing 174 [.ref 110, .int (nI 5), .int (nI a), .int (nI m), .null, .null, .null, .null] [] GS σ GS (fun w t => w = some (.int (bI (tng P d).isSome)) ∧ Lv t 1 ((tng P d).getD P) ∧ FT σ t) := by
      intro et
      rw [et]
      refine xe_iconst (v := nI 0) dX11_tryThing_174 (by decide) ?_
      refine xe_istore dX11_tryThing_175 (by decide) ?_
      refine xe_iload dX11_tryThing_177 rfl ?_
      refine xe_if_eq 197 dX11_tryThing_179 (by decide) (fun _ => ?_) (fun c => absurd rfl c)
      refine xe_iload dX11_tryThing_197 rfl ?_
      exact xe_zret dX11_tryThing_199 rfl (by decide) ⟨rfl, h, FT.rf σ⟩
    refine xe_iload_n dX11_tryThing_162 rfl ?_
    refine xn_if_ne 174 dX11_tryThing_163 (by decide) (by omega) (fun c => ?_) (fun c => ?_)
    · exact no (by rw [et, if_neg (by omega)])
    refine xe_iload_n dX11_tryThing_166 rfl ?_
    refine xn_if_ne 174 dX11_tryThing_167 (by decide) (by omega) (fun c2 => ?_) (fun c2 => ?_)
    · exact no (by rw [et, if_neg (by omega)])
    rw [if_pos (by omega)] at et
    rw [et]
    refine xe_iconst (v := nI 1) dX11_tryThing_170 (by decide) ?_
    refine xe_goto 175 dX11_tryThing_171 (by decide) ?_
    refine xe_istore dX11_tryThing_175 (by decide) ?_
    refine xe_iload dX11_tryThing_177 rfl ?_
    refine xe_if_eq 197 dX11_tryThing_179 (by decide) (fun c => absurd c (by decide)) (fun _ => ?_)
    refine xe_aload_n dX11_tryThing_182 rfl ?_
    refine xe_iconst (v := nI 1) dX11_tryThing_183 (by decide) ?_
    refine xe_iload_n dX11_tryThing_184 rfl ?_
    refine xe_iconst (v := nI 5) dX11_tryThing_185 (by decide) ?_
    refine xe_icmp_ne 193 dX11_tryThing_186 (by decide) (fun c => absurd c (fun q => q rfl)) (fun _ => ?_)
    refine xe_iconst (v := nI 1) dX11_tryThing_189 (by decide) ?_
    refine xe_goto 194 dX11_tryThing_190 (by decide) ?_
    refine e_callV (G := GS) (r := 110) (M_renameOn h hT true) dX11_tryThing_194 kvX11_197 gk_110 rfl ?_
    rintro w t ⟨rfl, h2, f2⟩
    refine xe_iload dX11_tryThing_197 rfl ?_
    exact xe_zret dX11_tryThing_199 rfl (by decide) ⟨rfl, h2, FT.of f2⟩
  | 6, _, hd, et =>
    have et : tng P d = if d / 100 % 10 < P.1 ∧ d / 10 % 10 < P.1 ∧ d % 10 ≤ cro P.2.2.2 (d / 100 % 10) (d / 10 % 10) then some P else none := et
    rw [e2, show d / 10 % 10 = m / 10 by omega, show d % 10 = m % 10 by omega] at et
    refine xe_tableIn 200 dX11_tryThing_1 (by decide) (by decide) rfl (by decide) ?_
    have no : tng P d = none → ∀ lv : List Value, Ev xs L mX11_tryThing 240 lv [] GS σ GS (fun w t => w = some (.int (bI (tng P d).isSome)) ∧ Lv t 1 ((tng P d).getD P) ∧ FT σ t) := by
      intro et lv
      rw [et]
      refine xe_iconst (v := nI 0) dX11_tryThing_240 (by decide) ?_
      exact xe_zret dX11_tryThing_241 rfl (by decide) ⟨rfl, h, FT.rf σ⟩
    have hcr := cro_lt h48 a (m / 10)
    refine xe_aload_n dX11_tryThing_200 rfl ?_
    refine xe_iload_n dX11_tryThing_201 rfl ?_
    refine e_callVp (G := GS) (r := 110) (M_isThread (by omega) hT) dX11_tryThing_202 kvX11_159 gk_110 rfl ?_
    rw [hasT_n (by omega) (by omega)]
    refine xz_if_eq 240 dX11_tryThing_205 (by decide) (fun c => ?_) (fun c => ?_)
    · exact no (by rw [et, if_neg (fun q => of_decide_eq_false c q.1)]) _
    refine xe_aload_n dX11_tryThing_208 rfl ?_
    refine xe_iload_n dX11_tryThing_209 rfl ?_
    refine xe_bipush (v := nI 10) dX11_tryThing_210 (by decide) ?_
    refine xn_idiv dX11_tryThing_212 (by omega) (by decide) (by decide) ?_
    refine e_callVp (G := GS) (r := 110) (M_isThread (by omega) hT) dX11_tryThing_213 kvX11_159 gk_110 rfl ?_
    rw [hasT_n (by omega) (by omega)]
    refine xz_if_eq 240 dX11_tryThing_216 (by decide) (fun c2 => ?_) (fun c2 => ?_)
    · exact no (by rw [et, if_neg (fun q => of_decide_eq_false c2 q.2.1)]) _
    have c := of_decide_eq_true c
    have c2 := of_decide_eq_true c2
    refine xe_aload_n dX11_tryThing_219 rfl ?_
    refine xe_iconst (v := nI 1) dX11_tryThing_220 (by decide) ?_
    refine xe_iload_n dX11_tryThing_221 rfl ?_
    refine xe_iload_n dX11_tryThing_222 rfl ?_
    refine xe_bipush (v := nI 10) dX11_tryThing_223 (by decide) ?_
    refine xn_idiv dX11_tryThing_225 (by omega) (by decide) (by decide) ?_
    refine e_callVp (G := GS) (r := 110) (M_crossesOfTwo h (show a < 4 by omega) (show m / 10 < 4 by omega)) dX11_tryThing_226 kvX11_207 gk_110 rfl ?_
    refine xe_iload_n dX11_tryThing_229 rfl ?_
    refine xe_bipush (v := nI 10) dX11_tryThing_230 (by decide) ?_
    refine xn_irem dX11_tryThing_232 (by omega) (by decide) (by decide) ?_
    refine xn_icmp_lt 240 dX11_tryThing_233 (by decide) (by omega) (by omega) (fun c3 => ?_) (fun c3 => ?_)
    · exact no (by rw [et, if_neg (fun q => by omega)]) _
    rw [if_pos ⟨c, c2, c3⟩] at et
    rw [et]
    refine xe_iconst (v := nI 1) dX11_tryThing_236 (by decide) ?_
    refine xe_goto 241 dX11_tryThing_237 (by decide) ?_
    exact xe_zret dX11_tryThing_241 rfl (by decide) ⟨rfl, h, FT.rf σ⟩
  | 7, _, hd, et =>
    have et : tng P d = if d < 7100 ∧ d % 100 ≤ prt (jm P.2.2.2) then some P else none := et
    rw [e3] at et
    refine xe_tableIn 242 dX11_tryThing_1 (by decide) (by decide) rfl (by decide) ?_
    have no : tng P d = none → ∀ (t : xS) (lv : List Value), Lv t 1 P → FT σ t → Ev xs L mX11_tryThing 259 lv [] GS t GS (fun w t => w = some (.int (bI (tng P d).isSome)) ∧ Lv t 1 ((tng P d).getD P) ∧ FT σ t) := by
      intro et t lv ht hf
      rw [et]
      refine xe_iconst (v := nI 0) dX11_tryThing_259 (by decide) ?_
      exact xe_zret dX11_tryThing_260 rfl (by decide) ⟨rfl, ht, hf⟩
    have hpl := prt_lt (jm P.2.2.2)
    refine xe_iload_n dX11_tryThing_242 rfl ?_
    refine xn_if_ne 259 dX11_tryThing_243 (by decide) (by omega) (fun c => ?_) (fun c => ?_)
    · exact no (by rw [et, if_neg (by omega)]) _ _ h (FT.rf σ)
    refine xe_aload_n dX11_tryThing_246 rfl ?_
    refine xe_iconst (v := nI 1) dX11_tryThing_247 (by decide) ?_
    refine e_callV (G := GS) (r := 110) (M_partsOn h) dX11_tryThing_248 kvX11_213 gk_110 rfl ?_
    rintro w t ⟨rfl, f2⟩
    refine xe_iload_n dX11_tryThing_251 rfl ?_
    refine xn_icmp_lt 259 dX11_tryThing_252 (by decide) (by omega) (by omega) (fun c3 => ?_) (fun c3 => ?_)
    · exact no (by rw [et, if_neg (by omega)]) _ _ (h.fa f2 (by decide)) (FT.fa f2)
    rw [if_pos ⟨by omega, c3⟩] at et
    rw [et]
    refine xe_iconst (v := nI 1) dX11_tryThing_255 (by decide) ?_
    refine xe_goto 260 dX11_tryThing_256 (by decide) ?_
    exact xe_zret dX11_tryThing_260 rfl (by decide) ⟨rfl, h.fa f2 (by decide), FT.fa f2⟩
  | 8, _, _, et =>
    refine xe_tableOut 261 dX11_tryThing_1 (Or.inr (by decide)) (by decide) ?_
    exact out _ et
  | 9, _, _, et =>
    refine xe_tableOut 261 dX11_tryThing_1 (Or.inr (by decide)) (by decide) ?_
    exact out _ et
  | k + 10, hk, _, _ => omega
end MT
