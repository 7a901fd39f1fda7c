/-! ===== the judge ===== -/
theorem inn_congr {α : Type} {F G : Nat → Nat → α → α} {i N : Nat} (h : ∀ j s, i + j < N → F i j s = G i j s) : ∀ (r j : Nat) (s : α), i + j + r ≤ N → inn F i r j s = inn G i r j s := by
  intro r
  induction r with
  | zero => intro j s _; rfl
  | succ r ih => intro j s hj; rw [inn, inn, h j s (by omega)]; exact ih (j + 1) _ (by omega)
theorem out2_congr {α : Type} {F G : Nat → Nat → α → α} {N : Nat} (h : ∀ i j s, i + j < N → F i j s = G i j s) : ∀ (r i : Nat) (s : α), i + r ≤ N → out2 F N r i s = out2 G N r i s := by
  intro r
  induction r with
  | zero => intro i s _; rfl
  | succ r ih => intro i s hi; rw [out2, out2, inn_congr (N := N) (fun j s => h i j s) (N - i) 0 s (by omega)]; exact ih (i + 1) _ (by omega)
def gV (c : Nat → Int32) (X Y : sI) (i j : Nat) (v : sI) : sI := if c (5 * i + j) = 0 then v else iaddT v (cel X Y i j) (c (5 * i + j)).toInt64
def gS (b : Bool) (c : Nat → Int32) (X Y : sI) (i j : Nat) (v : sI) : sI :=
  if (if b then c (5 * (i + 1) + j) * nI (i + 1) else c (5 * i + (j + 1)) * nI (j + 1)) = 0 then v else iaddT v (cel X Y i j) (if b then c (5 * (i + 1) + j) * nI (i + 1) else c (5 * i + (j + 1)) * nI (j + 1)).toInt64
def pV (c : Nat → Int32) (X Y : sI) : sI := out2 (gV c X Y) 5 5 0 (0, 0)
def pS (b : Bool) (c : Nat → Int32) (X Y : sI) : sI := out2 (gS b c X Y) 4 4 0 (0, 0)
theorem vsum_full {Z : Nat → sI} {gb : Nat} {X Y : sI} (hF : Full Z gb X Y) (c : Nat → Int32) : vsum c (fun k => Z (gb + k)) = pV c X Y := by
  unfold vsum pV
  refine out2_congr (fun i j s h => ?_) 5 0 _ (by omega)
  unfold fV gV
  dsimp only
  rw [hF i j (by omega)]
theorem ssum_full {Z : Nat → sI} {gb : Nat} {X Y : sI} (hF : Full Z gb X Y) (b : Bool) (c : Nat → Int32) : ssum b c (fun k => Z (gb + k)) = pS b c X Y := by
  unfold ssum pS
  refine out2_congr (fun i j s h => ?_) 4 0 _ (by omega)
  unfold fS gS
  dsimp only
  rw [hF i j (by omega)]
def icross (a b c d : sI) : sI := iless (iprod a b) (iprod c d)
def mid (X : sI) : sI := (fdiv (X.1 + X.2) 2, fdiv (X.1 + X.2) 2)
abbrev hz (a : sI) : Prop := ¬ 0 < a.1 ∧ ¬ a.2 < 0
/-- a span without 0 that may be divided by -/
def nzD (D : sI) : Prop := ¬ hz D → ¬ D.1 = 0 ∧ ¬ D.2 = 0
def fD (cf cg : Nat → Int32) (X Y : sI) : sI := icross (pS true cf X Y) (pS false cg X Y) (pS false cf X Y) (pS true cg X Y)
def fFX (cf cg : Nat → Int32) (X Y : sI) : sI := iless (mid X) (iquot (icross (pS false cg X Y) (pV cf (mid X) (mid Y)) (pS false cf X Y) (pV cg (mid X) (mid Y))) (fD cf cg X Y))
def fFY (cf cg : Nat → Int32) (X Y : sI) : sI := iless (mid Y) (iquot (icross (pS true cf X Y) (pV cg (mid X) (mid Y)) (pS true cg X Y) (pV cf (mid X) (mid Y))) (fD cf cg X Y))
section
variable {d p q ep eq : Nat} {σ : rb_S} {Z : Nat → sI} {cf cg : Nat → Int32} {X Y : sI}
theorem q_boxX (hJ : JF σ) : rb_R (d + 1) 24 [.ref 12] (js σ Z) = some (some (.ref 13), js σ Z) := by
  have h12' := (js_no (σ := σ) (Z := Z) (k := 12) (by omega)).trans hJ.1
  rw [en_24 (k := 40) (ls := [some (.ref 12)]) rfl]
  simp only [rb_gg_eq, rb_ct_go, rb_ct_end, rb_ct_ite, Nat.reduceAdd, Nat.zero_add, wr_at, wr_wr, true_and, and_true, and_self, true_or, or_true, false_or, or_false, ↓reduceIte, Nat.reduceLT, Nat.reduceLeDiff, Nat.reduceEqDiff, lg_cmp_ge, lg_cmp_le, lg_cmp_gt, lg_cmp_lt, lg_cmp_eq, Bool.false_eq_true, reduceCtorEq, mg_i, mg_l, decide_true, beq_self_eq_true, Nat.reduceBEq, st_24, dX2_boxX_0, xx_aloadn0, xx_aloadn0N, dX2_boxX_1, xx_getf, zz_f, zz_g, zz_v, List.getElem?_cons_zero, List.getElem?_cons_succ, tf_2_12, dX2_boxX_4, xx_aret, h12']
theorem q_boxY (hJ : JF σ) : rb_R (d + 1) 25 [.ref 12] (js σ Z) = some (some (.ref 14), js σ Z) := by
  have h12' := (js_no (σ := σ) (Z := Z) (k := 12) (by omega)).trans hJ.1
  rw [en_25 (k := 40) (ls := [some (.ref 12)]) rfl]
  simp only [rb_gg_eq, rb_ct_go, rb_ct_end, rb_ct_ite, Nat.reduceAdd, Nat.zero_add, wr_at, wr_wr, true_and, and_true, and_self, true_or, or_true, false_or, or_false, ↓reduceIte, Nat.reduceLT, Nat.reduceLeDiff, Nat.reduceEqDiff, lg_cmp_ge, lg_cmp_le, lg_cmp_gt, lg_cmp_lt, lg_cmp_eq, Bool.false_eq_true, reduceCtorEq, mg_i, mg_l, decide_true, beq_self_eq_true, Nat.reduceBEq, st_25, dX2_boxY_0, xx_aloadn0, xx_aloadn0N, dX2_boxY_1, xx_getf, zz_f, zz_g, zz_v, List.getElem?_cons_zero, List.getElem?_cons_succ, tf_2_18, dX2_boxY_4, xx_aret, h12']
theorem q_steepness (hJ : JF σ) : rb_R (d + 1) 26 [.ref 12] (js σ Z) = some (some (.ref 78), js σ Z) := by
  have h12' := (js_no (σ := σ) (Z := Z) (k := 12) (by omega)).trans hJ.1
  rw [en_26 (k := 40) (ls := [some (.ref 12)]) rfl]
  simp only [rb_gg_eq, rb_ct_go, rb_ct_end, rb_ct_ite, Nat.reduceAdd, Nat.zero_add, wr_at, wr_wr, true_and, and_true, and_self, true_or, or_true, false_or, or_false, ↓reduceIte, Nat.reduceLT, Nat.reduceLeDiff, Nat.reduceEqDiff, lg_cmp_ge, lg_cmp_le, lg_cmp_gt, lg_cmp_lt, lg_cmp_eq, Bool.false_eq_true, reduceCtorEq, mg_i, mg_l, decide_true, beq_self_eq_true, Nat.reduceBEq, st_26, dX2_steepness_0, xx_aloadn0, xx_aloadn0N, dX2_steepness_1, xx_getf, zz_f, zz_g, zz_v, List.getElem?_cons_zero, List.getElem?_cons_succ, tf_2_58, dX2_steepness_4, xx_aret, h12']
theorem q_fenceX (hJ : JF σ) : rb_R (d + 1) 27 [.ref 12] (js σ Z) = some (some (.ref 81), js σ Z) := by
  have h12' := (js_no (σ := σ) (Z := Z) (k := 12) (by omega)).trans hJ.1
  rw [en_27 (k := 40) (ls := [some (.ref 12)]) rfl]
  simp only [rb_gg_eq, rb_ct_go, rb_ct_end, rb_ct_ite, Nat.reduceAdd, Nat.zero_add, wr_at, wr_wr, true_and, and_true, and_self, true_or, or_true, false_or, or_false, ↓reduceIte, Nat.reduceLT, Nat.reduceLeDiff, Nat.reduceEqDiff, lg_cmp_ge, lg_cmp_le, lg_cmp_gt, lg_cmp_lt, lg_cmp_eq, Bool.false_eq_true, reduceCtorEq, mg_i, mg_l, decide_true, beq_self_eq_true, Nat.reduceBEq, st_27, dX2_fenceX_0, xx_aloadn0, xx_aloadn0N, dX2_fenceX_1, xx_getf, zz_f, zz_g, zz_v, List.getElem?_cons_zero, List.getElem?_cons_succ, tf_2_67, dX2_fenceX_4, xx_aret, h12']
theorem q_fenceY (hJ : JF σ) : rb_R (d + 1) 28 [.ref 12] (js σ Z) = some (some (.ref 82), js σ Z) := by
  have h12' := (js_no (σ := σ) (Z := Z) (k := 12) (by omega)).trans hJ.1
  rw [en_28 (k := 40) (ls := [some (.ref 12)]) rfl]
  simp only [rb_gg_eq, rb_ct_go, rb_ct_end, rb_ct_ite, Nat.reduceAdd, Nat.zero_add, wr_at, wr_wr, true_and, and_true, and_self, true_or, or_true, false_or, or_false, ↓reduceIte, Nat.reduceLT, Nat.reduceLeDiff, Nat.reduceEqDiff, lg_cmp_ge, lg_cmp_le, lg_cmp_gt, lg_cmp_lt, lg_cmp_eq, Bool.false_eq_true, reduceCtorEq, mg_i, mg_l, decide_true, beq_self_eq_true, Nat.reduceBEq, st_28, dX2_fenceY_0, xx_aloadn0, xx_aloadn0N, dX2_fenceY_1, xx_getf, zz_f, zz_g, zz_v, List.getElem?_cons_zero, List.getElem?_cons_succ, tf_2_70, dX2_fenceY_4, xx_aret, h12']
theorem q_sharedX (hJ : JF σ) : rb_R (d + 1) 29 [.ref 12] (js σ Z) = some (some (.ref 83), js σ Z) := by
  have h12' := (js_no (σ := σ) (Z := Z) (k := 12) (by omega)).trans hJ.1
  rw [en_29 (k := 40) (ls := [some (.ref 12)]) rfl]
  simp only [rb_gg_eq, rb_ct_go, rb_ct_end, rb_ct_ite, Nat.reduceAdd, Nat.zero_add, wr_at, wr_wr, true_and, and_true, and_self, true_or, or_true, false_or, or_false, ↓reduceIte, Nat.reduceLT, Nat.reduceLeDiff, Nat.reduceEqDiff, lg_cmp_ge, lg_cmp_le, lg_cmp_gt, lg_cmp_lt, lg_cmp_eq, Bool.false_eq_true, reduceCtorEq, mg_i, mg_l, decide_true, beq_self_eq_true, Nat.reduceBEq, st_29, dX2_sharedX_0, xx_aloadn0, xx_aloadn0N, dX2_sharedX_1, xx_getf, zz_f, zz_g, zz_v, List.getElem?_cons_zero, List.getElem?_cons_succ, tf_2_73, dX2_sharedX_4, xx_aret, h12']
theorem q_sharedY (hJ : JF σ) : rb_R (d + 1) 30 [.ref 12] (js σ Z) = some (some (.ref 84), js σ Z) := by
  have h12' := (js_no (σ := σ) (Z := Z) (k := 12) (by omega)).trans hJ.1
  rw [en_30 (k := 40) (ls := [some (.ref 12)]) rfl]
  simp only [rb_gg_eq, rb_ct_go, rb_ct_end, rb_ct_ite, Nat.reduceAdd, Nat.zero_add, wr_at, wr_wr, true_and, and_true, and_self, true_or, or_true, false_or, or_false, ↓reduceIte, Nat.reduceLT, Nat.reduceLeDiff, Nat.reduceEqDiff, lg_cmp_ge, lg_cmp_le, lg_cmp_gt, lg_cmp_lt, lg_cmp_eq, Bool.false_eq_true, reduceCtorEq, mg_i, mg_l, decide_true, beq_self_eq_true, Nat.reduceBEq, st_30, dX2_sharedY_0, xx_aloadn0, xx_aloadn0N, dX2_sharedY_1, xx_getf, zz_f, zz_g, zz_v, List.getElem?_cons_zero, List.getElem?_cons_succ, tf_2_76, dX2_sharedY_4, xx_aret, h12']
theorem q_cross {out a b c e : Nat} (hJ : JF σ) (ho : spK out) (ha : spK a ∧ a ≠ 79 ∧ a ≠ 80) (hb : spK b ∧ b ≠ 79 ∧ b ≠ 80) (hc : spK c ∧ c ≠ 79 ∧ c ≠ 80) (he : spK e ∧ e ≠ 79 ∧ e ≠ 80) : ∃ Z', rb_R (d + 3) 37 [.ref 12, .ref out, .ref a, .ref b, .ref c, .ref e] (js σ Z) = some (none, js σ Z') ∧ Z' out = icross (Z a) (Z b) (Z c) (Z e) ∧ ∀ t, t ≠ 79 → t ≠ 80 → t ≠ out → Z' t = Z t := by
  have h12' := fun Z => (js_no (σ := σ) (Z := Z) (k := 12) (by omega)).trans hJ.1
  obtain ⟨Z1, hZ1⟩ : ∃ Z1, Z1 = va_up Z 79 (iprod (Z a) (Z b)) := ⟨_, rfl⟩
  obtain ⟨Z2, hZ2⟩ : ∃ Z2, Z2 = va_up Z1 80 (iprod (Z c) (Z e)) := ⟨_, rfl⟩
  have s79 : spK 79 := by omega
  have s80 : spK 80 := by omega
  have e1 := j_prod (d := d) (σ := σ) (Z := Z) (t := 79) (a := a) (b := b) s79 ha.1 hb.1
  have e2 := j_prod (d := d) (σ := σ) (Z := Z1) (t := 80) (a := c) (b := e) s80 hc.1 he.1
  have e3 := j_less (d := d) (σ := σ) (Z := Z2) (t := out) (a := 79) (b := 80) ho s79 s80
  rw [← hZ1] at e1
  rw [show Z1 c = Z c by rw [hZ1, va_up_ne _ _ (by omega)], show Z1 e = Z e by rw [hZ1, va_up_ne _ _ (by omega)], ← hZ2] at e2
  rw [show Z2 80 = iprod (Z c) (Z e) by rw [hZ2, va_up_self], show Z2 79 = iprod (Z a) (Z b) by rw [hZ2, va_up_ne _ _ (by omega), hZ1, va_up_self]] at e3
  refine ⟨va_up Z2 out (icross (Z a) (Z b) (Z c) (Z e)), ?_, va_up_self _ _ _, fun t h1 h2 h3 => ?_⟩
  · rw [en_37 (k := 40) (ls := [some (.ref 12), some (.ref out), some (.ref a), some (.ref b), some (.ref c), some (.ref e)]) rfl]
    simp only [rb_gg_eq, rb_ct_go, rb_ct_end, rb_ct_ite, Nat.reduceAdd, Nat.zero_add, wr_at, wr_wr, true_and, and_true, and_self, true_or, or_true, false_or, or_false, ↓reduceIte, Nat.reduceLT, Nat.reduceLeDiff, Nat.reduceEqDiff, lg_cmp_ge, lg_cmp_le, lg_cmp_gt, lg_cmp_lt, lg_cmp_eq, Bool.false_eq_true, reduceCtorEq, mg_i, mg_l, decide_true, beq_self_eq_true, Nat.reduceBEq, st_37, dX2_crossInto_0, xx_aloadn0, xx_aloadn0N, dX2_crossInto_1, xx_getf, zz_f, zz_g, zz_v, List.getElem?_cons_zero, List.getElem?_cons_succ, tf_2_61, dX2_crossInto_4, xx_aloadn2, xx_aloadn2N, dX2_crossInto_5, xx_aloadn3, xx_aloadn3N, dX2_crossInto_6, xx_ivV, zz_c0, zz_c3, zz_c1, zz_c2, zz_c5, zz_c8, zz_c6, zz_R, List.length_cons, List.length_nil, List.take_succ_cons, List.take_zero, List.drop_succ_cons, List.drop_zero, List.reverse_cons, List.reverse_nil, List.nil_append, List.cons_append, rb_cat, List.map_cons, List.map_nil, List.sum_cons, List.sum_nil, Value.category, rb_isR, rb_isS, Option.toList_some, Option.toList_none, tv_2_156, dX2_crossInto_9, dX2_crossInto_10, tf_2_64, dX2_crossInto_13, xx_aload4, xx_aload4N, dX2_crossInto_15, xx_aload5, xx_aload5N, dX2_crossInto_17, dX2_crossInto_20, xx_aloadn1, xx_aloadn1N, dX2_crossInto_21, dX2_crossInto_22, dX2_crossInto_25, dX2_crossInto_26, dX2_crossInto_29, tv_2_141, dX2_crossInto_32, xx_vret, h12', e1, e2, e3, js_at s79, js_at s80, js_at ho]
    rfl
  · rw [va_up_ne _ _ h3, hZ2, va_up_ne _ _ h2, hZ1, va_up_ne _ _ h1]
theorem Full.away {Z Z' : Nat → sI} {gb : Nat} {X Y : sI} (h : Full Z gb X Y) (he : ∀ t, gb ≤ t → t < gb + 25 → Z' t = Z t) : Full Z' gb X Y := fun i j hij => (he _ (by omega) (by omega)).trans (h i j hij)
theorem q_find (hnz : nzD (fD cf cg X Y)) (hJ : JF σ) (hp : PF σ p ep cf) (hq : PF σ q eq cg) (hX : Z 13 = X) (hY : Z 14 = Y) (hF : Full Z 17 X Y) : ∃ Z', rb_R (d + 4) 34 [.ref 12, .ref p, .ref q] (js σ Z) = some (some (.int (if hz (fD cf cg X Y) then 0 else 1)), js σ Z') ∧ Z' 13 = X ∧ Z' 14 = Y ∧ Z' 78 = fD cf cg X Y ∧ (¬ hz (fD cf cg X Y) → Z' 81 = fFX cf cg X Y ∧ Z' 82 = fFY cf cg X Y) := by
  have h12' := fun Z => (js_no (σ := σ) (Z := Z) (k := 12) (by omega)).trans hJ.1
  have h44' := fun Z => (js_no (σ := σ) (Z := Z) (k := 44) (by omega)).trans hJ.2.2.2.1
  have k13 : spK 13 := by omega
  have k14 : spK 14 := by omega
  have k42 : spK 42 := by omega
  have k43 : spK 43 := by omega
  have k71 : spK 71 := by omega
  have k72 : spK 72 := by omega
  have k73 : spK 73 := by omega
  have k74 : spK 74 := by omega
  have k75 : spK 75 := by omega
  have k76 : spK 76 := by omega
  have k77 : spK 77 := by omega
  have k78 : spK 78 := by omega
  have k81 : spK 81 := by omega
  have k82 : spK 82 := by omega
  -- the point
  obtain ⟨Z1, hZ1⟩ : ∃ Z1, Z1 = va_up Z 42 (mid X) := ⟨_, rfl⟩
  obtain ⟨Z2, hZ2⟩ : ∃ Z2, Z2 = va_up Z1 43 (mid Y) := ⟨_, rfl⟩
  have e0 := j_middle (d := d + 1) (σ := σ) (Z := Z) (t := 13) k13
  have e1 := j_become (d := d + 2) (σ := σ) (Z := Z) (t := 42) (x := fdiv (X.1 + X.2) 2) (y := fdiv (X.1 + X.2) 2) k42
  have e0' := j_middle (d := d + 1) (σ := σ) (Z := Z1) (t := 14) k14
  have e1' := j_become (d := d + 2) (σ := σ) (Z := Z1) (t := 43) (x := fdiv (Y.1 + Y.2) 2) (y := fdiv (Y.1 + Y.2) 2) k43
  have z1 : ∀ t, t ≠ 42 → Z1 t = Z t := fun t h => by rw [hZ1, va_up_ne _ _ h]
  have z2 : ∀ t, t ≠ 42 → t ≠ 43 → Z2 t = Z t := fun t h h' => by rw [hZ2, va_up_ne _ _ h', z1 t h]
  have m1 : Z2 42 = mid X := by rw [hZ2, va_up_ne _ _ (by omega), hZ1, va_up_self]
  have m2 : Z2 43 = mid Y := by rw [hZ2, va_up_self]
  rw [hX] at e0
  rw [z1 14 (by omega), hY] at e0'
  rw [show va_up Z 42 (fdiv (X.1 + X.2) 2, fdiv (X.1 + X.2) 2) = Z1 from hZ1.symm] at e1
  rw [show va_up Z1 43 (fdiv (Y.1 + Y.2) 2, fdiv (Y.1 + Y.2) 2) = Z2 from hZ2.symm] at e1'
  -- the slopes
  obtain ⟨Z3, hZ3⟩ : ∃ Z3, Z3 = va_up Z2 74 (pS true cf X Y) := ⟨_, rfl⟩
  obtain ⟨Z4, hZ4⟩ : ∃ Z4, Z4 = va_up Z3 75 (pS false cf X Y) := ⟨_, rfl⟩
  obtain ⟨Z5, hZ5⟩ : ∃ Z5, Z5 = va_up Z4 76 (pS true cg X Y) := ⟨_, rfl⟩
  obtain ⟨Z6, hZ6⟩ : ∃ Z6, Z6 = va_up Z5 77 (pS false cg X Y) := ⟨_, rfl⟩
  have z3 : ∀ t, t ≠ 74 → Z3 t = Z2 t := fun t h => by rw [hZ3, va_up_ne _ _ h]
  have z4 : ∀ t, t ≠ 74 → t ≠ 75 → Z4 t = Z2 t := fun t h h' => by rw [hZ4, va_up_ne _ _ h', z3 t h]
  have z5 : ∀ t, t ≠ 74 → t ≠ 75 → t ≠ 76 → Z5 t = Z2 t := fun t h h' h2 => by rw [hZ5, va_up_ne _ _ h2, z4 t h h']
  have z6 : ∀ t, t ≠ 74 → t ≠ 75 → t ≠ 76 → t ≠ 77 → Z6 t = Z2 t := fun t h h' h2 h3 => by rw [hZ6, va_up_ne _ _ h3, z5 t h h' h2]
  have F2 : Full Z2 17 X Y := hF.away fun t h h' => z2 t (by omega) (by omega)
  have F3 : Full Z3 17 X Y := F2.away fun t h h' => z3 t (by omega)
  have F4 : Full Z4 17 X Y := F2.away fun t h h' => z4 t (by omega) (by omega)
  have F5 : Full Z5 17 X Y := F2.away fun t h h' => z5 t (by omega) (by omega) (by omega)
  have e2 := q_sinto (d := d) (s := 74) (b := true) (Z := Z2) k74 hp hJ (by omega)
  have e3 := q_sinto (d := d) (s := 75) (b := false) (Z := Z3) k75 hp hJ (by omega)
  have e4 := q_sinto (d := d) (s := 76) (b := true) (Z := Z4) k76 hq hJ (by omega)
  have e5 := q_sinto (d := d) (s := 77) (b := false) (Z := Z5) k77 hq hJ (by omega)
  rw [ssum_full F2, ← hZ3, show bI true = 1 from rfl] at e2
  rw [ssum_full F3, ← hZ4, show bI false = 0 from rfl] at e3
  rw [ssum_full F4, ← hZ5, show bI true = 1 from rfl] at e4
  rw [ssum_full F5, ← hZ6, show bI false = 0 from rfl] at e5
  have a74 : Z6 74 = pS true cf X Y := by simp [hZ6, hZ5, hZ4, hZ3, va_up]
  have a75 : Z6 75 = pS false cf X Y := by simp [hZ6, hZ5, hZ4, va_up]
  have a76 : Z6 76 = pS true cg X Y := by simp [hZ6, hZ5, va_up]
  have a77 : Z6 77 = pS false cg X Y := by simp [hZ6, va_up]
  -- D
  obtain ⟨Z7, e6, a78, z7⟩ := q_cross (d := d) (σ := σ) (Z := Z6) (out := 78) (a := 74) (b := 77) (c := 75) (e := 76) hJ k78 (by omega) (by omega) (by omega) (by omega)
  rw [a74, a75, a76, a77] at a78
  change Z7 78 = fD cf cg X Y at a78
  have z7' : ∀ t, t ≠ 42 → t ≠ 43 → (t < 74 ∨ 80 < t) → Z7 t = Z t := fun t h h' h2 => by rw [z7 t (by omega) (by omega) (by omega), z6 t (by omega) (by omega) (by omega) (by omega), z2 t h h']
  have e7 := j_hasZero (d := d + 2) (σ := σ) (Z := Z7) (t := 78) k78
  rw [a78] at e7
  have n13 : Z7 13 = X := by rw [z7' 13 (by omega) (by omega) (by omega), hX]
  have n14 : Z7 14 = Y := by rw [z7' 14 (by omega) (by omega) (by omega), hY]
  by_cases hD : hz (fD cf cg X Y)
  · rw [if_pos hD]
    rw [if_neg hD.1, if_neg hD.2] at e7
    refine ⟨Z7, ?_, n13, n14, a78, fun h => absurd hD h⟩
    rw [en_34 (k := 140) (ls := [some (.ref 12), some (.ref p), some (.ref q)]) rfl]
    simp only [rb_gg_eq, rb_ct_go, rb_ct_end, rb_ct_ite, Nat.reduceAdd, Nat.zero_add, wr_at, wr_wr, true_and, and_true, and_self, true_or, or_true, false_or, or_false, ↓reduceIte, Nat.reduceLT, Nat.reduceLeDiff, Nat.reduceEqDiff, lg_cmp_ge, lg_cmp_le, lg_cmp_gt, lg_cmp_lt, lg_cmp_eq, Bool.false_eq_true, reduceCtorEq, mg_i, mg_l, decide_true, beq_self_eq_true, Nat.reduceBEq, st_34, dX2_findFence_0, xx_aloadn0, xx_aloadn0N, dX2_findFence_1, xx_getf, zz_f, zz_g, zz_v, List.getElem?_cons_zero, List.getElem?_cons_succ, tf_2_28, dX2_findFence_4, dX2_findFence_5, tf_2_12, dX2_findFence_8, xx_ivV, zz_c0, zz_c3, zz_c1, zz_c2, zz_c5, zz_c8, zz_c6, zz_R, List.length_cons, List.length_nil, List.take_succ_cons, List.take_zero, List.drop_succ_cons, List.drop_zero, List.reverse_cons, List.reverse_nil, List.nil_append, List.cons_append, rb_cat, List.map_cons, List.map_nil, List.sum_cons, List.sum_nil, Value.category, rb_isR, rb_isS, Option.toList_some, Option.toList_none, tv_2_131, dX2_findFence_11, dX2_findFence_12, dX2_findFence_15, dX2_findFence_18, tv_2_85, dX2_findFence_21, dX2_findFence_22, tf_2_31, dX2_findFence_25, dX2_findFence_26, tf_2_18, dX2_findFence_29, dX2_findFence_32, dX2_findFence_33, dX2_findFence_36, dX2_findFence_39, dX2_findFence_42, dX2_findFence_43, dX2_findFence_44, tf_2_46, dX2_findFence_47, xx_aloadn1, xx_aloadn1N, dX2_findFence_48, xx_iconst, kc_1, dX2_findFence_49, tv_2_97, dX2_findFence_52, dX2_findFence_53, dX2_findFence_54, tf_2_49, dX2_findFence_57, dX2_findFence_58, kc_0, dX2_findFence_59, dX2_findFence_62, dX2_findFence_63, dX2_findFence_64, tf_2_52, dX2_findFence_67, xx_aloadn2, xx_aloadn2N, dX2_findFence_68, dX2_findFence_69, dX2_findFence_72, dX2_findFence_73, dX2_findFence_74, tf_2_55, dX2_findFence_77, dX2_findFence_78, dX2_findFence_79, dX2_findFence_82, dX2_findFence_83, dX2_findFence_84, tf_2_58, dX2_findFence_87, dX2_findFence_88, dX2_findFence_91, dX2_findFence_92, dX2_findFence_95, dX2_findFence_96, dX2_findFence_99, dX2_findFence_100, dX2_findFence_103, tv_2_134, dX2_findFence_106, dX2_findFence_107, dX2_findFence_110, tv_2_105, dX2_findFence_113, xx_ifeq, rb_jp, Int.cast_ofNat_Int, Int.reduceAdd, Int.reduceLE, Int.reduceToNat, Int.reduceNeg, dX2_findFence_116, dX2_findFence_117, xx_iret, xx_zret0, xx_zret1, dX2_findFence_118, dX2_findFence_119, tf_2_34, dX2_findFence_122, dX2_findFence_123, dX2_findFence_126, dX2_findFence_127, dX2_findFence_130, tv_2_89, dX2_findFence_133, dX2_findFence_134, tf_2_40, dX2_findFence_137, dX2_findFence_138, dX2_findFence_139, dX2_findFence_142, xx_ivS, tv_2_93, dX2_findFence_145, dX2_findFence_146, tf_2_43, dX2_findFence_149, dX2_findFence_150, dX2_findFence_151, dX2_findFence_154, dX2_findFence_157, dX2_findFence_158, dX2_findFence_159, tf_2_37, dX2_findFence_162, dX2_findFence_163, dX2_findFence_166, dX2_findFence_167, dX2_findFence_170, dX2_findFence_171, dX2_findFence_174, dX2_findFence_175, dX2_findFence_178, dX2_findFence_181, dX2_findFence_182, tf_2_67, dX2_findFence_185, dX2_findFence_186, dX2_findFence_189, dX2_findFence_190, dX2_findFence_193, tv_2_138, dX2_findFence_196, dX2_findFence_197, dX2_findFence_200, dX2_findFence_201, dX2_findFence_204, dX2_findFence_205, dX2_findFence_208, tv_2_141, dX2_findFence_211, dX2_findFence_212, dX2_findFence_213, dX2_findFence_216, dX2_findFence_217, dX2_findFence_220, dX2_findFence_221, dX2_findFence_224, dX2_findFence_225, dX2_findFence_228, dX2_findFence_229, dX2_findFence_232, dX2_findFence_235, dX2_findFence_236, tf_2_70, dX2_findFence_239, dX2_findFence_240, dX2_findFence_243, dX2_findFence_244, dX2_findFence_247, dX2_findFence_250, dX2_findFence_251, dX2_findFence_254, dX2_findFence_255, dX2_findFence_258, dX2_findFence_259, dX2_findFence_262, dX2_findFence_265, dX2_findFence_266, h12', e0, e1, e0', e1', e2, e3, e4, e5, e6, e7, js_at k42, js_at k43, js_at k13, js_at k14, js_at k78, show ((1 : Int32) = 0) = False from eq_false (by decide)]
  · rw [if_neg hD]
    have h7 : (if 0 < (fD cf cg X Y).1 then (0 : Int32) else if (fD cf cg X Y).2 < 0 then 0 else 1) = 0 := by
      by_cases h1 : 0 < (fD cf cg X Y).1
      · rw [if_pos h1]
      · rw [if_neg h1]
        by_cases h2 : (fD cf cg X Y).2 < 0
        · rw [if_pos h2]
        · exact absurd ⟨h1, h2⟩ hD
    rw [h7] at e7
    have nz := hnz hD
    -- values at the point
    obtain ⟨Z8, e8, F8, z8⟩ := q_fill (d := d) (σ := σ) (Z0 := Z7) (xa := 42) (ya := 43) hJ.2.2 k42 k43 (by omega) (by omega)
    rw [z7 42 (by omega) (by omega) (by omega), z6 42 (by omega) (by omega) (by omega) (by omega), m1, z7 43 (by omega) (by omega) (by omega), z6 43 (by omega) (by omega) (by omega) (by omega), m2] at F8
    obtain ⟨Z9, hZ9⟩ : ∃ Z9, Z9 = va_up Z8 72 (pV cf (mid X) (mid Y)) := ⟨_, rfl⟩
    obtain ⟨Z10, hZ10⟩ : ∃ Z10, Z10 = va_up Z9 73 (pV cg (mid X) (mid Y)) := ⟨_, rfl⟩
    have z9 : ∀ t, t ≠ 72 → Z9 t = Z8 t := fun t h => by rw [hZ9, va_up_ne _ _ h]
    have z10 : ∀ t, t ≠ 72 → t ≠ 73 → (t < 46 ∨ 71 ≤ t) → Z10 t = Z7 t := fun t h h' h2 => by rw [hZ10, va_up_ne _ _ h', z9 t h, z8 t (by omega)]
    have F9 : Full Z9 46 (mid X) (mid Y) := F8.away fun t h h' => z9 t (by omega)
    have e9 := q_vinto (d := d) (s := 72) (σ := σ) (Z := Z8) k72 hp hJ.2.2 (by omega)
    have e10 := q_vinto (d := d) (s := 73) (σ := σ) (Z := Z9) k73 hq hJ.2.2 (by omega)
    rw [vsum_full F8, ← hZ9] at e9
    rw [vsum_full F9, ← hZ10] at e10
    have b72 : Z10 72 = pV cf (mid X) (mid Y) := by rw [hZ10, va_up_ne _ _ (by omega), hZ9, va_up_self]
    have b73 : Z10 73 = pV cg (mid X) (mid Y) := by rw [hZ10, va_up_self]
    have b42 : Z10 42 = mid X := by rw [z10 42 (by omega) (by omega) (by omega), z7 42 (by omega) (by omega) (by omega), z6 42 (by omega) (by omega) (by omega) (by omega), m1]
    have b43 : Z10 43 = mid Y := by rw [z10 43 (by omega) (by omega) (by omega), z7 43 (by omega) (by omega) (by omega), z6 43 (by omega) (by omega) (by omega) (by omega), m2]
    have b74 : Z10 74 = pS true cf X Y := by rw [z10 74 (by omega) (by omega) (by omega), z7 74 (by omega) (by omega) (by omega), a74]
    have b75 : Z10 75 = pS false cf X Y := by rw [z10 75 (by omega) (by omega) (by omega), z7 75 (by omega) (by omega) (by omega), a75]
    have b76 : Z10 76 = pS true cg X Y := by rw [z10 76 (by omega) (by omega) (by omega), z7 76 (by omega) (by omega) (by omega), a76]
    have b77 : Z10 77 = pS false cg X Y := by rw [z10 77 (by omega) (by omega) (by omega), z7 77 (by omega) (by omega) (by omega), a77]
    have b78 : Z10 78 = fD cf cg X Y := by rw [z10 78 (by omega) (by omega) (by omega), a78]
    -- x
    obtain ⟨Z11, e11, b71, z11⟩ := q_cross (d := d) (σ := σ) (Z := Z10) (out := 71) (a := 77) (b := 72) (c := 75) (e := 73) hJ k71 (by omega) (by omega) (by omega) (by omega)
    rw [b77, b72, b75, b73] at b71
    have c78 : Z11 78 = fD cf cg X Y := by rw [z11 78 (by omega) (by omega) (by omega), b78]
    have e12 := j_quot (d := d) (σ := σ) (Z := Z11) (t := 81) (a := 71) (b := 78) k81 k71 k78 (by rw [c78]; exact nz.1) (by rw [c78]; exact nz.2)
    obtain ⟨Z12, hZ12⟩ : ∃ Z12, Z12 = va_up Z11 81 (iquot (Z11 71) (Z11 78)) := ⟨_, rfl⟩
    rw [← hZ12] at e12
    have e13 := j_less (d := d + 1) (σ := σ) (Z := Z12) (t := 81) (a := 42) (b := 81) k81 k42 k81
    have f81 : iless (Z12 42) (Z12 81) = fFX cf cg X Y := by
      rw [hZ12, va_up_self, va_up_ne _ _ (by omega), b71, c78, z11 42 (by omega) (by omega) (by omega), b42]
      rfl
    rw [f81] at e13
    obtain ⟨Z13, hZ13⟩ : ∃ Z13, Z13 = va_up Z12 81 (fFX cf cg X Y) := ⟨_, rfl⟩
    rw [← hZ13] at e13
    have z13 : ∀ t, t ≠ 71 → t ≠ 79 → t ≠ 80 → t ≠ 81 → Z13 t = Z10 t := fun t h1 h2 h3 h4 => by rw [hZ13, va_up_ne _ _ h4, hZ12, va_up_ne _ _ h4, z11 t h2 h3 h1]
    -- y
    obtain ⟨Z14, e14, d71, z14⟩ := q_cross (d := d) (σ := σ) (Z := Z13) (out := 71) (a := 74) (b := 73) (c := 76) (e := 72) hJ k71 (by omega) (by omega) (by omega) (by omega)
    rw [z13 74 (by omega) (by omega) (by omega) (by omega), z13 73 (by omega) (by omega) (by omega) (by omega), z13 76 (by omega) (by omega) (by omega) (by omega), z13 72 (by omega) (by omega) (by omega) (by omega), b74, b72, b76, b73] at d71
    have d78 : Z14 78 = fD cf cg X Y := by rw [z14 78 (by omega) (by omega) (by omega), z13 78 (by omega) (by omega) (by omega) (by omega), b78]
    have e15 := j_quot (d := d) (σ := σ) (Z := Z14) (t := 82) (a := 71) (b := 78) k82 k71 k78 (by rw [d78]; exact nz.1) (by rw [d78]; exact nz.2)
    obtain ⟨Z15, hZ15⟩ : ∃ Z15, Z15 = va_up Z14 82 (iquot (Z14 71) (Z14 78)) := ⟨_, rfl⟩
    rw [← hZ15] at e15
    have e16 := j_less (d := d + 1) (σ := σ) (Z := Z15) (t := 82) (a := 43) (b := 82) k82 k43 k82
    have f82 : iless (Z15 43) (Z15 82) = fFY cf cg X Y := by
      rw [hZ15, va_up_self, va_up_ne _ _ (by omega), d71, d78, z14 43 (by omega) (by omega) (by omega), z13 43 (by omega) (by omega) (by omega) (by omega), b43]
      rfl
    rw [f82] at e16
    obtain ⟨Z16, hZ16⟩ : ∃ Z16, Z16 = va_up Z15 82 (fFY cf cg X Y) := ⟨_, rfl⟩
    rw [← hZ16] at e16
    have z16 : ∀ t, t ≠ 71 → t ≠ 79 → t ≠ 80 → t ≠ 82 → Z16 t = Z13 t := fun t h1 h2 h3 h4 => by rw [hZ16, va_up_ne _ _ h4, hZ15, va_up_ne _ _ h4, z14 t h2 h3 h1]
    refine ⟨Z16, ?_, ?_, ?_, ?_, fun _ => ⟨?_, ?_⟩⟩
    · rw [en_34 (k := 240) (ls := [some (.ref 12), some (.ref p), some (.ref q)]) rfl]
      simp only [rb_gg_eq, rb_ct_go, rb_ct_end, rb_ct_ite, Nat.reduceAdd, Nat.zero_add, wr_at, wr_wr, true_and, and_true, and_self, true_or, or_true, false_or, or_false, ↓reduceIte, Nat.reduceLT, Nat.reduceLeDiff, Nat.reduceEqDiff, lg_cmp_ge, lg_cmp_le, lg_cmp_gt, lg_cmp_lt, lg_cmp_eq, Bool.false_eq_true, reduceCtorEq, mg_i, mg_l, decide_true, beq_self_eq_true, Nat.reduceBEq, st_34, dX2_findFence_0, xx_aloadn0, xx_aloadn0N, dX2_findFence_1, xx_getf, zz_f, zz_g, zz_v, List.getElem?_cons_zero, List.getElem?_cons_succ, tf_2_28, dX2_findFence_4, dX2_findFence_5, tf_2_12, dX2_findFence_8, xx_ivV, zz_c0, zz_c3, zz_c1, zz_c2, zz_c5, zz_c8, zz_c6, zz_R, List.length_cons, List.length_nil, List.take_succ_cons, List.take_zero, List.drop_succ_cons, List.drop_zero, List.reverse_cons, List.reverse_nil, List.nil_append, List.cons_append, rb_cat, List.map_cons, List.map_nil, List.sum_cons, List.sum_nil, Value.category, rb_isR, rb_isS, Option.toList_some, Option.toList_none, tv_2_131, dX2_findFence_11, dX2_findFence_12, dX2_findFence_15, dX2_findFence_18, tv_2_85, dX2_findFence_21, dX2_findFence_22, tf_2_31, dX2_findFence_25, dX2_findFence_26, tf_2_18, dX2_findFence_29, dX2_findFence_32, dX2_findFence_33, dX2_findFence_36, dX2_findFence_39, dX2_findFence_42, dX2_findFence_43, dX2_findFence_44, tf_2_46, dX2_findFence_47, xx_aloadn1, xx_aloadn1N, dX2_findFence_48, xx_iconst, kc_1, dX2_findFence_49, tv_2_97, dX2_findFence_52, dX2_findFence_53, dX2_findFence_54, tf_2_49, dX2_findFence_57, dX2_findFence_58, kc_0, dX2_findFence_59, dX2_findFence_62, dX2_findFence_63, dX2_findFence_64, tf_2_52, dX2_findFence_67, xx_aloadn2, xx_aloadn2N, dX2_findFence_68, dX2_findFence_69, dX2_findFence_72, dX2_findFence_73, dX2_findFence_74, tf_2_55, dX2_findFence_77, dX2_findFence_78, dX2_findFence_79, dX2_findFence_82, dX2_findFence_83, dX2_findFence_84, tf_2_58, dX2_findFence_87, dX2_findFence_88, dX2_findFence_91, dX2_findFence_92, dX2_findFence_95, dX2_findFence_96, dX2_findFence_99, dX2_findFence_100, dX2_findFence_103, tv_2_134, dX2_findFence_106, dX2_findFence_107, dX2_findFence_110, tv_2_105, dX2_findFence_113, xx_ifeq, rb_jp, Int.cast_ofNat_Int, Int.reduceAdd, Int.reduceLE, Int.reduceToNat, Int.reduceNeg, dX2_findFence_116, dX2_findFence_117, xx_iret, xx_zret0, xx_zret1, dX2_findFence_118, dX2_findFence_119, tf_2_34, dX2_findFence_122, dX2_findFence_123, dX2_findFence_126, dX2_findFence_127, dX2_findFence_130, tv_2_89, dX2_findFence_133, dX2_findFence_134, tf_2_40, dX2_findFence_137, dX2_findFence_138, dX2_findFence_139, dX2_findFence_142, xx_ivS, tv_2_93, dX2_findFence_145, dX2_findFence_146, tf_2_43, dX2_findFence_149, dX2_findFence_150, dX2_findFence_151, dX2_findFence_154, dX2_findFence_157, dX2_findFence_158, dX2_findFence_159, tf_2_37, dX2_findFence_162, dX2_findFence_163, dX2_findFence_166, dX2_findFence_167, dX2_findFence_170, dX2_findFence_171, dX2_findFence_174, dX2_findFence_175, dX2_findFence_178, dX2_findFence_181, dX2_findFence_182, tf_2_67, dX2_findFence_185, dX2_findFence_186, dX2_findFence_189, dX2_findFence_190, dX2_findFence_193, tv_2_138, dX2_findFence_196, dX2_findFence_197, dX2_findFence_200, dX2_findFence_201, dX2_findFence_204, dX2_findFence_205, dX2_findFence_208, tv_2_141, dX2_findFence_211, dX2_findFence_212, dX2_findFence_213, dX2_findFence_216, dX2_findFence_217, dX2_findFence_220, dX2_findFence_221, dX2_findFence_224, dX2_findFence_225, dX2_findFence_228, dX2_findFence_229, dX2_findFence_232, dX2_findFence_235, dX2_findFence_236, tf_2_70, dX2_findFence_239, dX2_findFence_240, dX2_findFence_243, dX2_findFence_244, dX2_findFence_247, dX2_findFence_250, dX2_findFence_251, dX2_findFence_254, dX2_findFence_255, dX2_findFence_258, dX2_findFence_259, dX2_findFence_262, dX2_findFence_265, dX2_findFence_266, h12', h44', e0, e1, e0', e1', e2, e3, e4, e5, e6, e7, e8, e9, e10, e11, e12, e13, e14, e15, e16, js_at k42, js_at k43, js_at k13, js_at k14, js_at k78, js_at k81, js_at k82]
    · rw [z16 13 (by omega) (by omega) (by omega) (by omega), z13 13 (by omega) (by omega) (by omega) (by omega), z10 13 (by omega) (by omega) (by omega), n13]
    · rw [z16 14 (by omega) (by omega) (by omega) (by omega), z13 14 (by omega) (by omega) (by omega) (by omega), z10 14 (by omega) (by omega) (by omega), n14]
    · rw [z16 78 (by omega) (by omega) (by omega) (by omega), z13 78 (by omega) (by omega) (by omega) (by omega), b78]
    · rw [z16 81 (by omega) (by omega) (by omega) (by omega), hZ13, va_up_self]
    · rw [hZ16, va_up_self]
end
