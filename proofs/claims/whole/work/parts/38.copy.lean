/-! ===== a State is copied from another ===== -/
def cp2 (P2 P : sP) : sP := (va_up P.1 2 (cpyN (P2.1 2) (P.1 2) 25), P.2)
def cp4 (P2 P : sP) : sP := (va_up P.1 4 (cpyN (P2.1 4) (P.1 4) 25), P.2)
def cpR (o : Nat) (P2 P : sP) : sP := (va_up P.1 (o + 1) (va_cpy (P2.1 (o + 1)) (P.1 (o + 1)) 0 0 (4 * P2.2 o)), va_up P.2 o (P2.2 o))
def cp13 (P2 P : sP) : sP := (va_up P.1 13 (va_cpy (P2.1 13) (P.1 13) 0 0 200), P.2)
def cpP (P2 P : sP) : sP := cp13 P2 (cpR 11 P2 (cpR 9 P2 (cpR 7 P2 (cpR 5 P2 (cp4 P2 (cp2 P2 P))))))
section
variable {d B B2 : Nat} {σ : rb_S} {P P2 : sP} {l l2 : Int32}
theorem so_0 : (so σ B P l).1 B = some (.inr (6, [.ref (B + 1), .ref (B + 3), .ref (B + 5), .ref (B + 7), .ref (B + 9), .ref (B + 11), .ref (B + 13), .int l])) := so_at (o := 0) (by omega)
theorem so_1 : (so σ B P l).1 (B + 1) = some (.inr (3, [.ref (B + 2)])) := so_at (by omega)
theorem so_2 : (so σ B P l).1 (B + 2) = some (.inl (0, 25, .inl (P.1 2))) := so_at (by omega)
theorem so_3 : (so σ B P l).1 (B + 3) = some (.inr (3, [.ref (B + 4)])) := so_at (by omega)
theorem so_4 : (so σ B P l).1 (B + 4) = some (.inl (0, 25, .inl (P.1 4))) := so_at (by omega)
theorem so_5 : (so σ B P l).1 (B + 5) = some (brw (B + 6) (nI 64) (nI (P.2 5))) := so_at (by omega)
theorem so_6 : (so σ B P l).1 (B + 6) = some (.inl (0, 4 * 64, .inl (P.1 6))) := so_at (by omega)
theorem so_7 : (so σ B P l).1 (B + 7) = some (brw (B + 8) (nI 200) (nI (P.2 7))) := so_at (by omega)
theorem so_8 : (so σ B P l).1 (B + 8) = some (.inl (0, 4 * 200, .inl (P.1 8))) := so_at (by omega)
theorem so_9 : (so σ B P l).1 (B + 9) = some (brw (B + 10) (nI 200) (nI (P.2 9))) := so_at (by omega)
theorem so_10 : (so σ B P l).1 (B + 10) = some (.inl (0, 4 * 200, .inl (P.1 10))) := so_at (by omega)
theorem so_11 : (so σ B P l).1 (B + 11) = some (brw (B + 12) (nI 200) (nI (P.2 11))) := so_at (by omega)
theorem so_12 : (so σ B P l).1 (B + 12) = some (.inl (0, 4 * 200, .inl (P.1 12))) := so_at (by omega)
theorem so_13 : (so σ B P l).1 (B + 13) = some (.inl (0, 200, .inl (P.1 13))) := so_at (by omega)
theorem sow_2 {g : Nat → Int32} : rb_wr (so σ B P l) (B + 2) (.inl (0, 25, .inl g)) = so σ B (va_up P.1 2 g, P.2) l := by
  refine so_wr (o := 2) (by omega) ?_
  intro t ht
  match t, ht with
  | 0, _ => rfl
  | 1, _ => rfl
  | 2, _ => rfl
  | 3, _ => rfl
  | 4, _ => rfl
  | 5, _ => rfl
  | 6, _ => rfl
  | 7, _ => rfl
  | 8, _ => rfl
  | 9, _ => rfl
  | 10, _ => rfl
  | 11, _ => rfl
  | 12, _ => rfl
  | 13, _ => rfl
  | t + 14, ht => exact absurd ht (by omega)
theorem sow_4 {g : Nat → Int32} : rb_wr (so σ B P l) (B + 4) (.inl (0, 25, .inl g)) = so σ B (va_up P.1 4 g, P.2) l := by
  refine so_wr (o := 4) (by omega) ?_
  intro t ht
  match t, ht with
  | 0, _ => rfl
  | 1, _ => rfl
  | 2, _ => rfl
  | 3, _ => rfl
  | 4, _ => rfl
  | 5, _ => rfl
  | 6, _ => rfl
  | 7, _ => rfl
  | 8, _ => rfl
  | 9, _ => rfl
  | 10, _ => rfl
  | 11, _ => rfl
  | 12, _ => rfl
  | 13, _ => rfl
  | t + 14, ht => exact absurd ht (by omega)
theorem sow_6 {g : Nat → Int32} : rb_wr (so σ B P l) (B + 6) (.inl (0, 4 * 64, .inl g)) = so σ B (va_up P.1 6 g, P.2) l := by
  refine so_wr (o := 6) (by omega) ?_
  intro t ht
  match t, ht with
  | 0, _ => rfl
  | 1, _ => rfl
  | 2, _ => rfl
  | 3, _ => rfl
  | 4, _ => rfl
  | 5, _ => rfl
  | 6, _ => rfl
  | 7, _ => rfl
  | 8, _ => rfl
  | 9, _ => rfl
  | 10, _ => rfl
  | 11, _ => rfl
  | 12, _ => rfl
  | 13, _ => rfl
  | t + 14, ht => exact absurd ht (by omega)
theorem sow_8 {g : Nat → Int32} : rb_wr (so σ B P l) (B + 8) (.inl (0, 4 * 200, .inl g)) = so σ B (va_up P.1 8 g, P.2) l := by
  refine so_wr (o := 8) (by omega) ?_
  intro t ht
  match t, ht with
  | 0, _ => rfl
  | 1, _ => rfl
  | 2, _ => rfl
  | 3, _ => rfl
  | 4, _ => rfl
  | 5, _ => rfl
  | 6, _ => rfl
  | 7, _ => rfl
  | 8, _ => rfl
  | 9, _ => rfl
  | 10, _ => rfl
  | 11, _ => rfl
  | 12, _ => rfl
  | 13, _ => rfl
  | t + 14, ht => exact absurd ht (by omega)
theorem sow_10 {g : Nat → Int32} : rb_wr (so σ B P l) (B + 10) (.inl (0, 4 * 200, .inl g)) = so σ B (va_up P.1 10 g, P.2) l := by
  refine so_wr (o := 10) (by omega) ?_
  intro t ht
  match t, ht with
  | 0, _ => rfl
  | 1, _ => rfl
  | 2, _ => rfl
  | 3, _ => rfl
  | 4, _ => rfl
  | 5, _ => rfl
  | 6, _ => rfl
  | 7, _ => rfl
  | 8, _ => rfl
  | 9, _ => rfl
  | 10, _ => rfl
  | 11, _ => rfl
  | 12, _ => rfl
  | 13, _ => rfl
  | t + 14, ht => exact absurd ht (by omega)
theorem sow_12 {g : Nat → Int32} : rb_wr (so σ B P l) (B + 12) (.inl (0, 4 * 200, .inl g)) = so σ B (va_up P.1 12 g, P.2) l := by
  refine so_wr (o := 12) (by omega) ?_
  intro t ht
  match t, ht with
  | 0, _ => rfl
  | 1, _ => rfl
  | 2, _ => rfl
  | 3, _ => rfl
  | 4, _ => rfl
  | 5, _ => rfl
  | 6, _ => rfl
  | 7, _ => rfl
  | 8, _ => rfl
  | 9, _ => rfl
  | 10, _ => rfl
  | 11, _ => rfl
  | 12, _ => rfl
  | 13, _ => rfl
  | t + 14, ht => exact absurd ht (by omega)
theorem sow_13 {g : Nat → Int32} : rb_wr (so σ B P l) (B + 13) (.inl (0, 200, .inl g)) = so σ B (va_up P.1 13 g, P.2) l := by
  refine so_wr (o := 13) (by omega) ?_
  intro t ht
  match t, ht with
  | 0, _ => rfl
  | 1, _ => rfl
  | 2, _ => rfl
  | 3, _ => rfl
  | 4, _ => rfl
  | 5, _ => rfl
  | 6, _ => rfl
  | 7, _ => rfl
  | 8, _ => rfl
  | 9, _ => rfl
  | 10, _ => rfl
  | 11, _ => rfl
  | 12, _ => rfl
  | 13, _ => rfl
  | t + 14, ht => exact absurd ht (by omega)
theorem sow_5 {n : Nat} : rb_wr (so σ B P l) (B + 5) (brw (B + 6) (nI 64) (nI n)) = so σ B (P.1, va_up P.2 5 n) l := by
  refine so_wr (o := 5) (by omega) ?_
  intro t ht
  match t, ht with
  | 0, _ => rfl
  | 1, _ => rfl
  | 2, _ => rfl
  | 3, _ => rfl
  | 4, _ => rfl
  | 5, _ => rfl
  | 6, _ => rfl
  | 7, _ => rfl
  | 8, _ => rfl
  | 9, _ => rfl
  | 10, _ => rfl
  | 11, _ => rfl
  | 12, _ => rfl
  | 13, _ => rfl
  | t + 14, ht => exact absurd ht (by omega)
theorem sow_7 {n : Nat} : rb_wr (so σ B P l) (B + 7) (brw (B + 8) (nI 200) (nI n)) = so σ B (P.1, va_up P.2 7 n) l := by
  refine so_wr (o := 7) (by omega) ?_
  intro t ht
  match t, ht with
  | 0, _ => rfl
  | 1, _ => rfl
  | 2, _ => rfl
  | 3, _ => rfl
  | 4, _ => rfl
  | 5, _ => rfl
  | 6, _ => rfl
  | 7, _ => rfl
  | 8, _ => rfl
  | 9, _ => rfl
  | 10, _ => rfl
  | 11, _ => rfl
  | 12, _ => rfl
  | 13, _ => rfl
  | t + 14, ht => exact absurd ht (by omega)
theorem sow_9 {n : Nat} : rb_wr (so σ B P l) (B + 9) (brw (B + 10) (nI 200) (nI n)) = so σ B (P.1, va_up P.2 9 n) l := by
  refine so_wr (o := 9) (by omega) ?_
  intro t ht
  match t, ht with
  | 0, _ => rfl
  | 1, _ => rfl
  | 2, _ => rfl
  | 3, _ => rfl
  | 4, _ => rfl
  | 5, _ => rfl
  | 6, _ => rfl
  | 7, _ => rfl
  | 8, _ => rfl
  | 9, _ => rfl
  | 10, _ => rfl
  | 11, _ => rfl
  | 12, _ => rfl
  | 13, _ => rfl
  | t + 14, ht => exact absurd ht (by omega)
theorem sow_11 {n : Nat} : rb_wr (so σ B P l) (B + 11) (brw (B + 12) (nI 200) (nI n)) = so σ B (P.1, va_up P.2 11 n) l := by
  refine so_wr (o := 11) (by omega) ?_
  intro t ht
  match t, ht with
  | 0, _ => rfl
  | 1, _ => rfl
  | 2, _ => rfl
  | 3, _ => rfl
  | 4, _ => rfl
  | 5, _ => rfl
  | 6, _ => rfl
  | 7, _ => rfl
  | 8, _ => rfl
  | 9, _ => rfl
  | 10, _ => rfl
  | 11, _ => rfl
  | 12, _ => rfl
  | 13, _ => rfl
  | t + 14, ht => exact absurd ht (by omega)
theorem sow_0 {l' : Int32} : rb_wr (so σ B P l) B (.inr (6, [.ref (B + 1), .ref (B + 3), .ref (B + 5), .ref (B + 7), .ref (B + 9), .ref (B + 11), .ref (B + 13), .int l'])) = so σ B P l' := by
  refine so_wr (o := 0) (by omega) ?_
  intro t ht
  match t, ht with
  | 0, _ => rfl
  | 1, _ => rfl
  | 2, _ => rfl
  | 3, _ => rfl
  | 4, _ => rfl
  | 5, _ => rfl
  | 6, _ => rfl
  | 7, _ => rfl
  | 8, _ => rfl
  | 9, _ => rfl
  | 10, _ => rfl
  | 11, _ => rfl
  | 12, _ => rfl
  | 13, _ => rfl
  | t + 14, ht => exact absurd ht (by omega)
theorem so_far (hB : B + 14 ≤ B2 ∨ B2 + 14 ≤ B) (h2 : StAt σ B2 P2 l2) {o : Nat} (ho : o < 14) : (so σ B P l).1 (B2 + o) = some (sc B2 P2 l2 o) := by
  rw [so_no (by omega)]; exact h2 o ho
theorem s_cp2 (hB : B + 14 ≤ B2 ∨ B2 + 14 ≤ B) (h2 : StAt σ B2 P2 l2) : rb_R (d + 1) 42 [.ref (B + 1), .ref (B2 + 1)] (so σ B P l) = some (none, so σ B (cp2 P2 P) l) := by
  rw [q_pcopy so_1 so_2 (so_far hB h2 (o := 1) (by omega)) (so_far hB h2 (o := 2) (by omega)) (by omega) (by omega) (by omega), sow_2]
  rfl
theorem s_cp4 (hB : B + 14 ≤ B2 ∨ B2 + 14 ≤ B) (h2 : StAt σ B2 P2 l2) : rb_R (d + 1) 42 [.ref (B + 3), .ref (B2 + 3)] (so σ B P l) = some (none, so σ B (cp4 P2 P) l) := by
  rw [q_pcopy so_3 so_4 (so_far hB h2 (o := 3) (by omega)) (so_far hB h2 (o := 4) (by omega)) (by omega) (by omega) (by omega), sow_4]
  rfl
theorem s_cpR5 (hB : B + 14 ≤ B2 ∨ B2 + 14 ≤ B) (h2 : StAt σ B2 P2 l2) (hn : P2.2 5 ≤ 64) : rb_R (d + 1) 11 [.ref (B + 5), .ref (B2 + 5)] (so σ B P l) = some (none, so σ B (cpR 5 P2 P) l) := by
  rw [q_rcopy so_5 so_6 (so_far hB h2 (o := 5) (by omega)) (so_far hB h2 (o := 6) (by omega)) (by omega) (by omega) hn hn (by omega) (by omega), sow_6, sow_5]
  rfl
theorem s_cpR7 (hB : B + 14 ≤ B2 ∨ B2 + 14 ≤ B) (h2 : StAt σ B2 P2 l2) (hn : P2.2 7 ≤ 200) : rb_R (d + 1) 11 [.ref (B + 7), .ref (B2 + 7)] (so σ B P l) = some (none, so σ B (cpR 7 P2 P) l) := by
  rw [q_rcopy so_7 so_8 (so_far hB h2 (o := 7) (by omega)) (so_far hB h2 (o := 8) (by omega)) (by omega) (by omega) hn hn (by omega) (by omega), sow_8, sow_7]
  rfl
theorem s_cpR9 (hB : B + 14 ≤ B2 ∨ B2 + 14 ≤ B) (h2 : StAt σ B2 P2 l2) (hn : P2.2 9 ≤ 200) : rb_R (d + 1) 11 [.ref (B + 9), .ref (B2 + 9)] (so σ B P l) = some (none, so σ B (cpR 9 P2 P) l) := by
  rw [q_rcopy so_9 so_10 (so_far hB h2 (o := 9) (by omega)) (so_far hB h2 (o := 10) (by omega)) (by omega) (by omega) hn hn (by omega) (by omega), sow_10, sow_9]
  rfl
theorem s_cpR11 (hB : B + 14 ≤ B2 ∨ B2 + 14 ≤ B) (h2 : StAt σ B2 P2 l2) (hn : P2.2 11 ≤ 200) : rb_R (d + 1) 11 [.ref (B + 11), .ref (B2 + 11)] (so σ B P l) = some (none, so σ B (cpR 11 P2 P) l) := by
  rw [q_rcopy so_11 so_12 (so_far hB h2 (o := 11) (by omega)) (so_far hB h2 (o := 12) (by omega)) (by omega) (by omega) hn hn (by omega) (by omega), sow_12, sow_11]
  rfl
theorem s_copy (hB : B + 14 ≤ B2 ∨ B2 + 14 ≤ B) (h2 : StAt σ B2 P2 l2) (hn : okN P2) : rb_R (d + 2) 85 [.ref B, .ref B2] (so σ B P l) = some (none, so σ B (cpP P2 P) l2) := by
  obtain ⟨n5, n7, n9, n11⟩ := hn
  have f0 : ∀ P l, (so σ B P l).1 B2 = _ := fun P l => so_far hB h2 (o := 0) (by omega)
  have f1 : ∀ P l, (so σ B P l).1 (B2 + 1) = _ := fun P l => so_far hB h2 (o := 1) (by omega)
  have c0 : ((0 : Int32)).toNatClampNeg = 0 := rfl
  have c1 : ((200 : Int32)).toNatClampNeg = 200 := rfl
  have z := fun (Q : sP) (mi k ci : Nat) (q : Nat × Nat × Nat) => zz_c7 (C := rb_R (d + 1)) (mi := mi) (k := k) (ci := ci) (pc := 87) (q := q) (ls := [some (.ref B), some (.ref B2)]) (t := []) (n := 200) (dp := 0) (sp := 0) (σ := so σ B Q l2) (so_far hB h2 (o := 13) (by omega)) so_13 (by decide) (by decide) (by decide) (by rw [c0, c1]; omega) (by rw [c0, c1]; omega) rfl
  rw [en_85 (k := 80) (ls := [some (.ref B), some (.ref B2)]) rfl]
  simp only [rb_gg_eq, rb_ct_go, rb_ct_end, rb_ct_ite, Nat.reduceAdd, Nat.zero_add, wr_at, wr_wr, true_and, and_true, and_self, true_or, or_true, false_or, or_false, ↓reduceIte, Nat.reduceLT, Nat.reduceLeDiff, Nat.reduceEqDiff, lg_cmp_ge, lg_cmp_le, lg_cmp_gt, lg_cmp_lt, lg_cmp_eq, Bool.false_eq_true, reduceCtorEq, mg_i, mg_l, decide_true, beq_self_eq_true, Nat.reduceBEq, st_85, dX6_copyFrom_0, xx_aloadn0, xx_aloadn0N, dX6_copyFrom_1, xx_getf, zz_f, zz_g, zz_v, List.getElem?_cons_zero, List.getElem?_cons_succ, tf_6_12, dX6_copyFrom_4, xx_aloadn1, xx_aloadn1N, dX6_copyFrom_5, dX6_copyFrom_8, xx_ivV, zz_c0, zz_c3, zz_c1, zz_c2, zz_c5, zz_c8, zz_c6, zz_R, List.length_cons, List.length_nil, List.take_succ_cons, List.take_zero, List.drop_succ_cons, List.drop_zero, List.reverse_cons, List.reverse_nil, List.nil_append, List.cons_append, rb_cat, List.map_cons, List.map_nil, List.sum_cons, List.sum_nil, Value.category, rb_isR, rb_isS, Option.toList_some, Option.toList_none, tv_6_57, dX6_copyFrom_11, dX6_copyFrom_12, tf_6_18, dX6_copyFrom_15, dX6_copyFrom_16, dX6_copyFrom_19, dX6_copyFrom_22, dX6_copyFrom_23, dX6_copyFrom_24, tf_6_43, dX6_copyFrom_27, xx_putf, zz_q, zz_p, zz_ti, zz_tl, zz_t0, zz_t1, zz_to, zz_ta, List.set_cons_zero, List.set_cons_succ, dX6_copyFrom_30, dX6_copyFrom_31, tf_6_26, dX6_copyFrom_34, dX6_copyFrom_35, dX6_copyFrom_38, tv_6_61, dX6_copyFrom_41, dX6_copyFrom_42, tf_6_30, dX6_copyFrom_45, dX6_copyFrom_46, dX6_copyFrom_49, dX6_copyFrom_52, dX6_copyFrom_53, tf_6_33, dX6_copyFrom_56, dX6_copyFrom_57, dX6_copyFrom_60, dX6_copyFrom_63, dX6_copyFrom_64, tf_6_36, dX6_copyFrom_67, dX6_copyFrom_68, dX6_copyFrom_71, dX6_copyFrom_74, dX6_copyFrom_75, tf_6_39, dX6_copyFrom_78, xx_iconst, kc_0, dX6_copyFrom_79, dX6_copyFrom_80, dX6_copyFrom_83, dX6_copyFrom_84, xx_sipush, ks_200, dX6_copyFrom_87, xx_ivS, tv_6_64, dX6_copyFrom_90, xx_vret, so_0, so_1, so_3, so_5, so_7, so_9, so_11, f0, sc, s_cp2 hB h2, s_cp4 hB h2, sow_0, s_cpR5 hB h2 n5, s_cpR7 hB h2 (show P2.2 7 ≤ 200 by omega), s_cpR9 hB h2 (show P2.2 9 ≤ 200 by omega), s_cpR11 hB h2 n11, z, c0, c1, sow_13]
  rfl
end
