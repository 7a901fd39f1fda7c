/-! ===== a grid is filled ===== -/
def pw (X : sI) : Nat → sI
  | 0 => (64, 64)
  | k + 1 => iprod (pw X k) X
/-- what a grid holds at a place -/
def cel (X Y : sI) (i j : Nat) : sI := if j = 0 then pw X i else if i = 0 then pw Y j else iprod (pw X i) (pw Y j)
def Axes (Z : Nat → sI) (gb : Nat) (X Y : sI) (k : Nat) : Prop := ∀ t, t < k → Z (gb + (5 * t + 0)) = pw X t ∧ Z (gb + (5 * 0 + t)) = pw Y t
def Away (gb : Nat) (Z Z' : Nat → sI) : Prop := ∀ t, (t < gb ∨ gb + 25 ≤ t) → Z' t = Z t
def Full (Z : Nat → sI) (gb : Nat) (X Y : sI) : Prop := ∀ i j, i + j ≤ 4 → Z (gb + (5 * i + j)) = cel X Y i j
section
variable {d gr ga gb xa ya : Nat} {σ : rb_S} {Z0 : Nat → sI} {X Y : sI}
/-- the inner places up to (i, j) -/
def Inner (Z : Nat → sI) (gb : Nat) (X Y : sI) (i j : Nat) : Prop := ∀ a b, 1 ≤ a → 1 ≤ b → a + b ≤ 4 → (a < i ∨ a = i ∧ b < j) → Z (gb + (5 * a + b)) = iprod (pw X a) (pw Y b)
theorem l_fin (hG : GF σ gr ga gb) {i : Nat} (hi : 1 ≤ i) (hi3 : i ≤ 3)
    (hK : ∀ Z, Axes Z gb X Y 5 → Inner Z gb X Y (i + 1) 1 → Away gb Z0 Z → ∃ Z', rb_lim (rb_stp (rb_R (d + 2)) rb_m20) (111, [some (.ref gr), some (.ref xa), some (.ref ya), some (.int (nI i)), some (.int (nI (5 - i)))], [], js σ Z) = some (none, js σ Z') ∧ Full Z' gb X Y ∧ Away gb Z0 Z') : ∀ (r j : Nat) (Z : Nat → sI), 1 ≤ j → j + r = 5 - i → Axes Z gb X Y 5 → Inner Z gb X Y i j → Away gb Z0 Z →
    ∃ Z', rb_lim (rb_stp (rb_R (d + 2)) rb_m20) (74, [some (.ref gr), some (.ref xa), some (.ref ya), some (.int (nI i)), some (.int (nI j))], [], js σ Z) = some (none, js σ Z') ∧ Full Z' gb X Y ∧ Away gb Z0 Z' := by
  obtain ⟨hgr, hg, gf, hga, hgf⟩ := hG
  intro r
  induction r with
  | zero =>
    intro j Z hj1 hj hA hI hW
    have hj' : j = 5 - i := by omega
    subst hj'
    rw [rb_ls 74 111 40]
    simp (disch := omega) only [rb_gs_eq, rb_cs_go, rb_cs_end, rb_cs_ite, Nat.reduceAdd, Nat.zero_add, wr_at, wr_wr, true_and, and_true, and_self, true_or, or_true, false_or, or_false, ↓reduceIte, Nat.reduceLT, Nat.reduceLeDiff, Nat.reduceEqDiff, lg_cmp_ge, lg_cmp_le, lg_cmp_gt, lg_cmp_lt, lg_cmp_eq, Bool.false_eq_true, reduceCtorEq, mg_i, mg_l, decide_true, beq_self_eq_true, Nat.reduceBEq, st_20, dX1_fill_0, xx_aloadn0, xx_aloadn0N, dX1_fill_1, xx_iconst, kc_0, dX1_fill_2, dX1_fill_3, xx_ivV, zz_c0, zz_c3, zz_c1, zz_c2, zz_c5, zz_c8, zz_c6, zz_R, List.length_cons, List.length_nil, List.take_succ_cons, List.take_zero, List.drop_succ_cons, List.drop_zero, List.reverse_cons, List.reverse_nil, List.nil_append, List.cons_append, rb_cat, List.map_cons, List.map_nil, List.sum_cons, List.sum_nil, Value.category, rb_isR, rb_isS, Option.toList_some, Option.toList_none, tv_1_18, dX1_fill_6, xx_ldc2, zz_J, tj_1_22, dX1_fill_9, dX1_fill_12, tv_1_24, dX1_fill_15, kc_1, dX1_fill_16, xx_istoren3, zz_invi, zz_invr, zz_invz, zz_invn, zz_invl, dX1_fill_17, xx_iloadn3, dX1_fill_18, kc_4, dX1_fill_19, xx_icgt, rb_jp, Int.cast_ofNat_Int, Int.reduceAdd, Int.reduceLE, Int.reduceToNat, Int.reduceNeg, dX1_fill_22, dX1_fill_23, dX1_fill_24, dX1_fill_25, dX1_fill_28, dX1_fill_29, dX1_fill_30, dX1_fill_31, xx_isub, dX1_fill_32, dX1_fill_33, dX1_fill_36, xx_aloadn1, xx_aloadn1N, dX1_fill_37, tv_1_28, dX1_fill_40, dX1_fill_41, dX1_fill_42, dX1_fill_43, dX1_fill_46, dX1_fill_47, dX1_fill_48, dX1_fill_49, dX1_fill_50, dX1_fill_51, dX1_fill_54, xx_aloadn2, xx_aloadn2N, dX1_fill_55, dX1_fill_58, xx_iinc3, dX1_fill_61, xx_goto, dX1_fill_64, dX1_fill_65, dX1_fill_66, dX1_fill_67, dX1_fill_68, xx_icge, dX1_fill_71, dX1_fill_72, xx_istore4, dX1_fill_74, dX1_fill_75, xx_iload4, dX1_fill_77, xx_iadd, dX1_fill_78, dX1_fill_79, dX1_fill_82, dX1_fill_83, dX1_fill_84, dX1_fill_86, dX1_fill_89, dX1_fill_90, dX1_fill_91, dX1_fill_92, dX1_fill_95, dX1_fill_96, dX1_fill_97, dX1_fill_99, dX1_fill_102, dX1_fill_105, xx_iinc4, dX1_fill_108, dX1_fill_111, dX1_fill_114, dX1_fill_117, xx_vret, lit_4, nI_add, nI_lt', if_pos, if_neg]
    exact hK Z hA (fun a b h1 h2 h3 h4 => hI a b h1 h2 h3 (by omega)) hW
  | succ r ih =>
    intro j Z hj1 hj hA hI hW
    have hg' := (js_no (σ := σ) (Z := Z) (k := gr) (by omega)).trans hg
    have hga' := (js_no (σ := σ) (Z := Z) (k := ga) (by omega)).trans hga
    have e1 := q_gat (d := d) (i := i) (j := j) hg' hga' (by omega) (hgf _ (by omega))
    have e2 := q_gat (d := d) (i := i) (j := 0) hg' hga' (by omega) (hgf _ (by omega))
    have e3 := q_gat (d := d) (i := 0) (j := j) hg' hga' (by omega) (hgf _ (by omega))
    rw [← lit_0] at e2 e3
    have e4 := j_prod (d := d) (σ := σ) (Z := Z) (t := gb + (5 * i + j)) (a := gb + (5 * i + 0)) (b := gb + (5 * 0 + j)) (by omega) (by omega) (by omega)
    rw [(hA i (by omega)).1, (hA j (by omega)).2] at e4
    have hs : spK (gb + (5 * i + j)) := by omega
    rw [rb_ls 74 111 60]
    simp (disch := omega) only [rb_gs_eq, rb_cs_go, rb_cs_end, rb_cs_ite, Nat.reduceAdd, Nat.zero_add, wr_at, wr_wr, true_and, and_true, and_self, true_or, or_true, false_or, or_false, ↓reduceIte, Nat.reduceLT, Nat.reduceLeDiff, Nat.reduceEqDiff, lg_cmp_ge, lg_cmp_le, lg_cmp_gt, lg_cmp_lt, lg_cmp_eq, Bool.false_eq_true, reduceCtorEq, mg_i, mg_l, decide_true, beq_self_eq_true, Nat.reduceBEq, st_20, dX1_fill_0, xx_aloadn0, xx_aloadn0N, dX1_fill_1, xx_iconst, kc_0, dX1_fill_2, dX1_fill_3, xx_ivV, zz_c0, zz_c3, zz_c1, zz_c2, zz_c5, zz_c8, zz_c6, zz_R, List.length_cons, List.length_nil, List.take_succ_cons, List.take_zero, List.drop_succ_cons, List.drop_zero, List.reverse_cons, List.reverse_nil, List.nil_append, List.cons_append, rb_cat, List.map_cons, List.map_nil, List.sum_cons, List.sum_nil, Value.category, rb_isR, rb_isS, Option.toList_some, Option.toList_none, tv_1_18, dX1_fill_6, xx_ldc2, zz_J, tj_1_22, dX1_fill_9, dX1_fill_12, tv_1_24, dX1_fill_15, kc_1, dX1_fill_16, xx_istoren3, zz_invi, zz_invr, zz_invz, zz_invn, zz_invl, dX1_fill_17, xx_iloadn3, dX1_fill_18, kc_4, dX1_fill_19, xx_icgt, rb_jp, Int.cast_ofNat_Int, Int.reduceAdd, Int.reduceLE, Int.reduceToNat, Int.reduceNeg, dX1_fill_22, dX1_fill_23, dX1_fill_24, dX1_fill_25, dX1_fill_28, dX1_fill_29, dX1_fill_30, dX1_fill_31, xx_isub, dX1_fill_32, dX1_fill_33, dX1_fill_36, xx_aloadn1, xx_aloadn1N, dX1_fill_37, tv_1_28, dX1_fill_40, dX1_fill_41, dX1_fill_42, dX1_fill_43, dX1_fill_46, dX1_fill_47, dX1_fill_48, dX1_fill_49, dX1_fill_50, dX1_fill_51, dX1_fill_54, xx_aloadn2, xx_aloadn2N, dX1_fill_55, dX1_fill_58, xx_iinc3, dX1_fill_61, xx_goto, dX1_fill_64, dX1_fill_65, dX1_fill_66, dX1_fill_67, dX1_fill_68, xx_icge, dX1_fill_71, dX1_fill_72, xx_istore4, dX1_fill_74, dX1_fill_75, xx_iload4, dX1_fill_77, xx_iadd, dX1_fill_78, dX1_fill_79, dX1_fill_82, dX1_fill_83, dX1_fill_84, dX1_fill_86, dX1_fill_89, dX1_fill_90, dX1_fill_91, dX1_fill_92, dX1_fill_95, dX1_fill_96, dX1_fill_97, dX1_fill_99, dX1_fill_102, dX1_fill_105, xx_iinc4, dX1_fill_108, dX1_fill_111, dX1_fill_114, dX1_fill_117, xx_vret, lit_4, nI_add, nI_lt', nI_1, e1, e2, e3, e4, hg', js_at hs, if_pos, if_neg]
    refine ih (j + 1) _ (by omega) (by omega) (fun t ht => ?_) (fun a b h1 h2 h3 h4 => ?_) (fun t ht => ?_)
    · rw [va_up_ne _ _ (by omega), va_up_ne _ _ (by omega)]
      exact hA t ht
    · by_cases hab : a = i ∧ b = j
      · rw [hab.1, hab.2, va_up_self]
      · rw [va_up_ne _ _ (by omega)]
        exact hI a b h1 h2 h3 (by omega)
    · rw [va_up_ne _ _ (by omega)]
      exact hW t ht
theorem l_fout (hG : GF σ gr ga gb) : ∀ (r i : Nat) (Z : Nat → sI) (w : Option Value), 1 ≤ i → i + r = 4 → Axes Z gb X Y 5 → Inner Z gb X Y i 1 → Away gb Z0 Z →
    ∃ Z', rb_lim (rb_stp (rb_R (d + 2)) rb_m20) (66, [some (.ref gr), some (.ref xa), some (.ref ya), some (.int (nI i)), w], [], js σ Z) = some (none, js σ Z') ∧ Full Z' gb X Y ∧ Away gb Z0 Z' := by
  intro r
  induction r with
  | zero =>
    intro i Z w hi1 hi hA hI hW
    have hi' : i = 4 := by omega
    subst hi'
    rw [rb_ls 66 9999 40]
    simp (disch := omega) only [rb_gs_eq, rb_cs_go, rb_cs_end, rb_cs_ite, Nat.reduceAdd, Nat.zero_add, wr_at, wr_wr, true_and, and_true, and_self, true_or, or_true, false_or, or_false, ↓reduceIte, Nat.reduceLT, Nat.reduceLeDiff, Nat.reduceEqDiff, lg_cmp_ge, lg_cmp_le, lg_cmp_gt, lg_cmp_lt, lg_cmp_eq, Bool.false_eq_true, reduceCtorEq, mg_i, mg_l, decide_true, beq_self_eq_true, Nat.reduceBEq, st_20, dX1_fill_0, xx_aloadn0, xx_aloadn0N, dX1_fill_1, xx_iconst, kc_0, dX1_fill_2, dX1_fill_3, xx_ivV, zz_c0, zz_c3, zz_c1, zz_c2, zz_c5, zz_c8, zz_c6, zz_R, List.length_cons, List.length_nil, List.take_succ_cons, List.take_zero, List.drop_succ_cons, List.drop_zero, List.reverse_cons, List.reverse_nil, List.nil_append, List.cons_append, rb_cat, List.map_cons, List.map_nil, List.sum_cons, List.sum_nil, Value.category, rb_isR, rb_isS, Option.toList_some, Option.toList_none, tv_1_18, dX1_fill_6, xx_ldc2, zz_J, tj_1_22, dX1_fill_9, dX1_fill_12, tv_1_24, dX1_fill_15, kc_1, dX1_fill_16, xx_istoren3, zz_invi, zz_invr, zz_invz, zz_invn, zz_invl, dX1_fill_17, xx_iloadn3, dX1_fill_18, kc_4, dX1_fill_19, xx_icgt, rb_jp, Int.cast_ofNat_Int, Int.reduceAdd, Int.reduceLE, Int.reduceToNat, Int.reduceNeg, dX1_fill_22, dX1_fill_23, dX1_fill_24, dX1_fill_25, dX1_fill_28, dX1_fill_29, dX1_fill_30, dX1_fill_31, xx_isub, dX1_fill_32, dX1_fill_33, dX1_fill_36, xx_aloadn1, xx_aloadn1N, dX1_fill_37, tv_1_28, dX1_fill_40, dX1_fill_41, dX1_fill_42, dX1_fill_43, dX1_fill_46, dX1_fill_47, dX1_fill_48, dX1_fill_49, dX1_fill_50, dX1_fill_51, dX1_fill_54, xx_aloadn2, xx_aloadn2N, dX1_fill_55, dX1_fill_58, xx_iinc3, dX1_fill_61, xx_goto, dX1_fill_64, dX1_fill_65, dX1_fill_66, dX1_fill_67, dX1_fill_68, xx_icge, dX1_fill_71, dX1_fill_72, xx_istore4, dX1_fill_74, dX1_fill_75, xx_iload4, dX1_fill_77, xx_iadd, dX1_fill_78, dX1_fill_79, dX1_fill_82, dX1_fill_83, dX1_fill_84, dX1_fill_86, dX1_fill_89, dX1_fill_90, dX1_fill_91, dX1_fill_92, dX1_fill_95, dX1_fill_96, dX1_fill_97, dX1_fill_99, dX1_fill_102, dX1_fill_105, xx_iinc4, dX1_fill_108, dX1_fill_111, dX1_fill_114, dX1_fill_117, xx_vret, lit_4, nI_le', if_pos, if_neg]
    refine ⟨Z, rfl, fun i j h => ?_, hW⟩
    unfold cel
    by_cases h0 : j = 0
    · rw [if_pos h0, h0]
      exact (hA i (by omega)).1
    · rw [if_neg h0]
      by_cases h1 : i = 0
      · rw [if_pos h1, h1]
        exact (hA j (by omega)).2
      · rw [if_neg h1]
        exact hI i j (by omega) (by omega) h (by omega)
  | succ r ih =>
    intro i Z w hi1 hi hA hI hW
    rw [rb_ls 66 74 40]
    simp (disch := omega) only [rb_gs_eq, rb_cs_go, rb_cs_end, rb_cs_ite, Nat.reduceAdd, Nat.zero_add, wr_at, wr_wr, true_and, and_true, and_self, true_or, or_true, false_or, or_false, ↓reduceIte, Nat.reduceLT, Nat.reduceLeDiff, Nat.reduceEqDiff, lg_cmp_ge, lg_cmp_le, lg_cmp_gt, lg_cmp_lt, lg_cmp_eq, Bool.false_eq_true, reduceCtorEq, mg_i, mg_l, decide_true, beq_self_eq_true, Nat.reduceBEq, st_20, dX1_fill_0, xx_aloadn0, xx_aloadn0N, dX1_fill_1, xx_iconst, kc_0, dX1_fill_2, dX1_fill_3, xx_ivV, zz_c0, zz_c3, zz_c1, zz_c2, zz_c5, zz_c8, zz_c6, zz_R, List.length_cons, List.length_nil, List.take_succ_cons, List.take_zero, List.drop_succ_cons, List.drop_zero, List.reverse_cons, List.reverse_nil, List.nil_append, List.cons_append, rb_cat, List.map_cons, List.map_nil, List.sum_cons, List.sum_nil, Value.category, rb_isR, rb_isS, Option.toList_some, Option.toList_none, tv_1_18, dX1_fill_6, xx_ldc2, zz_J, tj_1_22, dX1_fill_9, dX1_fill_12, tv_1_24, dX1_fill_15, kc_1, dX1_fill_16, xx_istoren3, zz_invi, zz_invr, zz_invz, zz_invn, zz_invl, dX1_fill_17, xx_iloadn3, dX1_fill_18, kc_4, dX1_fill_19, xx_icgt, rb_jp, Int.cast_ofNat_Int, Int.reduceAdd, Int.reduceLE, Int.reduceToNat, Int.reduceNeg, dX1_fill_22, dX1_fill_23, dX1_fill_24, dX1_fill_25, dX1_fill_28, dX1_fill_29, dX1_fill_30, dX1_fill_31, xx_isub, dX1_fill_32, dX1_fill_33, dX1_fill_36, xx_aloadn1, xx_aloadn1N, dX1_fill_37, tv_1_28, dX1_fill_40, dX1_fill_41, dX1_fill_42, dX1_fill_43, dX1_fill_46, dX1_fill_47, dX1_fill_48, dX1_fill_49, dX1_fill_50, dX1_fill_51, dX1_fill_54, xx_aloadn2, xx_aloadn2N, dX1_fill_55, dX1_fill_58, xx_iinc3, dX1_fill_61, xx_goto, dX1_fill_64, dX1_fill_65, dX1_fill_66, dX1_fill_67, dX1_fill_68, xx_icge, dX1_fill_71, dX1_fill_72, xx_istore4, dX1_fill_74, dX1_fill_75, xx_iload4, dX1_fill_77, xx_iadd, dX1_fill_78, dX1_fill_79, dX1_fill_82, dX1_fill_83, dX1_fill_84, dX1_fill_86, dX1_fill_89, dX1_fill_90, dX1_fill_91, dX1_fill_92, dX1_fill_95, dX1_fill_96, dX1_fill_97, dX1_fill_99, dX1_fill_102, dX1_fill_105, xx_iinc4, dX1_fill_108, dX1_fill_111, dX1_fill_114, dX1_fill_117, xx_vret, lit_4, nI_le', if_pos, if_neg]
    refine l_fin (i := i) hG hi1 (by omega) (fun Z hA hI hW => ?_) (4 - i) 1 Z (by omega) (by omega) hA hI hW
    rw [rb_ls 111 66 40]
    simp (disch := omega) only [rb_gs_eq, rb_cs_go, rb_cs_end, rb_cs_ite, Nat.reduceAdd, Nat.zero_add, wr_at, wr_wr, true_and, and_true, and_self, true_or, or_true, false_or, or_false, ↓reduceIte, Nat.reduceLT, Nat.reduceLeDiff, Nat.reduceEqDiff, lg_cmp_ge, lg_cmp_le, lg_cmp_gt, lg_cmp_lt, lg_cmp_eq, Bool.false_eq_true, reduceCtorEq, mg_i, mg_l, decide_true, beq_self_eq_true, Nat.reduceBEq, st_20, dX1_fill_0, xx_aloadn0, xx_aloadn0N, dX1_fill_1, xx_iconst, kc_0, dX1_fill_2, dX1_fill_3, xx_ivV, zz_c0, zz_c3, zz_c1, zz_c2, zz_c5, zz_c8, zz_c6, zz_R, List.length_cons, List.length_nil, List.take_succ_cons, List.take_zero, List.drop_succ_cons, List.drop_zero, List.reverse_cons, List.reverse_nil, List.nil_append, List.cons_append, rb_cat, List.map_cons, List.map_nil, List.sum_cons, List.sum_nil, Value.category, rb_isR, rb_isS, Option.toList_some, Option.toList_none, tv_1_18, dX1_fill_6, xx_ldc2, zz_J, tj_1_22, dX1_fill_9, dX1_fill_12, tv_1_24, dX1_fill_15, kc_1, dX1_fill_16, xx_istoren3, zz_invi, zz_invr, zz_invz, zz_invn, zz_invl, dX1_fill_17, xx_iloadn3, dX1_fill_18, kc_4, dX1_fill_19, xx_icgt, rb_jp, Int.cast_ofNat_Int, Int.reduceAdd, Int.reduceLE, Int.reduceToNat, Int.reduceNeg, dX1_fill_22, dX1_fill_23, dX1_fill_24, dX1_fill_25, dX1_fill_28, dX1_fill_29, dX1_fill_30, dX1_fill_31, xx_isub, dX1_fill_32, dX1_fill_33, dX1_fill_36, xx_aloadn1, xx_aloadn1N, dX1_fill_37, tv_1_28, dX1_fill_40, dX1_fill_41, dX1_fill_42, dX1_fill_43, dX1_fill_46, dX1_fill_47, dX1_fill_48, dX1_fill_49, dX1_fill_50, dX1_fill_51, dX1_fill_54, xx_aloadn2, xx_aloadn2N, dX1_fill_55, dX1_fill_58, xx_iinc3, dX1_fill_61, xx_goto, dX1_fill_64, dX1_fill_65, dX1_fill_66, dX1_fill_67, dX1_fill_68, xx_icge, dX1_fill_71, dX1_fill_72, xx_istore4, dX1_fill_74, dX1_fill_75, xx_iload4, dX1_fill_77, xx_iadd, dX1_fill_78, dX1_fill_79, dX1_fill_82, dX1_fill_83, dX1_fill_84, dX1_fill_86, dX1_fill_89, dX1_fill_90, dX1_fill_91, dX1_fill_92, dX1_fill_95, dX1_fill_96, dX1_fill_97, dX1_fill_99, dX1_fill_102, dX1_fill_105, xx_iinc4, dX1_fill_108, dX1_fill_111, dX1_fill_114, dX1_fill_117, xx_vret, nI_1, if_pos, if_neg]
    exact ih (i + 1) Z _ (by omega) (by omega) hA hI hW
theorem l_fax (hG : GF σ gr ga gb) (hx : spK xa) (hy : spK ya) (hxo : xa < gb ∨ gb + 25 ≤ xa) (hyo : ya < gb ∨ gb + 25 ≤ ya) (hX : Z0 xa = X) (hY : Z0 ya = Y) : ∀ (r k : Nat) (Z : Nat → sI), 1 ≤ k → k + r = 5 → Axes Z gb X Y k → Away gb Z0 Z →
    ∃ Z', rb_lim (rb_stp (rb_R (d + 2)) rb_m20) (17, [some (.ref gr), some (.ref xa), some (.ref ya), some (.int (nI k)), none], [], js σ Z) = some (none, js σ Z') ∧ Full Z' gb X Y ∧ Away gb Z0 Z' := by
  obtain ⟨hgr, hg, gf, hga, hgf⟩ := id hG
  intro r
  induction r with
  | zero =>
    intro k Z hk1 hk hA hW
    have hk' : k = 5 := by omega
    subst hk'
    rw [rb_ls 17 66 40]
    simp (disch := omega) only [rb_gs_eq, rb_cs_go, rb_cs_end, rb_cs_ite, Nat.reduceAdd, Nat.zero_add, wr_at, wr_wr, true_and, and_true, and_self, true_or, or_true, false_or, or_false, ↓reduceIte, Nat.reduceLT, Nat.reduceLeDiff, Nat.reduceEqDiff, lg_cmp_ge, lg_cmp_le, lg_cmp_gt, lg_cmp_lt, lg_cmp_eq, Bool.false_eq_true, reduceCtorEq, mg_i, mg_l, decide_true, beq_self_eq_true, Nat.reduceBEq, st_20, dX1_fill_0, xx_aloadn0, xx_aloadn0N, dX1_fill_1, xx_iconst, kc_0, dX1_fill_2, dX1_fill_3, xx_ivV, zz_c0, zz_c3, zz_c1, zz_c2, zz_c5, zz_c8, zz_c6, zz_R, List.length_cons, List.length_nil, List.take_succ_cons, List.take_zero, List.drop_succ_cons, List.drop_zero, List.reverse_cons, List.reverse_nil, List.nil_append, List.cons_append, rb_cat, List.map_cons, List.map_nil, List.sum_cons, List.sum_nil, Value.category, rb_isR, rb_isS, Option.toList_some, Option.toList_none, tv_1_18, dX1_fill_6, xx_ldc2, zz_J, tj_1_22, dX1_fill_9, dX1_fill_12, tv_1_24, dX1_fill_15, kc_1, dX1_fill_16, xx_istoren3, zz_invi, zz_invr, zz_invz, zz_invn, zz_invl, dX1_fill_17, xx_iloadn3, dX1_fill_18, kc_4, dX1_fill_19, xx_icgt, rb_jp, Int.cast_ofNat_Int, Int.reduceAdd, Int.reduceLE, Int.reduceToNat, Int.reduceNeg, dX1_fill_22, dX1_fill_23, dX1_fill_24, dX1_fill_25, dX1_fill_28, dX1_fill_29, dX1_fill_30, dX1_fill_31, xx_isub, dX1_fill_32, dX1_fill_33, dX1_fill_36, xx_aloadn1, xx_aloadn1N, dX1_fill_37, tv_1_28, dX1_fill_40, dX1_fill_41, dX1_fill_42, dX1_fill_43, dX1_fill_46, dX1_fill_47, dX1_fill_48, dX1_fill_49, dX1_fill_50, dX1_fill_51, dX1_fill_54, xx_aloadn2, xx_aloadn2N, dX1_fill_55, dX1_fill_58, xx_iinc3, dX1_fill_61, xx_goto, dX1_fill_64, dX1_fill_65, dX1_fill_66, dX1_fill_67, dX1_fill_68, xx_icge, dX1_fill_71, dX1_fill_72, xx_istore4, dX1_fill_74, dX1_fill_75, xx_iload4, dX1_fill_77, xx_iadd, dX1_fill_78, dX1_fill_79, dX1_fill_82, dX1_fill_83, dX1_fill_84, dX1_fill_86, dX1_fill_89, dX1_fill_90, dX1_fill_91, dX1_fill_92, dX1_fill_95, dX1_fill_96, dX1_fill_97, dX1_fill_99, dX1_fill_102, dX1_fill_105, xx_iinc4, dX1_fill_108, dX1_fill_111, dX1_fill_114, dX1_fill_117, xx_vret, lit_4, nI_lt', if_pos, if_neg]
    exact l_fout hG 3 1 Z none (by omega) (by omega) hA (fun a b h1 h2 h3 h4 => by omega) hW
  | succ r ih =>
    intro k Z hk1 hk hA hW
    obtain ⟨k, rfl⟩ : ∃ k', k = k' + 1 := ⟨k - 1, by omega⟩
    obtain ⟨Z1, hZ1⟩ : ∃ Z1, Z1 = va_up Z (gb + (5 * (k + 1) + 0)) (iprod (pw X k) X) := ⟨_, rfl⟩
    have hg' := (js_no (σ := σ) (Z := Z) (k := gr) (by omega)).trans hg
    have hga' := (js_no (σ := σ) (Z := Z) (k := ga) (by omega)).trans hga
    have hg1 := (js_no (σ := σ) (Z := Z1) (k := gr) (by omega)).trans hg
    have hga1 := (js_no (σ := σ) (Z := Z1) (k := ga) (by omega)).trans hga
    have e1 := q_gat (d := d) (i := k + 1) (j := 0) hg' hga' (by omega) (hgf _ (by omega))
    have e2 := q_gat (d := d) (i := k) (j := 0) hg' hga' (by omega) (hgf _ (by omega))
    have e3 := q_gat (d := d) (i := 0) (j := k + 1) hg1 hga1 (by omega) (hgf _ (by omega))
    have e4 := q_gat (d := d) (i := 0) (j := k) hg1 hga1 (by omega) (hgf _ (by omega))
    rw [← lit_0] at e1 e2 e3 e4
    have e5 := j_prod (d := d) (σ := σ) (Z := Z) (t := gb + (5 * (k + 1) + 0)) (a := gb + (5 * k + 0)) (b := xa) (by omega) (by omega) hx
    rw [(hA k (by omega)).1, hW xa hxo, hX, ← hZ1] at e5
    have e6 := j_prod (d := d) (σ := σ) (Z := Z1) (t := gb + (5 * 0 + (k + 1))) (a := gb + (5 * 0 + k)) (b := ya) (by omega) (by omega) hy
    rw [show Z1 (gb + (5 * 0 + k)) = pw Y k by rw [hZ1, va_up_ne _ _ (by omega)]; exact (hA k (by omega)).2, show Z1 ya = Y by rw [hZ1, va_up_ne _ _ (by omega), hW ya hyo, hY]] at e6
    have hs1 : spK (gb + (5 * (k + 1) + 0)) := by omega
    have hs2 : spK (gb + (5 * 0 + (k + 1))) := by omega
    rw [rb_ls 17 66 60]
    simp (disch := omega) only [rb_gs_eq, rb_cs_go, rb_cs_end, rb_cs_ite, Nat.reduceAdd, Nat.zero_add, wr_at, wr_wr, true_and, and_true, and_self, true_or, or_true, false_or, or_false, ↓reduceIte, Nat.reduceLT, Nat.reduceLeDiff, Nat.reduceEqDiff, lg_cmp_ge, lg_cmp_le, lg_cmp_gt, lg_cmp_lt, lg_cmp_eq, Bool.false_eq_true, reduceCtorEq, mg_i, mg_l, decide_true, beq_self_eq_true, Nat.reduceBEq, st_20, dX1_fill_0, xx_aloadn0, xx_aloadn0N, dX1_fill_1, xx_iconst, kc_0, dX1_fill_2, dX1_fill_3, xx_ivV, zz_c0, zz_c3, zz_c1, zz_c2, zz_c5, zz_c8, zz_c6, zz_R, List.length_cons, List.length_nil, List.take_succ_cons, List.take_zero, List.drop_succ_cons, List.drop_zero, List.reverse_cons, List.reverse_nil, List.nil_append, List.cons_append, rb_cat, List.map_cons, List.map_nil, List.sum_cons, List.sum_nil, Value.category, rb_isR, rb_isS, Option.toList_some, Option.toList_none, tv_1_18, dX1_fill_6, xx_ldc2, zz_J, tj_1_22, dX1_fill_9, dX1_fill_12, tv_1_24, dX1_fill_15, kc_1, dX1_fill_16, xx_istoren3, zz_invi, zz_invr, zz_invz, zz_invn, zz_invl, dX1_fill_17, xx_iloadn3, dX1_fill_18, kc_4, dX1_fill_19, xx_icgt, rb_jp, Int.cast_ofNat_Int, Int.reduceAdd, Int.reduceLE, Int.reduceToNat, Int.reduceNeg, dX1_fill_22, dX1_fill_23, dX1_fill_24, dX1_fill_25, dX1_fill_28, dX1_fill_29, dX1_fill_30, dX1_fill_31, xx_isub, dX1_fill_32, dX1_fill_33, dX1_fill_36, xx_aloadn1, xx_aloadn1N, dX1_fill_37, tv_1_28, dX1_fill_40, dX1_fill_41, dX1_fill_42, dX1_fill_43, dX1_fill_46, dX1_fill_47, dX1_fill_48, dX1_fill_49, dX1_fill_50, dX1_fill_51, dX1_fill_54, xx_aloadn2, xx_aloadn2N, dX1_fill_55, dX1_fill_58, xx_iinc3, dX1_fill_61, xx_goto, dX1_fill_64, dX1_fill_65, dX1_fill_66, dX1_fill_67, dX1_fill_68, xx_icge, dX1_fill_71, dX1_fill_72, xx_istore4, dX1_fill_74, dX1_fill_75, xx_iload4, dX1_fill_77, xx_iadd, dX1_fill_78, dX1_fill_79, dX1_fill_82, dX1_fill_83, dX1_fill_84, dX1_fill_86, dX1_fill_89, dX1_fill_90, dX1_fill_91, dX1_fill_92, dX1_fill_95, dX1_fill_96, dX1_fill_97, dX1_fill_99, dX1_fill_102, dX1_fill_105, xx_iinc4, dX1_fill_108, dX1_fill_111, dX1_fill_114, dX1_fill_117, xx_vret, lit_4, nI_lt', nI_1, nI_pred, e1, e2, e3, e4, e5, e6, hg', hg1, js_at hs1, js_at hs2, if_pos, if_neg]
    refine ih (k + 1 + 1) _ (by omega) (by omega) (fun t ht => ?_) (fun t ht => ?_)
    · by_cases ht' : t = k + 1
      · rw [ht']
        refine ⟨?_, ?_⟩
        · rw [va_up_ne _ _ (by omega), hZ1, va_up_self]; rfl
        · rw [va_up_self]; rfl
      · refine ⟨?_, ?_⟩
        · rw [va_up_ne _ _ (by omega), hZ1, va_up_ne _ _ (by omega)]
          exact (hA t (by omega)).1
        · rw [va_up_ne _ _ (by omega), hZ1, va_up_ne _ _ (by omega)]
          exact (hA t (by omega)).2
    · rw [va_up_ne _ _ (by omega), hZ1, va_up_ne _ _ (by omega)]
      exact hW t ht
theorem q_fill (hG : GF σ gr ga gb) (hx : spK xa) (hy : spK ya) (hxo : xa < gb ∨ gb + 25 ≤ xa) (hyo : ya < gb ∨ gb + 25 ≤ ya) : ∃ Z', rb_R (d + 3) 20 [.ref gr, .ref xa, .ref ya] (js σ Z0) = some (none, js σ Z') ∧ Full Z' gb (Z0 xa) (Z0 ya) ∧ Away gb Z0 Z' := by
  obtain ⟨hgr, hg, gf, hga, hgf⟩ := id hG
  have hg' := (js_no (σ := σ) (Z := Z0) (k := gr) (by omega)).trans hg
  have hga' := (js_no (σ := σ) (Z := Z0) (k := ga) (by omega)).trans hga
  have e1 := q_gat (d := d) (i := 0) (j := 0) hg' hga' (by omega) (hgf _ (by omega))
  rw [← lit_0] at e1
  have hs1 : spK (gb + (5 * 0 + 0)) := by omega
  have e2 := j_become (d := d + 1) (σ := σ) (Z := Z0) (t := gb + (5 * 0 + 0)) (x := 64) (y := 64) hs1
  rw [en_20 (k := 40) (ls := [some (.ref gr), some (.ref xa), some (.ref ya), none, none]) rfl, rb_gg, rb_ls 17 9999 40]
  simp (disch := omega) only [rb_gs_eq, rb_cs_go, rb_cs_end, rb_cs_ite, Nat.reduceAdd, Nat.zero_add, wr_at, wr_wr, true_and, and_true, and_self, true_or, or_true, false_or, or_false, ↓reduceIte, Nat.reduceLT, Nat.reduceLeDiff, Nat.reduceEqDiff, lg_cmp_ge, lg_cmp_le, lg_cmp_gt, lg_cmp_lt, lg_cmp_eq, Bool.false_eq_true, reduceCtorEq, mg_i, mg_l, decide_true, beq_self_eq_true, Nat.reduceBEq, st_20, dX1_fill_0, xx_aloadn0, xx_aloadn0N, dX1_fill_1, xx_iconst, kc_0, dX1_fill_2, dX1_fill_3, xx_ivV, zz_c0, zz_c3, zz_c1, zz_c2, zz_c5, zz_c8, zz_c6, zz_R, List.length_cons, List.length_nil, List.take_succ_cons, List.take_zero, List.drop_succ_cons, List.drop_zero, List.reverse_cons, List.reverse_nil, List.nil_append, List.cons_append, rb_cat, List.map_cons, List.map_nil, List.sum_cons, List.sum_nil, Value.category, rb_isR, rb_isS, Option.toList_some, Option.toList_none, tv_1_18, dX1_fill_6, xx_ldc2, zz_J, tj_1_22, dX1_fill_9, dX1_fill_12, tv_1_24, dX1_fill_15, kc_1, dX1_fill_16, xx_istoren3, zz_invi, zz_invr, zz_invz, zz_invn, zz_invl, dX1_fill_17, xx_iloadn3, dX1_fill_18, kc_4, dX1_fill_19, xx_icgt, rb_jp, Int.cast_ofNat_Int, Int.reduceAdd, Int.reduceLE, Int.reduceToNat, Int.reduceNeg, dX1_fill_22, dX1_fill_23, dX1_fill_24, dX1_fill_25, dX1_fill_28, dX1_fill_29, dX1_fill_30, dX1_fill_31, xx_isub, dX1_fill_32, dX1_fill_33, dX1_fill_36, xx_aloadn1, xx_aloadn1N, dX1_fill_37, tv_1_28, dX1_fill_40, dX1_fill_41, dX1_fill_42, dX1_fill_43, dX1_fill_46, dX1_fill_47, dX1_fill_48, dX1_fill_49, dX1_fill_50, dX1_fill_51, dX1_fill_54, xx_aloadn2, xx_aloadn2N, dX1_fill_55, dX1_fill_58, xx_iinc3, dX1_fill_61, xx_goto, dX1_fill_64, dX1_fill_65, dX1_fill_66, dX1_fill_67, dX1_fill_68, xx_icge, dX1_fill_71, dX1_fill_72, xx_istore4, dX1_fill_74, dX1_fill_75, xx_iload4, dX1_fill_77, xx_iadd, dX1_fill_78, dX1_fill_79, dX1_fill_82, dX1_fill_83, dX1_fill_84, dX1_fill_86, dX1_fill_89, dX1_fill_90, dX1_fill_91, dX1_fill_92, dX1_fill_95, dX1_fill_96, dX1_fill_97, dX1_fill_99, dX1_fill_102, dX1_fill_105, xx_iinc4, dX1_fill_108, dX1_fill_111, dX1_fill_114, dX1_fill_117, xx_vret, e1, e2, hg', js_at hs1]
  refine l_fax hG hx hy hxo hyo rfl rfl 4 1 _ (by omega) (by omega) (fun t ht => ?_) (fun t ht => ?_)
  · have h0 : t = 0 := by omega
    rw [h0]
    exact ⟨va_up_self _ _ _, va_up_self _ _ _⟩
  · rw [va_up_ne _ _ (by omega)]
end
