/-! ===== the model's rows of longs (107 .. 110, 112) as spans, its box (111) ===== -/
def un (p : Nat → sI) (t : Nat) : Int64 := if t % 2 = 0 then (p (t / 2)).1 else (p (t / 2)).2
theorem un_0 (p : Nat → sI) (i : Nat) : un p (2 * i) = (p i).1 := by
  unfold un
  rw [if_pos (by omega), show 2 * i / 2 = i by omega]
theorem un_1 (p : Nat → sI) (i : Nat) : un p (2 * i + 1) = (p i).2 := by
  unfold un
  rw [if_neg (by omega), show (2 * i + 1) / 2 = i by omega]
theorem un_w0 (p : Nat → sI) (i : Nat) (x : Int64) : vp_updL (un p) (2 * i) x = un (va_up p i (x, (p i).2)) := by
  funext j
  unfold vp_updL un va_up
  by_cases h : j = 2 * i
  · rw [if_pos h, if_pos (by omega), if_pos (by omega)]
  · rw [if_neg h]
    by_cases h2 : j % 2 = 0
    · rw [if_pos h2, if_pos h2, if_neg (by omega)]
    · rw [if_neg h2, if_neg h2]
      by_cases h3 : j / 2 = i
      · rw [if_pos h3, h3]
      · rw [if_neg h3]
theorem un_w1 (p : Nat → sI) (i : Nat) (x : Int64) : vp_updL (un p) (2 * i + 1) x = un (va_up p i ((p i).1, x)) := by
  funext j
  unfold vp_updL un va_up
  by_cases h : j = 2 * i + 1
  · rw [if_pos h, if_neg (by omega), if_pos (by omega)]
  · rw [if_neg h]
    by_cases h2 : j % 2 = 0
    · rw [if_pos h2, if_pos h2]
      by_cases h3 : j / 2 = i
      · rw [if_pos h3, h3]
      · rw [if_neg h3]
    · rw [if_neg h2, if_neg h2, if_neg (by omega)]
def mlen (k : Nat) : Nat := if k = 107 then 22 else if k = 110 then 2 else if k = 112 then 4 else 10
def ml (σ : rb_S) (W : Nat → Nat → sI) (b : Nat → Int32) : rb_S := (fun k => if k = 111 then some (.inl (0, 4, .inl b)) else if 107 ≤ k ∧ k ≤ 112 then some (.inl (1, mlen k, .inr (.inl (un (W k))))) else σ.1 k, σ.2)
abbrev isL (a : Nat) : Prop := 107 ≤ a ∧ a ≤ 112 ∧ a ≠ 111
section
variable {d : Nat} {σ : rb_S} {W : Nat → Nat → sI} {b : Nat → Int32}
theorem ml_at {a : Nat} (h : isL a) : (ml σ W b).1 a = some (.inl (1, mlen a, .inr (.inl (un (W a))))) := by
  show (if a = 111 then _ else if 107 ≤ a ∧ a ≤ 112 then _ else _) = _
  rw [if_neg h.2.2, if_pos ⟨h.1, h.2.1⟩]
theorem ml_107 : (ml σ W b).1 107 = some (.inl (1, 22, .inr (.inl (un (W 107))))) := rfl
theorem ml_108 : (ml σ W b).1 108 = some (.inl (1, 10, .inr (.inl (un (W 108))))) := rfl
theorem ml_109 : (ml σ W b).1 109 = some (.inl (1, 10, .inr (.inl (un (W 109))))) := rfl
theorem ml_110 : (ml σ W b).1 110 = some (.inl (1, 2, .inr (.inl (un (W 110))))) := rfl
theorem ml_112 : (ml σ W b).1 112 = some (.inl (1, 4, .inr (.inl (un (W 112))))) := rfl
theorem ml_111 : (ml σ W b).1 111 = some (.inl (0, 4, .inl b)) := rfl
theorem ml_no {a : Nat} (h : a < 107 ∨ 112 < a) : (ml σ W b).1 a = σ.1 a := by
  show (if a = 111 then _ else if 107 ≤ a ∧ a ≤ 112 then _ else _) = _
  rw [if_neg (by omega), if_neg (by omega)]
theorem ml_w {a : Nat} {p : Nat → sI} (h : isL a) : rb_wr (ml σ W b) a (.inl (1, mlen a, .inr (.inl (un p)))) = ml σ (va_up W a p) b := by
  refine Prod.ext ?_ rfl
  funext j
  show va_up (ml σ W b).1 a (some _) j = (ml σ (va_up W a p) b).1 j
  by_cases hj : j = a
  · rw [hj, va_up_self, ml_at h, va_up_self]
  · rw [va_up_ne _ _ hj]
    show (if j = 111 then _ else if 107 ≤ j ∧ j ≤ 112 then some (Sum.inl (1, mlen j, Sum.inr (Sum.inl (un (W j))))) else _) = (if j = 111 then _ else if 107 ≤ j ∧ j ≤ 112 then some (Sum.inl (1, mlen j, Sum.inr (Sum.inl (un (va_up W a p j))))) else _)
    rw [va_up_ne _ _ hj]
theorem ml_w107 {p : Nat → sI} : rb_wr (ml σ W b) 107 (.inl (1, 22, .inr (.inl (un p)))) = ml σ (va_up W 107 p) b := ml_w (a := 107) (by omega)
theorem ml_w108 {p : Nat → sI} : rb_wr (ml σ W b) 108 (.inl (1, 10, .inr (.inl (un p)))) = ml σ (va_up W 108 p) b := ml_w (a := 108) (by omega)
theorem ml_w109 {p : Nat → sI} : rb_wr (ml σ W b) 109 (.inl (1, 10, .inr (.inl (un p)))) = ml σ (va_up W 109 p) b := ml_w (a := 109) (by omega)
theorem ml_w110 {p : Nat → sI} : rb_wr (ml σ W b) 110 (.inl (1, 2, .inr (.inl (un p)))) = ml σ (va_up W 110 p) b := ml_w (a := 110) (by omega)
theorem ml_w112 {p : Nat → sI} : rb_wr (ml σ W b) 112 (.inl (1, 4, .inr (.inl (un p)))) = ml σ (va_up W 112 p) b := ml_w (a := 112) (by omega)
theorem ml_w111 {b' : Nat → Int32} : rb_wr (ml σ W b) 111 (.inl (0, 4, .inl b')) = ml σ W b' := by
  refine Prod.ext ?_ rfl
  funext j
  show va_up (ml σ W b).1 111 (some _) j = (ml σ W b').1 j
  by_cases hj : j = 111
  · rw [hj, va_up_self, ml_111]
  · rw [va_up_ne _ _ hj]
    show (if j = 111 then _ else _) = (if j = 111 then _ else _)
    rw [if_neg hj, if_neg hj]
theorem ml_out {a : Nat} {c : va_E} (h : a < 107 ∨ 112 < a) : rb_wr (ml σ W b) a c = ml (rb_wr σ a c) W b := by
  refine Prod.ext ?_ rfl
  funext j
  show va_up (ml σ W b).1 a (some c) j = (ml (rb_wr σ a c) W b).1 j
  by_cases hj : j = a
  · rw [hj, va_up_self, ml_no h, wr_at]
  · rw [va_up_ne _ _ hj]
    unfold ml
    dsimp only
    rw [wr_ne hj]
/-! ===== the model's reckoning ===== -/
/-- a quotient put down, as the model reckons it -/
def dn (x y : Int64) : Int64 :=
  if (if y < 0 then -x else x) < (if y < 0 then -x else x) / (if y < 0 then -y else y) * (if y < 0 then -y else y) then (if y < 0 then -x else x) / (if y < 0 then -y else y) - 1 else (if y < 0 then -x else x) / (if y < 0 then -y else y)
theorem p_in {x y z : Int32} {τ : rb_S} : rb_R (d + 1) 134 [.int x, .int y, .int z] τ = some (some (.int (if x < y then 0 else if z < x then 0 else 1)), τ) := by
  rw [en_134 (k := 40) (ls := [some (.int x), some (.int y), some (.int z)]) rfl]
  simp only [rb_gg_eq, rb_ct_go, rb_ct_end, rb_ct_ite, Nat.reduceAdd, Nat.zero_add, wr_at, wr_wr, true_and, and_true, and_self, true_or, or_true, false_or, or_false, ↓reduceIte, Nat.reduceLT, Nat.reduceLeDiff, Nat.reduceEqDiff, lg_cmp_ge, lg_cmp_le, lg_cmp_gt, lg_cmp_lt, lg_cmp_eq, Bool.false_eq_true, reduceCtorEq, mg_i, mg_l, decide_true, beq_self_eq_true, Nat.reduceBEq, st_134, dX9_in_0, xx_iloadn0, dX9_in_1, xx_iloadn1, dX9_in_2, xx_iclt, rb_jp, Int.cast_ofNat_Int, Int.reduceAdd, Int.reduceLE, Int.reduceToNat, Int.reduceNeg, dX9_in_5, dX9_in_6, xx_iloadn2, dX9_in_7, xx_icgt, dX9_in_10, xx_iconst, kc_1, dX9_in_11, xx_goto, dX9_in_14, kc_0, dX9_in_15, xx_iret, xx_zret0, xx_zret1]
theorem p_down {x y : Int64} {τ : rb_S} (hy : ¬ y = 0) : rb_R (d + 1) 135 [.long x, .long y] τ = some (some (.long (dn x y)), τ) := by
  rw [en_135 (k := 60) (ls := [some (.long x), none, some (.long y), none, none, none, none, none, none, none]) rfl]
  unfold dn
  by_cases h : y < 0
  · have h0 : ¬ 0 ≤ y := Int64.not_le.mpr h
    have hn : ¬ -y = 0 := fun e => hy (by rw [← Int64.neg_neg (a := y), e]; rfl)
    by_cases c : -x < -x / -y * -y
    · have c' : ¬ -x / -y * -y ≤ -x := Int64.not_le.mpr c
      simp only [rb_gg_eq, rb_ct_go, rb_ct_end, rb_ct_ite, Nat.reduceAdd, Nat.zero_add, wr_at, wr_wr, true_and, and_true, and_self, true_or, or_true, false_or, or_false, ↓reduceIte, Nat.reduceLT, Nat.reduceLeDiff, Nat.reduceEqDiff, lg_cmp_ge, lg_cmp_le, lg_cmp_gt, lg_cmp_lt, lg_cmp_eq, Bool.false_eq_true, reduceCtorEq, mg_i, mg_l, decide_true, beq_self_eq_true, Nat.reduceBEq, st_135, dX9_down_0, xx_lloadn2, dX9_down_1, xx_lconst, kl_0, dX9_down_2, xx_lcmp, dX9_down_3, xx_ifge, rb_jp, Int.cast_ofNat_Int, Int.reduceAdd, Int.reduceLE, Int.reduceToNat, Int.reduceNeg, dX9_down_6, xx_lloadn0, dX9_down_7, xx_lneg, dX9_down_8, xx_goto, dX9_down_11, dX9_down_12, xx_lstore4, zz_invi, zz_invr, zz_invz, zz_invn, zz_invl, dX9_down_14, dX9_down_15, dX9_down_16, dX9_down_17, dX9_down_20, dX9_down_21, dX9_down_22, dX9_down_25, dX9_down_26, xx_lstore6, dX9_down_28, xx_lload4, dX9_down_30, xx_lload6, dX9_down_32, xx_ldiv, dX9_down_33, xx_lstore8, dX9_down_35, xx_lload8, dX9_down_37, dX9_down_39, xx_lmul, dX9_down_40, dX9_down_42, dX9_down_43, xx_ifle, dX9_down_46, dX9_down_48, kl_1, dX9_down_49, xx_lsub, dX9_down_50, dX9_down_53, dX9_down_55, xx_lret, h0, hn, h, c, c']
    · have c' : -x / -y * -y ≤ -x := Int64.not_lt.mp c
      simp only [rb_gg_eq, rb_ct_go, rb_ct_end, rb_ct_ite, Nat.reduceAdd, Nat.zero_add, wr_at, wr_wr, true_and, and_true, and_self, true_or, or_true, false_or, or_false, ↓reduceIte, Nat.reduceLT, Nat.reduceLeDiff, Nat.reduceEqDiff, lg_cmp_ge, lg_cmp_le, lg_cmp_gt, lg_cmp_lt, lg_cmp_eq, Bool.false_eq_true, reduceCtorEq, mg_i, mg_l, decide_true, beq_self_eq_true, Nat.reduceBEq, st_135, dX9_down_0, xx_lloadn2, dX9_down_1, xx_lconst, kl_0, dX9_down_2, xx_lcmp, dX9_down_3, xx_ifge, rb_jp, Int.cast_ofNat_Int, Int.reduceAdd, Int.reduceLE, Int.reduceToNat, Int.reduceNeg, dX9_down_6, xx_lloadn0, dX9_down_7, xx_lneg, dX9_down_8, xx_goto, dX9_down_11, dX9_down_12, xx_lstore4, zz_invi, zz_invr, zz_invz, zz_invn, zz_invl, dX9_down_14, dX9_down_15, dX9_down_16, dX9_down_17, dX9_down_20, dX9_down_21, dX9_down_22, dX9_down_25, dX9_down_26, xx_lstore6, dX9_down_28, xx_lload4, dX9_down_30, xx_lload6, dX9_down_32, xx_ldiv, dX9_down_33, xx_lstore8, dX9_down_35, xx_lload8, dX9_down_37, dX9_down_39, xx_lmul, dX9_down_40, dX9_down_42, dX9_down_43, xx_ifle, dX9_down_46, dX9_down_48, kl_1, dX9_down_49, xx_lsub, dX9_down_50, dX9_down_53, dX9_down_55, xx_lret, h0, hn, h, c, c']
  · have h0 : 0 ≤ y := Int64.not_lt.mp h
    by_cases c : x < x / y * y
    · have c' : ¬ x / y * y ≤ x := Int64.not_le.mpr c
      simp only [rb_gg_eq, rb_ct_go, rb_ct_end, rb_ct_ite, Nat.reduceAdd, Nat.zero_add, wr_at, wr_wr, true_and, and_true, and_self, true_or, or_true, false_or, or_false, ↓reduceIte, Nat.reduceLT, Nat.reduceLeDiff, Nat.reduceEqDiff, lg_cmp_ge, lg_cmp_le, lg_cmp_gt, lg_cmp_lt, lg_cmp_eq, Bool.false_eq_true, reduceCtorEq, mg_i, mg_l, decide_true, beq_self_eq_true, Nat.reduceBEq, st_135, dX9_down_0, xx_lloadn2, dX9_down_1, xx_lconst, kl_0, dX9_down_2, xx_lcmp, dX9_down_3, xx_ifge, rb_jp, Int.cast_ofNat_Int, Int.reduceAdd, Int.reduceLE, Int.reduceToNat, Int.reduceNeg, dX9_down_6, xx_lloadn0, dX9_down_7, xx_lneg, dX9_down_8, xx_goto, dX9_down_11, dX9_down_12, xx_lstore4, zz_invi, zz_invr, zz_invz, zz_invn, zz_invl, dX9_down_14, dX9_down_15, dX9_down_16, dX9_down_17, dX9_down_20, dX9_down_21, dX9_down_22, dX9_down_25, dX9_down_26, xx_lstore6, dX9_down_28, xx_lload4, dX9_down_30, xx_lload6, dX9_down_32, xx_ldiv, dX9_down_33, xx_lstore8, dX9_down_35, xx_lload8, dX9_down_37, dX9_down_39, xx_lmul, dX9_down_40, dX9_down_42, dX9_down_43, xx_ifle, dX9_down_46, dX9_down_48, kl_1, dX9_down_49, xx_lsub, dX9_down_50, dX9_down_53, dX9_down_55, xx_lret, h0, hy, h, c, c']
    · have c' : x / y * y ≤ x := Int64.not_lt.mp c
      simp only [rb_gg_eq, rb_ct_go, rb_ct_end, rb_ct_ite, Nat.reduceAdd, Nat.zero_add, wr_at, wr_wr, true_and, and_true, and_self, true_or, or_true, false_or, or_false, ↓reduceIte, Nat.reduceLT, Nat.reduceLeDiff, Nat.reduceEqDiff, lg_cmp_ge, lg_cmp_le, lg_cmp_gt, lg_cmp_lt, lg_cmp_eq, Bool.false_eq_true, reduceCtorEq, mg_i, mg_l, decide_true, beq_self_eq_true, Nat.reduceBEq, st_135, dX9_down_0, xx_lloadn2, dX9_down_1, xx_lconst, kl_0, dX9_down_2, xx_lcmp, dX9_down_3, xx_ifge, rb_jp, Int.cast_ofNat_Int, Int.reduceAdd, Int.reduceLE, Int.reduceToNat, Int.reduceNeg, dX9_down_6, xx_lloadn0, dX9_down_7, xx_lneg, dX9_down_8, xx_goto, dX9_down_11, dX9_down_12, xx_lstore4, zz_invi, zz_invr, zz_invz, zz_invn, zz_invl, dX9_down_14, dX9_down_15, dX9_down_16, dX9_down_17, dX9_down_20, dX9_down_21, dX9_down_22, dX9_down_25, dX9_down_26, xx_lstore6, dX9_down_28, xx_lload4, dX9_down_30, xx_lload6, dX9_down_32, xx_ldiv, dX9_down_33, xx_lstore8, dX9_down_35, xx_lload8, dX9_down_37, dX9_down_39, xx_lmul, dX9_down_40, dX9_down_42, dX9_down_43, xx_ifle, dX9_down_46, dX9_down_48, kl_1, dX9_down_49, xx_lsub, dX9_down_50, dX9_down_53, dX9_down_55, xx_lret, h0, hy, h, c, c']
theorem p_up {x y : Int64} {τ : rb_S} (hy : ¬ y = 0) : rb_R (d + 2) 136 [.long x, .long y] τ = some (some (.long (-dn (-x) y)), τ) := by
  rw [en_136 (k := 60) (ls := [some (.long x), none, some (.long y), none]) rfl]
  simp only [rb_gg_eq, rb_ct_go, rb_ct_end, rb_ct_ite, Nat.reduceAdd, Nat.zero_add, wr_at, wr_wr, true_and, and_true, and_self, true_or, or_true, false_or, or_false, ↓reduceIte, Nat.reduceLT, Nat.reduceLeDiff, Nat.reduceEqDiff, lg_cmp_ge, lg_cmp_le, lg_cmp_gt, lg_cmp_lt, lg_cmp_eq, Bool.false_eq_true, reduceCtorEq, mg_i, mg_l, decide_true, beq_self_eq_true, Nat.reduceBEq, st_136, dX9_up_0, xx_lloadn0, dX9_up_1, xx_lneg, dX9_up_2, xx_lloadn2, dX9_up_3, xx_ivS, zz_c0, zz_c3, zz_c1, zz_c2, zz_c5, zz_c8, zz_c6, zz_R, List.length_cons, List.length_nil, List.take_succ_cons, List.take_zero, List.drop_succ_cons, List.drop_zero, List.reverse_cons, List.reverse_nil, List.nil_append, List.cons_append, rb_cat, List.map_cons, List.map_nil, List.sum_cons, List.sum_nil, Value.category, rb_isR, rb_isS, Option.toList_some, Option.toList_none, tv_9_44, dX9_up_6, dX9_up_7, xx_lret, p_down hy]
theorem p_lesser {x y : Int64} {τ : rb_S} : rb_R (d + 1) 137 [.long x, .long y] τ = some (some (.long (lmin x y)), τ) := by
  rw [en_137 (k := 40) (ls := [some (.long x), none, some (.long y), none]) rfl]
  unfold lmin
  by_cases h : y ≤ x
  · by_cases h2 : y < x
    · simp only [rb_gg_eq, rb_ct_go, rb_ct_end, rb_ct_ite, Nat.reduceAdd, Nat.zero_add, wr_at, wr_wr, true_and, and_true, and_self, true_or, or_true, false_or, or_false, ↓reduceIte, Nat.reduceLT, Nat.reduceLeDiff, Nat.reduceEqDiff, lg_cmp_ge, lg_cmp_le, lg_cmp_gt, lg_cmp_lt, lg_cmp_eq, Bool.false_eq_true, reduceCtorEq, mg_i, mg_l, decide_true, beq_self_eq_true, Nat.reduceBEq, st_137, dX9_lesser_0, xx_lloadn0, dX9_lesser_1, xx_lloadn2, dX9_lesser_2, xx_lcmp, dX9_lesser_3, xx_ifge, rb_jp, Int.cast_ofNat_Int, Int.reduceAdd, Int.reduceLE, Int.reduceToNat, Int.reduceNeg, dX9_lesser_6, dX9_lesser_7, xx_goto, dX9_lesser_10, dX9_lesser_11, xx_lret, h, h2]
    · have h3 : x = y := Int64.le_antisymm (Int64.not_lt.mp h2) h
      simp only [rb_gg_eq, rb_ct_go, rb_ct_end, rb_ct_ite, Nat.reduceAdd, Nat.zero_add, wr_at, wr_wr, true_and, and_true, and_self, true_or, or_true, false_or, or_false, ↓reduceIte, Nat.reduceLT, Nat.reduceLeDiff, Nat.reduceEqDiff, lg_cmp_ge, lg_cmp_le, lg_cmp_gt, lg_cmp_lt, lg_cmp_eq, Bool.false_eq_true, reduceCtorEq, mg_i, mg_l, decide_true, beq_self_eq_true, Nat.reduceBEq, st_137, dX9_lesser_0, xx_lloadn0, dX9_lesser_1, xx_lloadn2, dX9_lesser_2, xx_lcmp, dX9_lesser_3, xx_ifge, rb_jp, Int.cast_ofNat_Int, Int.reduceAdd, Int.reduceLE, Int.reduceToNat, Int.reduceNeg, dX9_lesser_6, dX9_lesser_7, xx_goto, dX9_lesser_10, dX9_lesser_11, xx_lret, h, h2]
      rw [h3]
  · have h2 : ¬ y < x := fun e => h (Int64.le_of_lt e)
    simp only [rb_gg_eq, rb_ct_go, rb_ct_end, rb_ct_ite, Nat.reduceAdd, Nat.zero_add, wr_at, wr_wr, true_and, and_true, and_self, true_or, or_true, false_or, or_false, ↓reduceIte, Nat.reduceLT, Nat.reduceLeDiff, Nat.reduceEqDiff, lg_cmp_ge, lg_cmp_le, lg_cmp_gt, lg_cmp_lt, lg_cmp_eq, Bool.false_eq_true, reduceCtorEq, mg_i, mg_l, decide_true, beq_self_eq_true, Nat.reduceBEq, st_137, dX9_lesser_0, xx_lloadn0, dX9_lesser_1, xx_lloadn2, dX9_lesser_2, xx_lcmp, dX9_lesser_3, xx_ifge, rb_jp, Int.cast_ofNat_Int, Int.reduceAdd, Int.reduceLE, Int.reduceToNat, Int.reduceNeg, dX9_lesser_6, dX9_lesser_7, xx_goto, dX9_lesser_10, dX9_lesser_11, xx_lret, h, h2]
theorem p_greater {x y : Int64} {τ : rb_S} : rb_R (d + 1) 138 [.long x, .long y] τ = some (some (.long (lmax x y)), τ) := by
  rw [en_138 (k := 40) (ls := [some (.long x), none, some (.long y), none]) rfl]
  unfold lmax
  by_cases h : x ≤ y
  · by_cases h2 : x < y
    · simp only [rb_gg_eq, rb_ct_go, rb_ct_end, rb_ct_ite, Nat.reduceAdd, Nat.zero_add, wr_at, wr_wr, true_and, and_true, and_self, true_or, or_true, false_or, or_false, ↓reduceIte, Nat.reduceLT, Nat.reduceLeDiff, Nat.reduceEqDiff, lg_cmp_ge, lg_cmp_le, lg_cmp_gt, lg_cmp_lt, lg_cmp_eq, Bool.false_eq_true, reduceCtorEq, mg_i, mg_l, decide_true, beq_self_eq_true, Nat.reduceBEq, st_138, dX9_greater_0, xx_lloadn0, dX9_greater_1, xx_lloadn2, dX9_greater_2, xx_lcmp, dX9_greater_3, xx_ifle, rb_jp, Int.cast_ofNat_Int, Int.reduceAdd, Int.reduceLE, Int.reduceToNat, Int.reduceNeg, dX9_greater_6, dX9_greater_7, xx_goto, dX9_greater_10, dX9_greater_11, xx_lret, h, h2]
    · have h3 : x = y := Int64.le_antisymm h (Int64.not_lt.mp h2)
      simp only [rb_gg_eq, rb_ct_go, rb_ct_end, rb_ct_ite, Nat.reduceAdd, Nat.zero_add, wr_at, wr_wr, true_and, and_true, and_self, true_or, or_true, false_or, or_false, ↓reduceIte, Nat.reduceLT, Nat.reduceLeDiff, Nat.reduceEqDiff, lg_cmp_ge, lg_cmp_le, lg_cmp_gt, lg_cmp_lt, lg_cmp_eq, Bool.false_eq_true, reduceCtorEq, mg_i, mg_l, decide_true, beq_self_eq_true, Nat.reduceBEq, st_138, dX9_greater_0, xx_lloadn0, dX9_greater_1, xx_lloadn2, dX9_greater_2, xx_lcmp, dX9_greater_3, xx_ifle, rb_jp, Int.cast_ofNat_Int, Int.reduceAdd, Int.reduceLE, Int.reduceToNat, Int.reduceNeg, dX9_greater_6, dX9_greater_7, xx_goto, dX9_greater_10, dX9_greater_11, xx_lret, h, h2]
      rw [h3]
  · have h2 : ¬ x < y := fun e => h (Int64.le_of_lt e)
    simp only [rb_gg_eq, rb_ct_go, rb_ct_end, rb_ct_ite, Nat.reduceAdd, Nat.zero_add, wr_at, wr_wr, true_and, and_true, and_self, true_or, or_true, false_or, or_false, ↓reduceIte, Nat.reduceLT, Nat.reduceLeDiff, Nat.reduceEqDiff, lg_cmp_ge, lg_cmp_le, lg_cmp_gt, lg_cmp_lt, lg_cmp_eq, Bool.false_eq_true, reduceCtorEq, mg_i, mg_l, decide_true, beq_self_eq_true, Nat.reduceBEq, st_138, dX9_greater_0, xx_lloadn0, dX9_greater_1, xx_lloadn2, dX9_greater_2, xx_lcmp, dX9_greater_3, xx_ifle, rb_jp, Int.cast_ofNat_Int, Int.reduceAdd, Int.reduceLE, Int.reduceToNat, Int.reduceNeg, dX9_greater_6, dX9_greater_7, xx_goto, dX9_greater_10, dX9_greater_11, xx_lret, h, h2]
end
