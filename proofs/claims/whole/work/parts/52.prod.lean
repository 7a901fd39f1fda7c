/-! ===== the model: product, differences, quotient ===== -/
theorem lit_15 : (15 : Int32) = nI 15 := rfl
theorem lit_16 : (16 : Int32) = nI 16 := rfl
theorem lit_17 : (17 : Int32) = nI 17 := rfl
theorem lit_19 : (19 : Int32) = nI 19 := rfl
theorem lit_21 : (21 : Int32) = nI 21 := rfl
section
variable {d : Nat} {σ : rb_S} {W : Nat → Nat → sI} {bx : Nat → Int32} {ih lt ra tl fa ds : Int32}
theorem n64 : ¬ (64 : Int64) = 0 := by decide
theorem p_prod {a b t i j k : Nat} (ha : isL a) (hb : isL b) (ht : isL t) (hi : 2 * i + 1 < mlen a) (hj : 2 * j + 1 < mlen b) (hk : 2 * k + 1 < mlen t) : rb_R (d + 3) 139 [.ref a, .int (nI (2 * i)), .ref b, .int (nI (2 * j)), .ref t, .int (nI (2 * k))] (ml σ W bx) = some (none, ml σ (va_up W t (va_up (W t) k (iprod (W a i) (W b j)))) bx) := by
  have hm : ∀ q, mlen q ≤ 22 := fun q => by unfold mlen; (repeat' split) <;> omega
  have ma := hm a
  have mb := hm b
  have mt := hm t
  have ri0 : rb_in (nI (2 * i)) (mlen a) = true := by rw [rb_in' (by omega)]; exact decide_eq_true (by omega)
  have ri1 : rb_in (nI (2 * i + 1)) (mlen a) = true := by rw [rb_in' (by omega)]; exact decide_eq_true (by omega)
  have rj0 : rb_in (nI (2 * j)) (mlen b) = true := by rw [rb_in' (by omega)]; exact decide_eq_true (by omega)
  have rj1 : rb_in (nI (2 * j + 1)) (mlen b) = true := by rw [rb_in' (by omega)]; exact decide_eq_true (by omega)
  have rk0 : rb_in (nI (2 * k)) (mlen t) = true := by rw [rb_in' (by omega)]; exact decide_eq_true (by omega)
  have rk1 : rb_in (nI (2 * k + 1)) (mlen t) = true := by rw [rb_in' (by omega)]; exact decide_eq_true (by omega)
  have ci0 : (nI (2 * i)).toNatClampNeg = 2 * i := nI_cl (by omega)
  have ci1 : (nI (2 * i + 1)).toNatClampNeg = 2 * i + 1 := nI_cl (by omega)
  have cj0 : (nI (2 * j)).toNatClampNeg = 2 * j := nI_cl (by omega)
  have cj1 : (nI (2 * j + 1)).toNatClampNeg = 2 * j + 1 := nI_cl (by omega)
  have ck0 : (nI (2 * k)).toNatClampNeg = 2 * k := nI_cl (by omega)
  have ck1 : (nI (2 * k + 1)).toNatClampNeg = 2 * k + 1 := nI_cl (by omega)
  rw [en_139 (k := 100) (ls := [some (.ref a), some (.int (nI (2 * i))), some (.ref b), some (.int (nI (2 * j))), some (.ref t), some (.int (nI (2 * k))), none, none, none, none, none, none, none, none]) rfl]
  simp only [rb_gg_eq, rb_ct_go, rb_ct_end, rb_ct_ite, Nat.reduceAdd, Nat.zero_add, wr_at, wr_wr, true_and, and_true, and_self, true_or, or_true, false_or, or_false, ↓reduceIte, Nat.reduceLT, Nat.reduceLeDiff, Nat.reduceEqDiff, lg_cmp_ge, lg_cmp_le, lg_cmp_gt, lg_cmp_lt, lg_cmp_eq, Bool.false_eq_true, reduceCtorEq, mg_i, mg_l, decide_true, beq_self_eq_true, Nat.reduceBEq, st_139, dX9_product_0, xx_aloadn0, xx_aloadn0N, dX9_product_1, xx_iloadn1, dX9_product_2, xx_lald, zz_yl, dX9_product_3, xx_aloadn2, xx_aloadn2N, dX9_product_4, xx_iloadn3, dX9_product_5, dX9_product_6, xx_lmul, dX9_product_7, xx_lstore6, zz_invi, zz_invr, zz_invz, zz_invn, zz_invl, dX9_product_9, dX9_product_10, dX9_product_11, dX9_product_12, dX9_product_13, dX9_product_14, xx_iconst, kc_1, dX9_product_15, xx_iadd, dX9_product_16, dX9_product_17, dX9_product_18, xx_lstore8, dX9_product_20, dX9_product_21, dX9_product_22, dX9_product_23, dX9_product_24, dX9_product_25, dX9_product_26, dX9_product_27, dX9_product_28, dX9_product_29, xx_lstore10, dX9_product_31, dX9_product_32, dX9_product_33, dX9_product_34, dX9_product_35, dX9_product_36, dX9_product_37, dX9_product_38, dX9_product_39, dX9_product_40, dX9_product_41, dX9_product_42, xx_lstore12, dX9_product_44, xx_aload4, xx_aload4N, dX9_product_46, xx_iload5, dX9_product_48, xx_lload6, dX9_product_50, xx_lload8, dX9_product_52, xx_ivS, zz_c0, zz_c3, zz_c1, zz_c2, zz_c5, zz_c8, zz_c6, zz_R, List.length_cons, List.length_nil, List.take_succ_cons, List.take_zero, List.drop_succ_cons, List.drop_zero, List.reverse_cons, List.reverse_nil, List.nil_append, List.cons_append, rb_cat, List.map_cons, List.map_nil, List.sum_cons, List.sum_nil, Value.category, rb_isR, rb_isS, Option.toList_some, Option.toList_none, tv_9_48, dX9_product_55, xx_lload10, dX9_product_57, xx_lload12, dX9_product_59, dX9_product_62, dX9_product_65, xx_ldc2, zz_J, tj_9_51, dX9_product_68, tv_9_44, dX9_product_71, xx_last, zz_wl, dX9_product_72, dX9_product_74, dX9_product_76, dX9_product_77, dX9_product_78, dX9_product_80, dX9_product_82, tv_9_53, dX9_product_85, dX9_product_87, dX9_product_89, dX9_product_92, dX9_product_95, dX9_product_98, tv_9_56, dX9_product_101, dX9_product_102, xx_vret, ml_at ha, ml_at hb, ml_at ht, nI_1, ri0, ri1, rj0, rj1, rk0, rk1, ci0, ci1, cj0, cj1, ck0, ck1, un_0, un_1, un_w0, un_w1, ml_w ht, va_up_self, va_up_up, p_lesser, p_greater, p_down n64, p_up n64, dn_64]
  rfl
theorem p_less {a b t : Nat} (hM : σ.1 102 = some (mo ih lt ra tl fa ds)) (ha : a ≤ 10) (hb : b ≤ 10) (ht : t ≤ 10) : rb_R (d + 1) 141 [.ref 102, .int (nI (2 * a)), .int (nI (2 * b)), .int (nI (2 * t))] (ml σ W bx) = some (none, ml σ (va_up W 107 (va_up (W 107) t (iless (W 107 a) (W 107 b)))) bx) := by
  have hM' : ∀ W, (ml σ W bx).1 102 = some (mo ih lt ra tl fa ds) := fun W => (ml_no (by omega)).trans hM
  rw [en_141 (k := 100) (ls := [some (.ref 102), some (.int (nI (2 * a))), some (.int (nI (2 * b))), some (.int (nI (2 * t))), none, none, none, none]) rfl]
  simp (disch := omega) only [rb_gg_eq, rb_ct_go, rb_ct_end, rb_ct_ite, Nat.reduceAdd, Nat.zero_add, wr_at, wr_wr, true_and, and_true, and_self, true_or, or_true, false_or, or_false, ↓reduceIte, Nat.reduceLT, Nat.reduceLeDiff, Nat.reduceEqDiff, lg_cmp_ge, lg_cmp_le, lg_cmp_gt, lg_cmp_lt, lg_cmp_eq, Bool.false_eq_true, reduceCtorEq, mg_i, mg_l, decide_true, beq_self_eq_true, Nat.reduceBEq, st_141, dX9_lessens_0, xx_aloadn0, xx_aloadn0N, dX9_lessens_1, xx_getf, zz_f, zz_g, zz_v, List.getElem?_cons_zero, List.getElem?_cons_succ, tf_9_22, dX9_lessens_4, xx_iloadn1, dX9_lessens_5, xx_lald, zz_yl, dX9_lessens_6, dX9_lessens_7, dX9_lessens_10, xx_iloadn2, dX9_lessens_11, xx_iconst, kc_1, dX9_lessens_12, xx_iadd, dX9_lessens_13, dX9_lessens_14, xx_lsub, dX9_lessens_15, xx_lstore4, zz_invi, zz_invr, zz_invz, zz_invn, zz_invl, dX9_lessens_17, dX9_lessens_18, dX9_lessens_21, dX9_lessens_22, dX9_lessens_23, dX9_lessens_24, dX9_lessens_25, dX9_lessens_26, dX9_lessens_29, dX9_lessens_30, dX9_lessens_31, dX9_lessens_32, xx_lstore6, dX9_lessens_34, dX9_lessens_35, dX9_lessens_38, xx_iloadn3, dX9_lessens_39, xx_lload4, dX9_lessens_41, xx_last, zz_wl, dX9_lessens_42, dX9_lessens_43, dX9_lessens_46, dX9_lessens_47, dX9_lessens_48, dX9_lessens_49, xx_lload6, dX9_lessens_51, dX9_lessens_52, xx_vret, hM', ml_107, nI_1, rb_in', nI_cl, decide_eq_true_eq, if_pos, un_0, un_1, un_w0, un_w1, ml_w107, va_up_self, va_up_up]
  rfl
theorem p_cross {a b c e t : Nat} (hM : σ.1 102 = some (mo ih lt ra tl fa ds)) (ha : a ≤ 8) (hb : b ≤ 8) (hc : c ≤ 8) (he : e ≤ 8) (ht : t ≤ 8) : ∃ W', rb_R (d + 4) 142 [.ref 102, .int (nI (2 * a)), .int (nI (2 * b)), .int (nI (2 * c)), .int (nI (2 * e)), .int (nI (2 * t))] (ml σ W bx) = some (none, ml σ W' bx) ∧ W' 107 t = icross (W 107 a) (W 107 b) (W 107 c) (W 107 e) ∧ (∀ u, u ≤ 8 → u ≠ t → W' 107 u = W 107 u) ∧ ∀ q, q ≠ 107 → W' q = W q := by
  have hM' : ∀ W, (ml σ W bx).1 102 = some (mo ih lt ra tl fa ds) := fun W => (ml_no (by omega)).trans hM
  have l1 : isL 107 := by omega
  have m1 : mlen 107 = 22 := rfl
  obtain ⟨W1, h1⟩ : ∃ W1, W1 = va_up W 107 (va_up (W 107) 9 (iprod (W 107 a) (W 107 b))) := ⟨_, rfl⟩
  obtain ⟨W2, h2⟩ : ∃ W2, W2 = va_up W1 107 (va_up (W1 107) 10 (iprod (W1 107 c) (W1 107 e))) := ⟨_, rfl⟩
  have e1 := p_prod (d := d) (σ := σ) (W := W) (bx := bx) (a := 107) (b := 107) (t := 107) (i := a) (j := b) (k := 9) l1 l1 l1 (by omega) (by omega) (by omega)
  have e2 := p_prod (d := d) (σ := σ) (W := W1) (bx := bx) (a := 107) (b := 107) (t := 107) (i := c) (j := e) (k := 10) l1 l1 l1 (by omega) (by omega) (by omega)
  have e3 := p_less (d := d + 2) (σ := σ) (W := W2) (bx := bx) (a := 9) (b := 10) (t := t) hM (by omega) (by omega) (by omega)
  rw [← h1] at e1
  rw [← h2] at e2
  simp only [Nat.reduceMul, ← lit_18, ← lit_20] at e1 e2 e3
  have w1 : ∀ u, u ≠ 9 → W1 107 u = W 107 u := fun u hu => by rw [h1, va_up_self, va_up_ne _ _ hu]
  have w2 : ∀ u, u ≠ 9 → u ≠ 10 → W2 107 u = W 107 u := fun u hu hu2 => by rw [h2, va_up_self, va_up_ne _ _ hu2, w1 u hu]
  have x9 : W2 107 9 = iprod (W 107 a) (W 107 b) := by rw [h2, va_up_self, va_up_ne _ _ (by omega), h1, va_up_self, va_up_self]
  have x10 : W2 107 10 = iprod (W 107 c) (W 107 e) := by rw [h2, va_up_self, va_up_self, w1 c (by omega), w1 e (by omega)]
  refine ⟨va_up W2 107 (va_up (W2 107) t (iless (W2 107 9) (W2 107 10))), ?_, ?_, fun u hu hut => ?_, fun q hq => ?_⟩
  · rw [en_142 (k := 100) (ls := [some (.ref 102), some (.int (nI (2 * a))), some (.int (nI (2 * b))), some (.int (nI (2 * c))), some (.int (nI (2 * e))), some (.int (nI (2 * t)))]) rfl]
    simp only [rb_gg_eq, rb_ct_go, rb_ct_end, rb_ct_ite, Nat.reduceAdd, Nat.zero_add, wr_at, wr_wr, true_and, and_true, and_self, true_or, or_true, false_or, or_false, ↓reduceIte, Nat.reduceLT, Nat.reduceLeDiff, Nat.reduceEqDiff, lg_cmp_ge, lg_cmp_le, lg_cmp_gt, lg_cmp_lt, lg_cmp_eq, Bool.false_eq_true, reduceCtorEq, mg_i, mg_l, decide_true, beq_self_eq_true, Nat.reduceBEq, st_142, dX9_crosses_0, xx_aloadn0, xx_aloadn0N, dX9_crosses_1, xx_getf, zz_f, zz_g, zz_v, List.getElem?_cons_zero, List.getElem?_cons_succ, tf_9_22, dX9_crosses_4, xx_iloadn1, dX9_crosses_5, dX9_crosses_6, dX9_crosses_9, xx_iloadn2, dX9_crosses_10, dX9_crosses_11, dX9_crosses_14, xx_bipush, kb_18, dX9_crosses_16, xx_ivS, zz_c0, zz_c3, zz_c1, zz_c2, zz_c5, zz_c8, zz_c6, zz_R, List.length_cons, List.length_nil, List.take_succ_cons, List.take_zero, List.drop_succ_cons, List.drop_zero, List.reverse_cons, List.reverse_nil, List.nil_append, List.cons_append, rb_cat, List.map_cons, List.map_nil, List.sum_cons, List.sum_nil, Value.category, rb_isR, rb_isS, Option.toList_some, Option.toList_none, tv_9_59, dX9_crosses_19, dX9_crosses_20, dX9_crosses_23, xx_iloadn3, dX9_crosses_24, dX9_crosses_25, dX9_crosses_28, xx_iload4, dX9_crosses_30, dX9_crosses_31, dX9_crosses_34, kb_20, dX9_crosses_36, dX9_crosses_39, dX9_crosses_40, dX9_crosses_42, dX9_crosses_44, xx_iload5, dX9_crosses_46, xx_ivV, tv_9_63, dX9_crosses_49, xx_vret, hM', e1, e2, e3]
  · rw [va_up_self, va_up_self, x9, x10]; rfl
  · rw [va_up_self, va_up_ne _ _ hut, w2 u (by omega) (by omega)]
  · rw [va_up_ne _ _ hq, h2, va_up_ne _ _ hq, h1, va_up_ne _ _ hq]
end
