/-! ===== what is made ===== -/
theorem df_0 : rb_def 0 = [.null, .int 0, .int 0] := rfl
theorem df_1 : rb_def 1 = [.null] := rfl
theorem df_2 : rb_def 2 = [.null, .null, .null, .null, .null, .null, .null, .null, .null, .null, .null, .null, .null, .null, .null, .null, .null, .null, .null, .null] := rfl
theorem df_3 : rb_def 3 = [.null] := rfl
theorem df_4 : rb_def 4 = [.null, .null, .null, .int 0, .int 0, .int 0, .int 0] := rfl
theorem df_5 : rb_def 5 = [.long 0, .long 0] := rfl
theorem df_6 : rb_def 6 = [.null, .null, .null, .null, .null, .null, .null, .int 0] := rfl
theorem df_7 : rb_def 7 = [.null, .int 0] := rfl
theorem df_8 : rb_def 8 = [.null, .null, .null, .null, .null, .null] := rfl
theorem df_9 : rb_def 9 = [.null, .null, .null, .null, .int 0, .null, .null, .null, .null, .null, .null, .null, .int 0, .int 0, .int 0, .int 0, .int 0] := rfl
theorem mk_at {σ : rb_S} {c : va_E} {n k : Nat} (h : k = σ.2.1) : (rb_mk σ c n).1 k = some c := by rw [h]; exact va_up_self _ _ _
theorem mk_ne {σ : rb_S} {c : va_E} {n k : Nat} (h : k ≠ σ.2.1) : (rb_mk σ c n).1 k = σ.1 k := va_up_ne _ _ h
theorem mk_2 {σ : rb_S} {c : va_E} {n : Nat} : (rb_mk σ c n).2.1 = σ.2.1 + 1 := rfl
theorem mk_22 {σ : rb_S} {c : va_E} {n : Nat} : (rb_mk σ c n).2.2 = σ.2.2 + n := rfl
theorem wr_21 {σ : rb_S} {c : va_E} {a : Nat} : (rb_wr σ a c).2.1 = σ.2.1 := rfl
theorem wr_22 {σ : rb_S} {c : va_E} {a : Nat} : (rb_wr σ a c).2.2 = σ.2.2 := rfl
theorem wr_mk {σ : rb_S} {c e : va_E} {n a : Nat} (h : a ≠ σ.2.1) : rb_wr (rb_mk σ c n) a e = rb_mk (rb_wr σ a e) c n := by
  refine Prod.ext ?_ rfl
  funext j
  show va_up (va_up σ.1 σ.2.1 (some c)) a (some e) j = va_up (va_up σ.1 a (some e)) σ.2.1 (some c) j
  unfold va_up
  by_cases h1 : j = a
  · by_cases h2 : j = σ.2.1
    · exact absurd (h1.symm.trans h2) h
    · simp [h1, h]
  · by_cases h2 : j = σ.2.1
    · simp [h2, Ne.symm h]
    · simp [h1, h2]
theorem wr_mk' {σ : rb_S} {c e : va_E} {n a : Nat} (h : a = σ.2.1) : rb_wr (rb_mk σ c n) a e = rb_mk σ e n := by
  refine Prod.ext ?_ rfl
  funext j
  show va_up (va_up σ.1 σ.2.1 (some c)) a (some e) j = va_up σ.1 σ.2.1 (some e) j
  rw [h]
  unfold va_up
  by_cases h2 : j = σ.2.1 <;> simp [h2]
theorem cl_lit : (25 : Int32).toNatClampNeg = 25 ∧ (24 : Int32).toNatClampNeg = 24 ∧ (96 : Int32).toNatClampNeg = 96 ∧ (200 : Int32).toNatClampNeg = 200 ∧ (2 : Int32).toNatClampNeg = 2 ∧ (256 : Int32).toNatClampNeg = 256 ∧ (4 : Int32).toNatClampNeg = 4 ∧ (22 : Int32).toNatClampNeg = 22 ∧ (10 : Int32).toNatClampNeg = 10 ∧ (2911 : Int32).toNatClampNeg = 2911 ∧ (5822 : Int32).toNatClampNeg = 5822 ∧ (50 : Int32).toNatClampNeg = 50 := by decide +kernel
theorem nn_lit : ¬ (25 : Int32) < 0 ∧ ¬ (24 : Int32) < 0 ∧ ¬ (96 : Int32) < 0 ∧ ¬ (200 : Int32) < 0 ∧ ¬ (2 : Int32) < 0 ∧ ¬ (256 : Int32) < 0 ∧ ¬ (4 : Int32) < 0 ∧ ¬ (22 : Int32) < 0 ∧ ¬ (10 : Int32) < 0 ∧ ¬ (2911 : Int32) < 0 ∧ ¬ (5822 : Int32) < 0 ∧ ¬ (50 : Int32) < 0 := by decide +kernel
section
variable {d a n : Nat} {σ : rb_S}
theorem i_span : rb_R (d + 1) 61 [.ref a] σ = some (none, σ) := by
  rw [en_61 (k := 40) (ls := [some (.ref a)]) rfl]
  simp only [rb_gg_eq, rb_ct_go, rb_ct_end, rb_ct_ite, Nat.reduceAdd, Nat.zero_add, wr_at, wr_wr, true_and, and_true, and_self, true_or, or_true, false_or, or_false, ↓reduceIte, Nat.reduceLT, Nat.reduceLeDiff, Nat.reduceEqDiff, lg_cmp_ge, lg_cmp_le, lg_cmp_gt, lg_cmp_lt, lg_cmp_eq, Bool.false_eq_true, reduceCtorEq, mg_i, mg_l, decide_true, beq_self_eq_true, Nat.reduceBEq, st_61, dX5_init_0, xx_aloadn0, xx_aloadn0N, dX5_init_1, xx_ivP, zz_c0, zz_c3, zz_c1, zz_c2, zz_c5, zz_c8, zz_c6, zz_R, List.length_cons, List.length_nil, List.take_succ_cons, List.take_zero, List.drop_succ_cons, List.drop_zero, List.reverse_cons, List.reverse_nil, List.nil_append, List.cons_append, rb_cat, List.map_cons, List.map_nil, List.sum_cons, List.sum_nil, Value.category, rb_isR, rb_isS, Option.toList_some, Option.toList_none, tv_5_3, dX5_init_4, xx_vret]
theorem i_poly (h : σ.1 a = some (.inr (3, [.null]))) (ha : a ≠ σ.2.1) : rb_R (d + 1) 38 [.ref a] σ = some (none, rb_mk (rb_wr σ a (.inr (3, [.ref σ.2.1]))) (.inl (0, 25, .inl fun _ => 0)) 25) := by
  rw [en_38 (k := 40) (ls := [some (.ref a)]) rfl]
  simp only [rb_gg_eq, rb_ct_go, rb_ct_end, rb_ct_ite, Nat.reduceAdd, Nat.zero_add, wr_at, wr_wr, true_and, and_true, and_self, true_or, or_true, false_or, or_false, ↓reduceIte, Nat.reduceLT, Nat.reduceLeDiff, Nat.reduceEqDiff, lg_cmp_ge, lg_cmp_le, lg_cmp_gt, lg_cmp_lt, lg_cmp_eq, Bool.false_eq_true, reduceCtorEq, mg_i, mg_l, decide_true, beq_self_eq_true, Nat.reduceBEq, st_38, dX3_init_0, xx_aloadn0, xx_aloadn0N, dX3_init_1, xx_ivP, zz_c0, zz_c3, zz_c1, zz_c2, zz_c5, zz_c8, zz_c6, zz_R, List.length_cons, List.length_nil, List.take_succ_cons, List.take_zero, List.drop_succ_cons, List.drop_zero, List.reverse_cons, List.reverse_nil, List.nil_append, List.cons_append, rb_cat, List.map_cons, List.map_nil, List.sum_cons, List.sum_nil, Value.category, rb_isR, rb_isS, Option.toList_some, Option.toList_none, tv_3_3, dX3_init_4, dX3_init_5, xx_bipush, kb_25, dX3_init_7, xx_newI, xx_newJ, dX3_init_9, xx_putf, zz_q, zz_p, zz_ti, zz_tl, zz_t0, zz_t1, zz_to, zz_ta, List.getElem?_cons_zero, List.getElem?_cons_succ, List.set_cons_zero, List.set_cons_succ, tf_3_9, dX3_init_12, xx_vret, mk_ne ha, h, cl_lit, nn_lit, not_false_eq_true, wr_mk ha]
theorem i_text (h : σ.1 a = some (.inr (7, [.null, .int 0]))) (ha : a ≠ σ.2.1) : rb_R (d + 1) 95 [.ref a] σ = some (none, rb_mk (rb_wr σ a (.inr (7, [.ref σ.2.1, .int 0]))) (.inl (0, 200, .inl fun _ => 0)) 200) := by
  rw [en_95 (k := 40) (ls := [some (.ref a)]) rfl]
  simp only [rb_gg_eq, rb_ct_go, rb_ct_end, rb_ct_ite, Nat.reduceAdd, Nat.zero_add, wr_at, wr_wr, true_and, and_true, and_self, true_or, or_true, false_or, or_false, ↓reduceIte, Nat.reduceLT, Nat.reduceLeDiff, Nat.reduceEqDiff, lg_cmp_ge, lg_cmp_le, lg_cmp_gt, lg_cmp_lt, lg_cmp_eq, Bool.false_eq_true, reduceCtorEq, mg_i, mg_l, decide_true, beq_self_eq_true, Nat.reduceBEq, st_95, dX7_init_0, xx_aloadn0, xx_aloadn0N, dX7_init_1, xx_ivP, zz_c0, zz_c3, zz_c1, zz_c2, zz_c5, zz_c8, zz_c6, zz_R, List.length_cons, List.length_nil, List.take_succ_cons, List.take_zero, List.drop_succ_cons, List.drop_zero, List.reverse_cons, List.reverse_nil, List.nil_append, List.cons_append, rb_cat, List.map_cons, List.map_nil, List.sum_cons, List.sum_nil, Value.category, rb_isR, rb_isS, Option.toList_some, Option.toList_none, tv_7_3, dX7_init_4, dX7_init_5, xx_sipush, ks_200, dX7_init_8, xx_newI, xx_newJ, dX7_init_10, xx_putf, zz_q, zz_p, zz_ti, zz_tl, zz_t0, zz_t1, zz_to, zz_ta, List.getElem?_cons_zero, List.getElem?_cons_succ, List.set_cons_zero, List.set_cons_succ, tf_7_9, dX7_init_13, xx_vret, mk_ne ha, h, cl_lit, nn_lit, not_false_eq_true, wr_mk ha]
theorem i_row {m : Nat} (h : σ.1 a = some (.inr (0, [.null, .int 0, .int 0]))) (ha : a ≠ σ.2.1) (hm : 1 ≤ m) (hm2 : m ≤ 200) : rb_R (d + 2) 0 [.ref a, .int (nI m)] σ = some (none, rb_mk (rb_wr σ a (brw σ.2.1 (nI m) (nI 0))) (.inl (0, 4 * m, .inl fun _ => 0)) (4 * m)) := by
  have e1 : imax 1 (nI m) = nI m := by
    unfold imax
    by_cases hh : (1 : Int32) < nI m
    · rw [if_pos hh]
    · rw [if_neg hh]
      rw [lit_1, nI_lt' (by omega) (by omega)] at hh
      have : m = 1 := by omega
      rw [this]; rfl
  have ha' : a ≠ (rb_wr σ a (.inr (0, [.null, .int (nI m), .int 0]))).2.1 := ha
  have e2 : (4 : Int32) * nI m = nI (4 * m) := by rw [lit_4, nI_mul']
  have e3 : ¬ nI (4 * m) < 0 := nI_pos (by omega)
  have e4 : (nI (4 * m)).toNatClampNeg = 4 * m := nI_cl (by omega)
  have e5 : 4 * m ≤ 1000000 := by omega
  rw [en_0 (k := 40) (ls := [some (.ref a), some (.int (nI m))]) rfl]
  simp only [rb_gg_eq, rb_ct_go, rb_ct_end, rb_ct_ite, Nat.reduceAdd, Nat.zero_add, wr_at, wr_wr, true_and, and_true, and_self, true_or, or_true, false_or, or_false, ↓reduceIte, Nat.reduceLT, Nat.reduceLeDiff, Nat.reduceEqDiff, lg_cmp_ge, lg_cmp_le, lg_cmp_gt, lg_cmp_lt, lg_cmp_eq, Bool.false_eq_true, reduceCtorEq, mg_i, mg_l, decide_true, beq_self_eq_true, Nat.reduceBEq, st_0, dX0_init_0, xx_aloadn0, xx_aloadn0N, dX0_init_1, xx_ivP, zz_c0, zz_c3, zz_c1, zz_c2, zz_c5, zz_c8, zz_c6, zz_R, List.length_cons, List.length_nil, List.take_succ_cons, List.take_zero, List.drop_succ_cons, List.drop_zero, List.reverse_cons, List.reverse_nil, List.nil_append, List.cons_append, rb_cat, List.map_cons, List.map_nil, List.sum_cons, List.sum_nil, Value.category, rb_isR, rb_isS, Option.toList_some, Option.toList_none, tv_0_3, dX0_init_4, dX0_init_5, xx_iconst, kc_1, dX0_init_6, xx_iloadn1, dX0_init_7, xx_ivS, tv_0_9, dX0_init_10, xx_putf, zz_q, zz_p, zz_ti, zz_tl, zz_t0, zz_t1, zz_to, zz_ta, List.getElem?_cons_zero, List.getElem?_cons_succ, List.set_cons_zero, List.set_cons_succ, tf_0_15, dX0_init_13, dX0_init_14, kc_4, dX0_init_15, dX0_init_16, xx_getf, zz_f, zz_g, zz_v, dX0_init_19, xx_imul, dX0_init_20, xx_newI, xx_newJ, dX0_init_22, tf_0_21, dX0_init_25, xx_vret, h, q_maxI, e1, e2, e3, e4, e5, mk_ne ha', not_false_eq_true, wr_mk ha', wr_21]
  rfl
/-- cells put behind the others -/
def mm (σ : rb_S) (n : Nat) (L : List va_E) (s : Nat) : rb_S := (fun k => if n ≤ k ∧ k < n + L.length then L[k - n]? else σ.1 k, n + L.length, s)
theorem mm_nil (h : σ.2.1 = n) : mm σ n [] σ.2.2 = σ := by
  refine Prod.ext ?_ (Prod.ext h.symm rfl)
  funext k
  exact if_neg (by intro hh; have := hh.2; simp at this; omega)
theorem mm_at {L : List va_E} {s k : Nat} {c : va_E} (h : n ≤ k) (hc : L[k - n]? = some c) : (mm σ n L s).1 k = some c := by
  have hl : k - n < L.length := (List.getElem?_eq_some_iff.mp hc).1
  exact (if_pos (by omega)).trans hc
theorem mm_rd {L : List va_E} {s k : Nat} (h : n ≤ k) (h2 : k < n + L.length) : (mm σ n L s).1 k = L[k - n]? := if_pos ⟨h, h2⟩
theorem mm_lo {L : List va_E} {s k : Nat} (h : k < n) : (mm σ n L s).1 k = σ.1 k := if_neg (by omega)
theorem mm_2 {L : List va_E} {s : Nat} : (mm σ n L s).2.1 = n + L.length := rfl
theorem mm_22 {L : List va_E} {s : Nat} : (mm σ n L s).2.2 = s := rfl
theorem mm_mk {L : List va_E} {s k : Nat} {c : va_E} : rb_mk (mm σ n L s) c k = mm σ n (L ++ [c]) (s + k) := by
  refine Prod.ext ?_ (Prod.ext (by show n + L.length + 1 = n + (L ++ [c]).length; simp; omega) rfl)
  funext j
  show va_up (mm σ n L s).1 (n + L.length) (some c) j = (mm σ n (L ++ [c]) (s + k)).1 j
  by_cases h : j = n + L.length
  · rw [h, va_up_self, mm_at (c := c) (by omega) (by rw [Nat.add_sub_cancel_left]; simp)]
  · rw [va_up_ne _ _ h]
    by_cases h2 : n ≤ j ∧ j < n + L.length
    · have e1 : (mm σ n L s).1 j = L[j - n]? := if_pos h2
      have e2 : (mm σ n (L ++ [c]) (s + k)).1 j = (L ++ [c])[j - n]? := if_pos (by simp; omega)
      rw [e1, e2, List.getElem?_append_left (by omega)]
    · have e1 : (mm σ n L s).1 j = σ.1 j := if_neg h2
      have e2 : (mm σ n (L ++ [c]) (s + k)).1 j = σ.1 j := if_neg (by simp; omega)
      rw [e1, e2]
theorem mm_wr {L : List va_E} {s k : Nat} {c : va_E} (h : n ≤ k) (h2 : k < n + L.length) : rb_wr (mm σ n L s) k c = mm σ n (L.set (k - n) c) s := by
  refine Prod.ext ?_ (Prod.ext (by show n + L.length = n + (L.set (k - n) c).length; simp) rfl)
  funext j
  show va_up (mm σ n L s).1 k (some c) j = (mm σ n (L.set (k - n) c) s).1 j
  by_cases hj : j = k
  · rw [hj, va_up_self, mm_at (c := c) h (by rw [List.getElem?_set_self (by omega)])]
  · rw [va_up_ne _ _ hj]
    by_cases h2 : n ≤ j ∧ j < n + L.length
    · have e1 : (mm σ n L s).1 j = L[j - n]? := if_pos h2
      have e2 : (mm σ n (L.set (k - n) c) s).1 j = (L.set (k - n) c)[j - n]? := if_pos (by simp; omega)
      rw [e1, e2, List.getElem?_set_ne (by omega)]
    · have e1 : (mm σ n L s).1 j = σ.1 j := if_neg h2
      have e2 : (mm σ n (L.set (k - n) c) s).1 j = σ.1 j := if_neg (by simp; omega)
      rw [e1, e2]
theorem mm_wlo {L : List va_E} {s k : Nat} {c : va_E} (h : k < n) : rb_wr (mm σ n L s) k c = mm (rb_wr σ k c) n L s := by
  refine Prod.ext ?_ rfl
  funext j
  show va_up (mm σ n L s).1 k (some c) j = (mm (rb_wr σ k c) n L s).1 j
  by_cases hj : j = k
  · rw [hj, va_up_self, mm_lo h, wr_at]
  · rw [va_up_ne _ _ hj]
    unfold mm
    dsimp only
    rw [wr_ne hj]
theorem m_poly {L : List va_E} {s i : Nat} (hi : L[i]? = some (.inr (3, [.null]))) : rb_R (d + 1) 38 [.ref (n + i)] (mm σ n L s) = some (none, mm σ n (L.set i (.inr (3, [.ref (n + L.length)])) ++ [.inl (0, 25, .inl fun _ => 0)]) (s + 25)) := by
  have hl : i < L.length := (List.getElem?_eq_some_iff.mp hi).1
  rw [i_poly (mm_at (c := .inr (3, [.null])) (by omega) (by rw [Nat.add_sub_cancel_left]; exact hi)) (by rw [mm_2]; omega), mm_wr (by omega) (by omega), mm_mk, Nat.add_sub_cancel_left, mm_2]
theorem m_row {L : List va_E} {s i m : Nat} (hi : L[i]? = some (.inr (0, [.null, .int 0, .int 0]))) (hm : 1 ≤ m) (hm2 : m ≤ 200) : rb_R (d + 2) 0 [.ref (n + i), .int (nI m)] (mm σ n L s) = some (none, mm σ n (L.set i (brw (n + L.length) (nI m) (nI 0)) ++ [.inl (0, 4 * m, .inl fun _ => 0)]) (s + 4 * m)) := by
  have hl : i < L.length := (List.getElem?_eq_some_iff.mp hi).1
  rw [i_row (mm_at (c := .inr (0, [.null, .int 0, .int 0])) (by omega) (by rw [Nat.add_sub_cancel_left]; exact hi)) (by rw [mm_2]; omega) hm hm2, mm_wr (by omega) (by omega), mm_mk, Nat.add_sub_cancel_left, mm_2]
theorem i_state (hσ : σ.2.1 = a + 1) (h : σ.1 a = some (.inr (6, [.null, .null, .null, .null, .null, .null, .null, .int 0]))) : ∃ σ', rb_R (d + 3) 75 [.ref a] σ = some (none, σ') ∧ StAt σ' a (fun _ _ => 0, fun _ => 0) 4 ∧ (∀ k, k < a → σ'.1 k = σ.1 k) ∧ σ'.2.1 = a + 14 ∧ σ'.2.2 = σ.2.2 + 2920 := by
  have f64 : (64 : Int32) = nI 64 := rfl
  have f200 : (200 : Int32) = nI 200 := rfl
  have c200 : (nI 200).toNatClampNeg = 200 := rfl
  have p200 : ¬ nI 200 < 0 := nI_pos (by omega)
  obtain ⟨o, ho⟩ : ∃ o : va_E, o = .inr (6, [.null, .null, .null, .null, .null, .null, .null, .int 0]) := ⟨_, rfl⟩
  have e0 : σ = mm σ a [o] σ.2.2 := by
    refine Prod.ext ?_ (Prod.ext hσ rfl)
    funext k
    by_cases hk : a ≤ k ∧ k < a + [o].length
    · have hk' : k = a := by simp at hk; omega
      have e1 : (mm σ a [o] σ.2.2).1 k = [o][k - a]? := if_pos hk
      rw [e1, hk', Nat.sub_self, h, ho]; rfl
    · exact (if_neg hk).symm
  rw [ho] at e0
  have e1 : ∀ s c0, rb_R (d + 2) 38 [.ref (a + 1)] (mm σ a [c0, .inr (3, [.null])] s) = some (none, mm σ a [c0, .inr (3, [.ref (a + 2)]), .inl (0, 25, .inl fun _ => 0)] (s + 25)) := fun s c0 => by rw [m_poly (i := 1) rfl]; rfl
  have e3 : ∀ s c0 c1 c2, rb_R (d + 2) 38 [.ref (a + 3)] (mm σ a [c0, c1, c2, .inr (3, [.null])] s) = some (none, mm σ a [c0, c1, c2, .inr (3, [.ref (a + 4)]), .inl (0, 25, .inl fun _ => 0)] (s + 25)) := fun s c0 c1 c2 => by rw [m_poly (i := 3) rfl]; rfl
  have e5 : ∀ s c0 c1 c2 c3 c4, rb_R (d + 2) 0 [.ref (a + 5), .int (nI 64)] (mm σ a [c0, c1, c2, c3, c4, .inr (0, [.null, .int 0, .int 0])] s) = some (none, mm σ a [c0, c1, c2, c3, c4, brw (a + 6) (nI 64) (nI 0), .inl (0, 4 * 64, .inl fun _ => 0)] (s + 4 * 64)) := fun s c0 c1 c2 c3 c4 => by rw [m_row (i := 5) rfl (by omega) (by omega)]; rfl
  have e7 : ∀ s c0 c1 c2 c3 c4 c5 c6, rb_R (d + 2) 0 [.ref (a + 7), .int (nI 200)] (mm σ a [c0, c1, c2, c3, c4, c5, c6, .inr (0, [.null, .int 0, .int 0])] s) = some (none, mm σ a [c0, c1, c2, c3, c4, c5, c6, brw (a + 8) (nI 200) (nI 0), .inl (0, 4 * 200, .inl fun _ => 0)] (s + 4 * 200)) := fun s c0 c1 c2 c3 c4 c5 c6 => by rw [m_row (i := 7) rfl (by omega) (by omega)]; rfl
  have e9 : ∀ s c0 c1 c2 c3 c4 c5 c6 c7 c8, rb_R (d + 2) 0 [.ref (a + 9), .int (nI 200)] (mm σ a [c0, c1, c2, c3, c4, c5, c6, c7, c8, .inr (0, [.null, .int 0, .int 0])] s) = some (none, mm σ a [c0, c1, c2, c3, c4, c5, c6, c7, c8, brw (a + 10) (nI 200) (nI 0), .inl (0, 4 * 200, .inl fun _ => 0)] (s + 4 * 200)) := fun s c0 c1 c2 c3 c4 c5 c6 c7 c8 => by rw [m_row (i := 9) rfl (by omega) (by omega)]; rfl
  have e11 : ∀ s c0 c1 c2 c3 c4 c5 c6 c7 c8 c9 c10, rb_R (d + 2) 0 [.ref (a + 11), .int (nI 200)] (mm σ a [c0, c1, c2, c3, c4, c5, c6, c7, c8, c9, c10, .inr (0, [.null, .int 0, .int 0])] s) = some (none, mm σ a [c0, c1, c2, c3, c4, c5, c6, c7, c8, c9, c10, brw (a + 12) (nI 200) (nI 0), .inl (0, 4 * 200, .inl fun _ => 0)] (s + 4 * 200)) := fun s c0 c1 c2 c3 c4 c5 c6 c7 c8 c9 c10 => by rw [m_row (i := 11) rfl (by omega) (by omega)]; rfl
  have run : ∃ σ', rb_R (d + 3) 75 [.ref a] σ = some (none, σ') ∧ σ' = mm σ a [.inr (6, [.ref (a + 1), .ref (a + 3), .ref (a + 5), .ref (a + 7), .ref (a + 9), .ref (a + 11), .ref (a + 13), .int 4]), .inr (3, [.ref (a + 2)]), .inl (0, 25, .inl fun _ => 0), .inr (3, [.ref (a + 4)]), .inl (0, 25, .inl fun _ => 0), brw (a + 6) (nI 64) (nI 0), .inl (0, 4 * 64, .inl fun _ => 0), brw (a + 8) (nI 200) (nI 0), .inl (0, 4 * 200, .inl fun _ => 0), brw (a + 10) (nI 200) (nI 0), .inl (0, 4 * 200, .inl fun _ => 0), brw (a + 12) (nI 200) (nI 0), .inl (0, 4 * 200, .inl fun _ => 0), .inl (0, 200, .inl fun _ => 0)] (σ.2.2 + 2920) := by
    refine ⟨_, ?_, rfl⟩
    conv => lhs; rw [e0]
    rw [en_75 (k := 100) (ls := [some (.ref a)]) rfl]
    simp (disch := first | omega | (simp only [List.length_cons, List.length_nil]; omega)) only [rb_gg_eq, rb_ct_go, rb_ct_end, rb_ct_ite, Nat.reduceAdd, Nat.zero_add, wr_at, wr_wr, true_and, and_true, and_self, true_or, or_true, false_or, or_false, ↓reduceIte, Nat.reduceLT, Nat.reduceLeDiff, Nat.reduceEqDiff, lg_cmp_ge, lg_cmp_le, lg_cmp_gt, lg_cmp_lt, lg_cmp_eq, Bool.false_eq_true, reduceCtorEq, mg_i, mg_l, decide_true, beq_self_eq_true, Nat.reduceBEq, st_75, dX6_init_0, xx_aloadn0, xx_aloadn0N, dX6_init_1, xx_ivP, zz_c0, zz_c3, zz_c1, zz_c2, zz_c5, zz_c8, zz_c6, zz_R, List.length_cons, List.length_nil, List.take_succ_cons, List.take_zero, List.drop_succ_cons, List.drop_zero, List.reverse_cons, List.reverse_nil, List.nil_append, List.cons_append, rb_cat, List.map_cons, List.map_nil, List.sum_cons, List.sum_nil, Value.category, rb_isR, rb_isS, Option.toList_some, Option.toList_none, tv_6_3, dX6_init_4, dX6_init_5, xx_new, zz_un, tn_6_9, dX6_init_8, xx_dupi, xx_dupr, xx_dupz, dX6_init_9, tv_6_11, dX6_init_12, xx_putf, zz_q, zz_p, zz_ti, zz_tl, zz_t0, zz_t1, zz_to, zz_ta, List.getElem?_cons_zero, List.getElem?_cons_succ, List.set_cons_zero, List.set_cons_succ, tf_6_12, dX6_init_15, dX6_init_16, dX6_init_19, dX6_init_20, dX6_init_23, tf_6_18, dX6_init_26, dX6_init_27, tn_6_21, dX6_init_30, dX6_init_31, xx_bipush, kb_64, dX6_init_33, tv_6_23, dX6_init_36, tf_6_26, dX6_init_39, dX6_init_40, dX6_init_43, dX6_init_44, xx_sipush, ks_200, dX6_init_47, dX6_init_50, tf_6_30, dX6_init_53, dX6_init_54, dX6_init_57, dX6_init_58, dX6_init_61, dX6_init_64, tf_6_33, dX6_init_67, dX6_init_68, dX6_init_71, dX6_init_72, dX6_init_75, dX6_init_78, tf_6_36, dX6_init_81, dX6_init_82, dX6_init_85, xx_newI, xx_newJ, dX6_init_87, tf_6_39, dX6_init_90, dX6_init_91, xx_iconst, kc_4, dX6_init_92, tf_6_43, dX6_init_95, xx_vret, df_3, df_0, mm_mk, mm_2, List.length_cons, List.length_nil, Nat.reduceAdd, Nat.zero_add, Nat.add_zero, List.cons_append, List.nil_append, e1, e3, e5, e7, e9, e11, mm_rd, Nat.sub_self, mm_wr, List.set_cons_zero, List.set_cons_succ, f64, f200, c200, p200, not_false_eq_true, Nat.add_sub_cancel_left, Nat.add_assoc, Nat.reduceMul]
  obtain ⟨σ', run, hs'⟩ := run
  subst hs'
  refine ⟨_, run, ?_, ?_, rfl, rfl⟩
  · intro o ho
    match o, ho with
    | 0, _ => exact mm_at (c := _) (by omega) (by simp only [Nat.add_sub_cancel_left]; rfl)
    | 1, _ => exact mm_at (c := _) (by omega) (by simp only [Nat.add_sub_cancel_left]; rfl)
    | 2, _ => exact mm_at (c := _) (by omega) (by simp only [Nat.add_sub_cancel_left]; rfl)
    | 3, _ => exact mm_at (c := _) (by omega) (by simp only [Nat.add_sub_cancel_left]; rfl)
    | 4, _ => exact mm_at (c := _) (by omega) (by simp only [Nat.add_sub_cancel_left]; rfl)
    | 5, _ => exact mm_at (c := _) (by omega) (by simp only [Nat.add_sub_cancel_left]; rfl)
    | 6, _ => exact mm_at (c := _) (by omega) (by simp only [Nat.add_sub_cancel_left]; rfl)
    | 7, _ => exact mm_at (c := _) (by omega) (by simp only [Nat.add_sub_cancel_left]; rfl)
    | 8, _ => exact mm_at (c := _) (by omega) (by simp only [Nat.add_sub_cancel_left]; rfl)
    | 9, _ => exact mm_at (c := _) (by omega) (by simp only [Nat.add_sub_cancel_left]; rfl)
    | 10, _ => exact mm_at (c := _) (by omega) (by simp only [Nat.add_sub_cancel_left]; rfl)
    | 11, _ => exact mm_at (c := _) (by omega) (by simp only [Nat.add_sub_cancel_left]; rfl)
    | 12, _ => exact mm_at (c := _) (by omega) (by simp only [Nat.add_sub_cancel_left]; rfl)
    | 13, _ => exact mm_at (c := _) (by omega) (by simp only [Nat.add_sub_cancel_left]; rfl)
    | o + 14, ho => exact absurd ho (by omega)
  · intro k hk
    rw [mm_lo hk]
end
