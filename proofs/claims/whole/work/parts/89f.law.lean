/-! ===== the law: its loop, call by call ===== -/
theorem Inv_0 {L : Nat} {xs : Nat → Int32} {τ : rb_S} (I : Inv L xs τ) : τ.1 0 = some (.inl (9, L, .inl xs)) := by
  obtain ⟨tn, tg, hn, hg, P, l, K, kf, ra, tl, fa, ds, st, kp, ik, hd, hC, hM, hR, hK, hH, h0⟩ := I
  exact h0
theorem nk_2 (K : sK) : nk K ≤ 2 := by
  unfold nk
  cases K 0 <;> cases K 1 <;> dsimp only <;> omega
theorem Inv_room {L : Nat} {xs : Nat → Int32} {τ : rb_S} (I : Inv L xs τ) : τ.2.1 ≤ 600000 ∧ τ.2.2 ≤ 7302250 := by
  obtain ⟨tn, tg, hn, hg, P, l, K, kf, ra, tl, fa, ds, st, kp, ik, hd, hC, hM, hR, hK, hH, h0⟩ := I
  have k2 := nk_2 K
  have r4 := hC.2.2.2.2.2.2.2.2.1
  have r5 := hC.2.2.2.2.2.2.2.2.2
  omega
section
variable {C : rb_C} {o pc : Nat} {ini : Bool} {ret : Option FieldType} {ls : rb_L} {st : List Value} {σ : rb_S}
theorem swl_0 : rb_nxt C o ini ret (.ok (.tableswitch 831 0 24 #[116, 139, 152, 165, 178, 231, 274, 317, 370, 403, 446, 469, 482, 535, 558, 571, 594, 617, 650, 683, 716, 729, 762, 785, 808], 116)) pc ls (.int 0 :: st) σ = rb_jp pc 116 ls st σ := rfl
theorem swl_1 : rb_nxt C o ini ret (.ok (.tableswitch 831 0 24 #[116, 139, 152, 165, 178, 231, 274, 317, 370, 403, 446, 469, 482, 535, 558, 571, 594, 617, 650, 683, 716, 729, 762, 785, 808], 116)) pc ls (.int 1 :: st) σ = rb_jp pc 139 ls st σ := rfl
theorem swl_2 : rb_nxt C o ini ret (.ok (.tableswitch 831 0 24 #[116, 139, 152, 165, 178, 231, 274, 317, 370, 403, 446, 469, 482, 535, 558, 571, 594, 617, 650, 683, 716, 729, 762, 785, 808], 116)) pc ls (.int 2 :: st) σ = rb_jp pc 152 ls st σ := rfl
theorem swl_3 : rb_nxt C o ini ret (.ok (.tableswitch 831 0 24 #[116, 139, 152, 165, 178, 231, 274, 317, 370, 403, 446, 469, 482, 535, 558, 571, 594, 617, 650, 683, 716, 729, 762, 785, 808], 116)) pc ls (.int 3 :: st) σ = rb_jp pc 165 ls st σ := rfl
theorem swl_4 : rb_nxt C o ini ret (.ok (.tableswitch 831 0 24 #[116, 139, 152, 165, 178, 231, 274, 317, 370, 403, 446, 469, 482, 535, 558, 571, 594, 617, 650, 683, 716, 729, 762, 785, 808], 116)) pc ls (.int 4 :: st) σ = rb_jp pc 178 ls st σ := rfl
theorem swl_5 : rb_nxt C o ini ret (.ok (.tableswitch 831 0 24 #[116, 139, 152, 165, 178, 231, 274, 317, 370, 403, 446, 469, 482, 535, 558, 571, 594, 617, 650, 683, 716, 729, 762, 785, 808], 116)) pc ls (.int 5 :: st) σ = rb_jp pc 231 ls st σ := rfl
theorem swl_6 : rb_nxt C o ini ret (.ok (.tableswitch 831 0 24 #[116, 139, 152, 165, 178, 231, 274, 317, 370, 403, 446, 469, 482, 535, 558, 571, 594, 617, 650, 683, 716, 729, 762, 785, 808], 116)) pc ls (.int 6 :: st) σ = rb_jp pc 274 ls st σ := rfl
theorem swl_7 : rb_nxt C o ini ret (.ok (.tableswitch 831 0 24 #[116, 139, 152, 165, 178, 231, 274, 317, 370, 403, 446, 469, 482, 535, 558, 571, 594, 617, 650, 683, 716, 729, 762, 785, 808], 116)) pc ls (.int 7 :: st) σ = rb_jp pc 317 ls st σ := rfl
theorem swl_8 : rb_nxt C o ini ret (.ok (.tableswitch 831 0 24 #[116, 139, 152, 165, 178, 231, 274, 317, 370, 403, 446, 469, 482, 535, 558, 571, 594, 617, 650, 683, 716, 729, 762, 785, 808], 116)) pc ls (.int 8 :: st) σ = rb_jp pc 370 ls st σ := rfl
theorem swl_9 : rb_nxt C o ini ret (.ok (.tableswitch 831 0 24 #[116, 139, 152, 165, 178, 231, 274, 317, 370, 403, 446, 469, 482, 535, 558, 571, 594, 617, 650, 683, 716, 729, 762, 785, 808], 116)) pc ls (.int 9 :: st) σ = rb_jp pc 403 ls st σ := rfl
theorem swl_10 : rb_nxt C o ini ret (.ok (.tableswitch 831 0 24 #[116, 139, 152, 165, 178, 231, 274, 317, 370, 403, 446, 469, 482, 535, 558, 571, 594, 617, 650, 683, 716, 729, 762, 785, 808], 116)) pc ls (.int 10 :: st) σ = rb_jp pc 446 ls st σ := rfl
theorem swl_11 : rb_nxt C o ini ret (.ok (.tableswitch 831 0 24 #[116, 139, 152, 165, 178, 231, 274, 317, 370, 403, 446, 469, 482, 535, 558, 571, 594, 617, 650, 683, 716, 729, 762, 785, 808], 116)) pc ls (.int 11 :: st) σ = rb_jp pc 469 ls st σ := rfl
theorem swl_12 : rb_nxt C o ini ret (.ok (.tableswitch 831 0 24 #[116, 139, 152, 165, 178, 231, 274, 317, 370, 403, 446, 469, 482, 535, 558, 571, 594, 617, 650, 683, 716, 729, 762, 785, 808], 116)) pc ls (.int 12 :: st) σ = rb_jp pc 482 ls st σ := rfl
theorem swl_13 : rb_nxt C o ini ret (.ok (.tableswitch 831 0 24 #[116, 139, 152, 165, 178, 231, 274, 317, 370, 403, 446, 469, 482, 535, 558, 571, 594, 617, 650, 683, 716, 729, 762, 785, 808], 116)) pc ls (.int 13 :: st) σ = rb_jp pc 535 ls st σ := rfl
theorem swl_14 : rb_nxt C o ini ret (.ok (.tableswitch 831 0 24 #[116, 139, 152, 165, 178, 231, 274, 317, 370, 403, 446, 469, 482, 535, 558, 571, 594, 617, 650, 683, 716, 729, 762, 785, 808], 116)) pc ls (.int 14 :: st) σ = rb_jp pc 558 ls st σ := rfl
theorem swl_15 : rb_nxt C o ini ret (.ok (.tableswitch 831 0 24 #[116, 139, 152, 165, 178, 231, 274, 317, 370, 403, 446, 469, 482, 535, 558, 571, 594, 617, 650, 683, 716, 729, 762, 785, 808], 116)) pc ls (.int 15 :: st) σ = rb_jp pc 571 ls st σ := rfl
theorem swl_16 : rb_nxt C o ini ret (.ok (.tableswitch 831 0 24 #[116, 139, 152, 165, 178, 231, 274, 317, 370, 403, 446, 469, 482, 535, 558, 571, 594, 617, 650, 683, 716, 729, 762, 785, 808], 116)) pc ls (.int 16 :: st) σ = rb_jp pc 594 ls st σ := rfl
theorem swl_17 : rb_nxt C o ini ret (.ok (.tableswitch 831 0 24 #[116, 139, 152, 165, 178, 231, 274, 317, 370, 403, 446, 469, 482, 535, 558, 571, 594, 617, 650, 683, 716, 729, 762, 785, 808], 116)) pc ls (.int 17 :: st) σ = rb_jp pc 617 ls st σ := rfl
theorem swl_18 : rb_nxt C o ini ret (.ok (.tableswitch 831 0 24 #[116, 139, 152, 165, 178, 231, 274, 317, 370, 403, 446, 469, 482, 535, 558, 571, 594, 617, 650, 683, 716, 729, 762, 785, 808], 116)) pc ls (.int 18 :: st) σ = rb_jp pc 650 ls st σ := rfl
theorem swl_19 : rb_nxt C o ini ret (.ok (.tableswitch 831 0 24 #[116, 139, 152, 165, 178, 231, 274, 317, 370, 403, 446, 469, 482, 535, 558, 571, 594, 617, 650, 683, 716, 729, 762, 785, 808], 116)) pc ls (.int 19 :: st) σ = rb_jp pc 683 ls st σ := rfl
theorem swl_20 : rb_nxt C o ini ret (.ok (.tableswitch 831 0 24 #[116, 139, 152, 165, 178, 231, 274, 317, 370, 403, 446, 469, 482, 535, 558, 571, 594, 617, 650, 683, 716, 729, 762, 785, 808], 116)) pc ls (.int 20 :: st) σ = rb_jp pc 716 ls st σ := rfl
theorem swl_21 : rb_nxt C o ini ret (.ok (.tableswitch 831 0 24 #[116, 139, 152, 165, 178, 231, 274, 317, 370, 403, 446, 469, 482, 535, 558, 571, 594, 617, 650, 683, 716, 729, 762, 785, 808], 116)) pc ls (.int 21 :: st) σ = rb_jp pc 729 ls st σ := rfl
theorem swl_22 : rb_nxt C o ini ret (.ok (.tableswitch 831 0 24 #[116, 139, 152, 165, 178, 231, 274, 317, 370, 403, 446, 469, 482, 535, 558, 571, 594, 617, 650, 683, 716, 729, 762, 785, 808], 116)) pc ls (.int 22 :: st) σ = rb_jp pc 762 ls st σ := rfl
theorem swl_23 : rb_nxt C o ini ret (.ok (.tableswitch 831 0 24 #[116, 139, 152, 165, 178, 231, 274, 317, 370, 403, 446, 469, 482, 535, 558, 571, 594, 617, 650, 683, 716, 729, 762, 785, 808], 116)) pc ls (.int 23 :: st) σ = rb_jp pc 785 ls st σ := rfl
theorem swl_24 : rb_nxt C o ini ret (.ok (.tableswitch 831 0 24 #[116, 139, 152, 165, 178, 231, 274, 317, 370, 403, 446, 469, 482, 535, 558, 571, 594, 617, 650, 683, 716, 729, 762, 785, 808], 116)) pc ls (.int 24 :: st) σ = rb_jp pc 808 ls st σ := rfl
theorem swl_O {x : Int32} (h : x.toInt < 0 ∨ 24 < x.toInt) : rb_nxt C o ini ret (.ok (.tableswitch 831 0 24 #[116, 139, 152, 165, 178, 231, 274, 317, 370, 403, 446, 469, 482, 535, 558, 571, 594, 617, 650, 683, 716, 729, 762, 785, 808], 116)) pc ls (.int x :: st) σ = rb_jp pc 831 ls st σ := by rw [xx_sw, if_pos h]
end
theorem c25 (x : Int32) : (x.toInt < 0 ∨ 24 < x.toInt) ∨ x = 0 ∨ x = 1 ∨ x = 2 ∨ x = 3 ∨ x = 4 ∨ x = 5 ∨ x = 6 ∨ x = 7 ∨ x = 8 ∨ x = 9 ∨ x = 10 ∨ x = 11 ∨ x = 12 ∨ x = 13 ∨ x = 14 ∨ x = 15 ∨ x = 16 ∨ x = 17 ∨ x = 18 ∨ x = 19 ∨ x = 20 ∨ x = 21 ∨ x = 22 ∨ x = 23 ∨ x = 24 := by
  simp only [i_inj]
  have z0 : (0 : Int32).toInt = 0 := rfl
  have z1 : (1 : Int32).toInt = 1 := rfl
  have z2 : (2 : Int32).toInt = 2 := rfl
  have z3 : (3 : Int32).toInt = 3 := rfl
  have z4 : (4 : Int32).toInt = 4 := rfl
  have z5 : (5 : Int32).toInt = 5 := rfl
  have z6 : (6 : Int32).toInt = 6 := rfl
  have z7 : (7 : Int32).toInt = 7 := rfl
  have z8 : (8 : Int32).toInt = 8 := rfl
  have z9 : (9 : Int32).toInt = 9 := rfl
  have z10 : (10 : Int32).toInt = 10 := rfl
  have z11 : (11 : Int32).toInt = 11 := rfl
  have z12 : (12 : Int32).toInt = 12 := rfl
  have z13 : (13 : Int32).toInt = 13 := rfl
  have z14 : (14 : Int32).toInt = 14 := rfl
  have z15 : (15 : Int32).toInt = 15 := rfl
  have z16 : (16 : Int32).toInt = 16 := rfl
  have z17 : (17 : Int32).toInt = 17 := rfl
  have z18 : (18 : Int32).toInt = 18 := rfl
  have z19 : (19 : Int32).toInt = 19 := rfl
  have z20 : (20 : Int32).toInt = 20 := rfl
  have z21 : (21 : Int32).toInt = 21 := rfl
  have z22 : (22 : Int32).toInt = 22 := rfl
  have z23 : (23 : Int32).toInt = 23 := rfl
  have z24 : (24 : Int32).toInt = 24 := rfl
  omega
section
variable {L i : Nat} {xs : Nat → Int32} {τ : rb_S}
theorem lw_write (I : Inv L xs τ) (hi : i + 5 ≤ L) (hL : L ≤ 2560) : ∃ τ2, rb_lim (rb_stp (rb_R 11) rb_law) (32, [some (.ref 0), some (.ref 6), some (.ref 102), some (.int (nI i))], [.int 0], τ) = rb_lim (rb_stp (rb_R 11) rb_law) (863, [some (.ref 0), some (.ref 6), some (.ref 102), some (.int (nI i))], [], τ2) ∧ Inv L xs τ2 := by
  obtain ⟨r, τ1, τ2, e1, e2, i1, i2, z1, I2⟩ := sim_write I (x := xs (i + 1))
  have h0 := Inv_0 I
  have h1 := z1.trans h0
  have f1 : nI i + 1 = nI (i + 1) := by rw [lit_1, nI_add]
  have r1 : rb_in (nI (i + 1)) L = true := by rw [rb_in' (by omega)]; exact decide_eq_true (by omega)
  have k1 : (nI (i + 1)).toNatClampNeg = i + 1 := nI_cl (by omega)
  refine ⟨τ2, ?_, I2⟩
  rw [rb_ls 863 9999 80]
  simp only [rb_gs_eq, rb_cs_go, rb_cs_end, rb_cs_ite, Nat.reduceAdd, Nat.zero_add, wr_at, wr_wr, true_and, and_true, and_self, true_or, or_true, false_or, or_false, ↓reduceIte, Nat.reduceLT, Nat.reduceLeDiff, Nat.reduceEqDiff, lg_cmp_ge, lg_cmp_le, lg_cmp_gt, lg_cmp_lt, lg_cmp_eq, Bool.false_eq_true, reduceCtorEq, mg_i, mg_l, decide_true, beq_self_eq_true, Nat.reduceBEq, st_law, dL_law_32, rb_jp, Int.cast_ofNat_Int, Int.reduceAdd, Int.reduceLE, Int.reduceToNat, Int.reduceNeg, rb_gs_eq, rb_cs_go, rb_cs_end, rb_cs_ite, Nat.reduceAdd, Nat.zero_add, wr_at, wr_wr, true_and, and_true, and_self, true_or, or_true, false_or, or_false, ↓reduceIte, Nat.reduceLT, Nat.reduceLeDiff, Nat.reduceEqDiff, lg_cmp_ge, lg_cmp_le, lg_cmp_gt, lg_cmp_lt, lg_cmp_eq, Bool.false_eq_true, reduceCtorEq, mg_i, mg_l, decide_true, beq_self_eq_true, Nat.reduceBEq, st_law, dL_law_148, xx_aloadn1, xx_aloadn1N, dL_law_149, xx_aloadn0, xx_aloadn0N, dL_law_150, xx_iloadn3, dL_law_151, xx_iconst, kc_1, dL_law_152, xx_iadd, dL_law_153, xx_iald, zz_yi, zz_yx, dL_law_154, xx_ivV, zz_c0, zz_c3, zz_c1, zz_c2, zz_c5, zz_c8, zz_c6, zz_R, List.length_cons, List.length_nil, List.take_succ_cons, List.take_zero, List.drop_succ_cons, List.drop_zero, List.reverse_cons, List.reverse_nil, List.nil_append, List.cons_append, rb_cat, List.map_cons, List.map_nil, List.sum_cons, List.sum_nil, Value.category, rb_isS, Option.toList_some, Option.toList_none, tv_10_13, dL_law_157, xx_aloadn2, xx_aloadn2N, dL_law_158, dL_law_159, dL_law_160, dL_law_161, dL_law_162, dL_law_163, tv_10_17, dL_law_166, xx_iceq, rb_jp, Int.cast_ofNat_Int, Int.reduceAdd, Int.reduceLE, Int.reduceToNat, Int.reduceNeg, dL_law_169, kc_0, dL_law_170, xx_iret, xx_zret0, xx_zret1, swl_0, e1, e2, i1, i2, h0, h1, f1, r1, k1, ne_eq, not_false_eq_true, Nat.reduceEqDiff]
  rfl
theorem lw_erase (I : Inv L xs τ) (hi : i + 5 ≤ L) (hL : L ≤ 2560) : ∃ τ2, rb_lim (rb_stp (rb_R 11) rb_law) (32, [some (.ref 0), some (.ref 6), some (.ref 102), some (.int (nI i))], [.int 1], τ) = rb_lim (rb_stp (rb_R 11) rb_law) (863, [some (.ref 0), some (.ref 6), some (.ref 102), some (.int (nI i))], [], τ2) ∧ Inv L xs τ2 := by
  obtain ⟨r, τ1, τ2, e1, e2, i1, i2, z1, I2⟩ := sim_erase I
  refine ⟨τ2, ?_, I2⟩
  rw [rb_ls 863 9999 80]
  simp only [rb_gs_eq, rb_cs_go, rb_cs_end, rb_cs_ite, Nat.reduceAdd, Nat.zero_add, wr_at, wr_wr, true_and, and_true, and_self, true_or, or_true, false_or, or_false, ↓reduceIte, Nat.reduceLT, Nat.reduceLeDiff, Nat.reduceEqDiff, lg_cmp_ge, lg_cmp_le, lg_cmp_gt, lg_cmp_lt, lg_cmp_eq, Bool.false_eq_true, reduceCtorEq, mg_i, mg_l, decide_true, beq_self_eq_true, Nat.reduceBEq, st_law, dL_law_32, rb_jp, Int.cast_ofNat_Int, Int.reduceAdd, Int.reduceLE, Int.reduceToNat, Int.reduceNeg, rb_gs_eq, rb_cs_go, rb_cs_end, rb_cs_ite, Nat.reduceAdd, Nat.zero_add, wr_at, wr_wr, true_and, and_true, and_self, true_or, or_true, false_or, or_false, ↓reduceIte, Nat.reduceLT, Nat.reduceLeDiff, Nat.reduceEqDiff, lg_cmp_ge, lg_cmp_le, lg_cmp_gt, lg_cmp_lt, lg_cmp_eq, Bool.false_eq_true, reduceCtorEq, mg_i, mg_l, decide_true, beq_self_eq_true, Nat.reduceBEq, st_law, dL_law_171, xx_aloadn1, xx_aloadn1N, dL_law_172, xx_ivV, zz_c0, zz_c3, zz_c1, zz_c2, zz_c5, zz_c8, zz_c6, zz_R, List.length_cons, List.length_nil, List.take_succ_cons, List.take_zero, List.drop_succ_cons, List.drop_zero, List.reverse_cons, List.reverse_nil, List.nil_append, List.cons_append, rb_cat, List.map_cons, List.map_nil, List.sum_cons, List.sum_nil, Value.category, rb_isS, Option.toList_some, Option.toList_none, tv_10_18, dL_law_175, xx_aloadn2, xx_aloadn2N, dL_law_176, tv_10_22, dL_law_179, xx_iceq, rb_jp, Int.cast_ofNat_Int, Int.reduceAdd, Int.reduceLE, Int.reduceToNat, Int.reduceNeg, dL_law_182, xx_iconst, kc_0, dL_law_183, xx_iret, xx_zret0, xx_zret1, swl_1, e1, e2, i1, i2, ne_eq, not_false_eq_true, Nat.reduceEqDiff]
  rfl
theorem lw_fault (I : Inv L xs τ) (hi : i + 5 ≤ L) (hL : L ≤ 2560) : ∃ τ2, rb_lim (rb_stp (rb_R 11) rb_law) (32, [some (.ref 0), some (.ref 6), some (.ref 102), some (.int (nI i))], [.int 2], τ) = rb_lim (rb_stp (rb_R 11) rb_law) (863, [some (.ref 0), some (.ref 6), some (.ref 102), some (.int (nI i))], [], τ2) ∧ Inv L xs τ2 := by
  obtain ⟨r, τ1, τ2, e1, e2, i1, i2, z1, I2⟩ := sim_fault I
  refine ⟨τ2, ?_, I2⟩
  rw [rb_ls 863 9999 80]
  simp only [rb_gs_eq, rb_cs_go, rb_cs_end, rb_cs_ite, Nat.reduceAdd, Nat.zero_add, wr_at, wr_wr, true_and, and_true, and_self, true_or, or_true, false_or, or_false, ↓reduceIte, Nat.reduceLT, Nat.reduceLeDiff, Nat.reduceEqDiff, lg_cmp_ge, lg_cmp_le, lg_cmp_gt, lg_cmp_lt, lg_cmp_eq, Bool.false_eq_true, reduceCtorEq, mg_i, mg_l, decide_true, beq_self_eq_true, Nat.reduceBEq, st_law, dL_law_32, rb_jp, Int.cast_ofNat_Int, Int.reduceAdd, Int.reduceLE, Int.reduceToNat, Int.reduceNeg, rb_gs_eq, rb_cs_go, rb_cs_end, rb_cs_ite, Nat.reduceAdd, Nat.zero_add, wr_at, wr_wr, true_and, and_true, and_self, true_or, or_true, false_or, or_false, ↓reduceIte, Nat.reduceLT, Nat.reduceLeDiff, Nat.reduceEqDiff, lg_cmp_ge, lg_cmp_le, lg_cmp_gt, lg_cmp_lt, lg_cmp_eq, Bool.false_eq_true, reduceCtorEq, mg_i, mg_l, decide_true, beq_self_eq_true, Nat.reduceBEq, st_law, dL_law_184, xx_aloadn1, xx_aloadn1N, dL_law_185, xx_ivV, zz_c0, zz_c3, zz_c1, zz_c2, zz_c5, zz_c8, zz_c6, zz_R, List.length_cons, List.length_nil, List.take_succ_cons, List.take_zero, List.drop_succ_cons, List.drop_zero, List.reverse_cons, List.reverse_nil, List.nil_append, List.cons_append, rb_cat, List.map_cons, List.map_nil, List.sum_cons, List.sum_nil, Value.category, rb_isS, Option.toList_some, Option.toList_none, tv_10_23, dL_law_188, xx_aloadn2, xx_aloadn2N, dL_law_189, tv_10_26, dL_law_192, xx_iceq, rb_jp, Int.cast_ofNat_Int, Int.reduceAdd, Int.reduceLE, Int.reduceToNat, Int.reduceNeg, dL_law_195, xx_iconst, kc_0, dL_law_196, xx_iret, xx_zret0, xx_zret1, swl_2, e1, e2, i1, i2, ne_eq, not_false_eq_true, Nat.reduceEqDiff]
  rfl
theorem lw_tell (I : Inv L xs τ) (hi : i + 5 ≤ L) (hL : L ≤ 2560) : ∃ τ2, rb_lim (rb_stp (rb_R 11) rb_law) (32, [some (.ref 0), some (.ref 6), some (.ref 102), some (.int (nI i))], [.int 3], τ) = rb_lim (rb_stp (rb_R 11) rb_law) (863, [some (.ref 0), some (.ref 6), some (.ref 102), some (.int (nI i))], [], τ2) ∧ Inv L xs τ2 := by
  obtain ⟨r, τ1, τ2, e1, e2, i1, i2, z1, I2⟩ := sim_tell I
  refine ⟨τ2, ?_, I2⟩
  rw [rb_ls 863 9999 80]
  simp only [rb_gs_eq, rb_cs_go, rb_cs_end, rb_cs_ite, Nat.reduceAdd, Nat.zero_add, wr_at, wr_wr, true_and, and_true, and_self, true_or, or_true, false_or, or_false, ↓reduceIte, Nat.reduceLT, Nat.reduceLeDiff, Nat.reduceEqDiff, lg_cmp_ge, lg_cmp_le, lg_cmp_gt, lg_cmp_lt, lg_cmp_eq, Bool.false_eq_true, reduceCtorEq, mg_i, mg_l, decide_true, beq_self_eq_true, Nat.reduceBEq, st_law, dL_law_32, rb_jp, Int.cast_ofNat_Int, Int.reduceAdd, Int.reduceLE, Int.reduceToNat, Int.reduceNeg, rb_gs_eq, rb_cs_go, rb_cs_end, rb_cs_ite, Nat.reduceAdd, Nat.zero_add, wr_at, wr_wr, true_and, and_true, and_self, true_or, or_true, false_or, or_false, ↓reduceIte, Nat.reduceLT, Nat.reduceLeDiff, Nat.reduceEqDiff, lg_cmp_ge, lg_cmp_le, lg_cmp_gt, lg_cmp_lt, lg_cmp_eq, Bool.false_eq_true, reduceCtorEq, mg_i, mg_l, decide_true, beq_self_eq_true, Nat.reduceBEq, st_law, dL_law_197, xx_aloadn1, xx_aloadn1N, dL_law_198, xx_ivV, zz_c0, zz_c3, zz_c1, zz_c2, zz_c5, zz_c8, zz_c6, zz_R, List.length_cons, List.length_nil, List.take_succ_cons, List.take_zero, List.drop_succ_cons, List.drop_zero, List.reverse_cons, List.reverse_nil, List.nil_append, List.cons_append, rb_cat, List.map_cons, List.map_nil, List.sum_cons, List.sum_nil, Value.category, rb_isS, Option.toList_some, Option.toList_none, tv_10_27, dL_law_201, xx_aloadn2, xx_aloadn2N, dL_law_202, tv_10_30, dL_law_205, xx_iceq, rb_jp, Int.cast_ofNat_Int, Int.reduceAdd, Int.reduceLE, Int.reduceToNat, Int.reduceNeg, dL_law_208, xx_iconst, kc_0, dL_law_209, xx_iret, xx_zret0, xx_zret1, swl_3, e1, e2, i1, i2, ne_eq, not_false_eq_true, Nat.reduceEqDiff]
  rfl
theorem lw_put (I : Inv L xs τ) (hi : i + 5 ≤ L) (hL : L ≤ 2560) : ∃ τ2, rb_lim (rb_stp (rb_R 11) rb_law) (32, [some (.ref 0), some (.ref 6), some (.ref 102), some (.int (nI i))], [.int 4], τ) = rb_lim (rb_stp (rb_R 11) rb_law) (863, [some (.ref 0), some (.ref 6), some (.ref 102), some (.int (nI i))], [], τ2) ∧ Inv L xs τ2 := by
  obtain ⟨r, τ1, τ2, e1, e2, i1, i2, z1, I2⟩ := sim_put I (p := xs (i + 1)) (i := xs (i + 2)) (j := xs (i + 3)) (c := xs (i + 4))
  have h0 := Inv_0 I
  have h1 := z1.trans h0
  have f1 : nI i + 1 = nI (i + 1) := by rw [lit_1, nI_add]
  have r1 : rb_in (nI (i + 1)) L = true := by rw [rb_in' (by omega)]; exact decide_eq_true (by omega)
  have k1 : (nI (i + 1)).toNatClampNeg = i + 1 := nI_cl (by omega)
  have f2 : nI i + 2 = nI (i + 2) := by rw [lit_2, nI_add]
  have r2 : rb_in (nI (i + 2)) L = true := by rw [rb_in' (by omega)]; exact decide_eq_true (by omega)
  have k2 : (nI (i + 2)).toNatClampNeg = i + 2 := nI_cl (by omega)
  have f3 : nI i + 3 = nI (i + 3) := by rw [lit_3, nI_add]
  have r3 : rb_in (nI (i + 3)) L = true := by rw [rb_in' (by omega)]; exact decide_eq_true (by omega)
  have k3 : (nI (i + 3)).toNatClampNeg = i + 3 := nI_cl (by omega)
  have f4 : nI i + 4 = nI (i + 4) := by rw [lit_4, nI_add]
  have r4 : rb_in (nI (i + 4)) L = true := by rw [rb_in' (by omega)]; exact decide_eq_true (by omega)
  have k4 : (nI (i + 4)).toNatClampNeg = i + 4 := nI_cl (by omega)
  refine ⟨τ2, ?_, I2⟩
  rw [rb_ls 863 9999 80]
  simp only [rb_gs_eq, rb_cs_go, rb_cs_end, rb_cs_ite, Nat.reduceAdd, Nat.zero_add, wr_at, wr_wr, true_and, and_true, and_self, true_or, or_true, false_or, or_false, ↓reduceIte, Nat.reduceLT, Nat.reduceLeDiff, Nat.reduceEqDiff, lg_cmp_ge, lg_cmp_le, lg_cmp_gt, lg_cmp_lt, lg_cmp_eq, Bool.false_eq_true, reduceCtorEq, mg_i, mg_l, decide_true, beq_self_eq_true, Nat.reduceBEq, st_law, dL_law_32, rb_jp, Int.cast_ofNat_Int, Int.reduceAdd, Int.reduceLE, Int.reduceToNat, Int.reduceNeg, rb_gs_eq, rb_cs_go, rb_cs_end, rb_cs_ite, Nat.reduceAdd, Nat.zero_add, wr_at, wr_wr, true_and, and_true, and_self, true_or, or_true, false_or, or_false, ↓reduceIte, Nat.reduceLT, Nat.reduceLeDiff, Nat.reduceEqDiff, lg_cmp_ge, lg_cmp_le, lg_cmp_gt, lg_cmp_lt, lg_cmp_eq, Bool.false_eq_true, reduceCtorEq, mg_i, mg_l, decide_true, beq_self_eq_true, Nat.reduceBEq, st_law, dL_law_210, xx_aloadn1, xx_aloadn1N, dL_law_211, xx_aloadn0, xx_aloadn0N, dL_law_212, xx_iloadn3, dL_law_213, xx_iconst, kc_1, dL_law_214, xx_iadd, dL_law_215, xx_iald, zz_yi, zz_yx, dL_law_216, dL_law_217, dL_law_218, kc_2, dL_law_219, dL_law_220, dL_law_221, dL_law_222, dL_law_223, kc_3, dL_law_224, dL_law_225, dL_law_226, dL_law_227, dL_law_228, kc_4, dL_law_229, dL_law_230, dL_law_231, xx_ivV, zz_c0, zz_c3, zz_c1, zz_c2, zz_c5, zz_c8, zz_c6, zz_R, List.length_cons, List.length_nil, List.take_succ_cons, List.take_zero, List.drop_succ_cons, List.drop_zero, List.reverse_cons, List.reverse_nil, List.nil_append, List.cons_append, rb_cat, List.map_cons, List.map_nil, List.sum_cons, List.sum_nil, Value.category, rb_isS, Option.toList_some, Option.toList_none, tv_10_31, dL_law_234, xx_aloadn2, xx_aloadn2N, dL_law_235, dL_law_236, dL_law_237, dL_law_238, dL_law_239, dL_law_240, dL_law_241, dL_law_242, dL_law_243, dL_law_244, dL_law_245, dL_law_246, dL_law_247, dL_law_248, dL_law_249, dL_law_250, dL_law_251, dL_law_252, dL_law_253, dL_law_254, dL_law_255, tv_10_35, dL_law_258, xx_iceq, rb_jp, Int.cast_ofNat_Int, Int.reduceAdd, Int.reduceLE, Int.reduceToNat, Int.reduceNeg, dL_law_261, kc_0, dL_law_262, xx_iret, xx_zret0, xx_zret1, swl_4, e1, e2, i1, i2, h0, h1, f1, r1, k1, f2, r2, k2, f3, r3, k3, f4, r4, k4, ne_eq, not_false_eq_true, Nat.reduceEqDiff]
  rfl
theorem lw_term (I : Inv L xs τ) (hi : i + 5 ≤ L) (hL : L ≤ 2560) : ∃ τ2, rb_lim (rb_stp (rb_R 11) rb_law) (32, [some (.ref 0), some (.ref 6), some (.ref 102), some (.int (nI i))], [.int 5], τ) = rb_lim (rb_stp (rb_R 11) rb_law) (863, [some (.ref 0), some (.ref 6), some (.ref 102), some (.int (nI i))], [], τ2) ∧ Inv L xs τ2 := by
  obtain ⟨r, τ1, τ2, e1, e2, i1, i2, z1, I2⟩ := sim_term I (p := xs (i + 1)) (i := xs (i + 2)) (j := xs (i + 3))
  have h0 := Inv_0 I
  have h1 := z1.trans h0
  have f1 : nI i + 1 = nI (i + 1) := by rw [lit_1, nI_add]
  have r1 : rb_in (nI (i + 1)) L = true := by rw [rb_in' (by omega)]; exact decide_eq_true (by omega)
  have k1 : (nI (i + 1)).toNatClampNeg = i + 1 := nI_cl (by omega)
  have f2 : nI i + 2 = nI (i + 2) := by rw [lit_2, nI_add]
  have r2 : rb_in (nI (i + 2)) L = true := by rw [rb_in' (by omega)]; exact decide_eq_true (by omega)
  have k2 : (nI (i + 2)).toNatClampNeg = i + 2 := nI_cl (by omega)
  have f3 : nI i + 3 = nI (i + 3) := by rw [lit_3, nI_add]
  have r3 : rb_in (nI (i + 3)) L = true := by rw [rb_in' (by omega)]; exact decide_eq_true (by omega)
  have k3 : (nI (i + 3)).toNatClampNeg = i + 3 := nI_cl (by omega)
  refine ⟨τ2, ?_, I2⟩
  rw [rb_ls 863 9999 80]
  simp only [rb_gs_eq, rb_cs_go, rb_cs_end, rb_cs_ite, Nat.reduceAdd, Nat.zero_add, wr_at, wr_wr, true_and, and_true, and_self, true_or, or_true, false_or, or_false, ↓reduceIte, Nat.reduceLT, Nat.reduceLeDiff, Nat.reduceEqDiff, lg_cmp_ge, lg_cmp_le, lg_cmp_gt, lg_cmp_lt, lg_cmp_eq, Bool.false_eq_true, reduceCtorEq, mg_i, mg_l, decide_true, beq_self_eq_true, Nat.reduceBEq, st_law, dL_law_32, rb_jp, Int.cast_ofNat_Int, Int.reduceAdd, Int.reduceLE, Int.reduceToNat, Int.reduceNeg, rb_gs_eq, rb_cs_go, rb_cs_end, rb_cs_ite, Nat.reduceAdd, Nat.zero_add, wr_at, wr_wr, true_and, and_true, and_self, true_or, or_true, false_or, or_false, ↓reduceIte, Nat.reduceLT, Nat.reduceLeDiff, Nat.reduceEqDiff, lg_cmp_ge, lg_cmp_le, lg_cmp_gt, lg_cmp_lt, lg_cmp_eq, Bool.false_eq_true, reduceCtorEq, mg_i, mg_l, decide_true, beq_self_eq_true, Nat.reduceBEq, st_law, dL_law_263, xx_aloadn1, xx_aloadn1N, dL_law_264, xx_aloadn0, xx_aloadn0N, dL_law_265, xx_iloadn3, dL_law_266, xx_iconst, kc_1, dL_law_267, xx_iadd, dL_law_268, xx_iald, zz_yi, zz_yx, dL_law_269, dL_law_270, dL_law_271, kc_2, dL_law_272, dL_law_273, dL_law_274, dL_law_275, dL_law_276, kc_3, dL_law_277, dL_law_278, dL_law_279, xx_ivV, zz_c0, zz_c3, zz_c1, zz_c2, zz_c5, zz_c8, zz_c6, zz_R, List.length_cons, List.length_nil, List.take_succ_cons, List.take_zero, List.drop_succ_cons, List.drop_zero, List.reverse_cons, List.reverse_nil, List.nil_append, List.cons_append, rb_cat, List.map_cons, List.map_nil, List.sum_cons, List.sum_nil, Value.category, rb_isS, Option.toList_some, Option.toList_none, tv_10_36, dL_law_282, xx_aloadn2, xx_aloadn2N, dL_law_283, dL_law_284, dL_law_285, dL_law_286, dL_law_287, dL_law_288, dL_law_289, dL_law_290, dL_law_291, dL_law_292, dL_law_293, dL_law_294, dL_law_295, dL_law_296, dL_law_297, dL_law_298, tv_10_40, dL_law_301, xx_iceq, rb_jp, Int.cast_ofNat_Int, Int.reduceAdd, Int.reduceLE, Int.reduceToNat, Int.reduceNeg, dL_law_304, kc_0, dL_law_305, xx_iret, xx_zret0, xx_zret1, swl_5, e1, e2, i1, i2, h0, h1, f1, r1, k1, f2, r2, k2, f3, r3, k3, ne_eq, not_false_eq_true, Nat.reduceEqDiff]
  rfl
theorem lw_sign (I : Inv L xs τ) (hi : i + 5 ≤ L) (hL : L ≤ 2560) : ∃ τ2, rb_lim (rb_stp (rb_R 11) rb_law) (32, [some (.ref 0), some (.ref 6), some (.ref 102), some (.int (nI i))], [.int 6], τ) = rb_lim (rb_stp (rb_R 11) rb_law) (863, [some (.ref 0), some (.ref 6), some (.ref 102), some (.int (nI i))], [], τ2) ∧ Inv L xs τ2 := by
  obtain ⟨r, τ1, τ2, e1, e2, i1, i2, z1, I2⟩ := sim_sign I (p := xs (i + 1)) (x := xs (i + 2)) (y := xs (i + 3))
  have h0 := Inv_0 I
  have h1 := z1.trans h0
  have f1 : nI i + 1 = nI (i + 1) := by rw [lit_1, nI_add]
  have r1 : rb_in (nI (i + 1)) L = true := by rw [rb_in' (by omega)]; exact decide_eq_true (by omega)
  have k1 : (nI (i + 1)).toNatClampNeg = i + 1 := nI_cl (by omega)
  have f2 : nI i + 2 = nI (i + 2) := by rw [lit_2, nI_add]
  have r2 : rb_in (nI (i + 2)) L = true := by rw [rb_in' (by omega)]; exact decide_eq_true (by omega)
  have k2 : (nI (i + 2)).toNatClampNeg = i + 2 := nI_cl (by omega)
  have f3 : nI i + 3 = nI (i + 3) := by rw [lit_3, nI_add]
  have r3 : rb_in (nI (i + 3)) L = true := by rw [rb_in' (by omega)]; exact decide_eq_true (by omega)
  have k3 : (nI (i + 3)).toNatClampNeg = i + 3 := nI_cl (by omega)
  refine ⟨τ2, ?_, I2⟩
  rw [rb_ls 863 9999 80]
  simp only [rb_gs_eq, rb_cs_go, rb_cs_end, rb_cs_ite, Nat.reduceAdd, Nat.zero_add, wr_at, wr_wr, true_and, and_true, and_self, true_or, or_true, false_or, or_false, ↓reduceIte, Nat.reduceLT, Nat.reduceLeDiff, Nat.reduceEqDiff, lg_cmp_ge, lg_cmp_le, lg_cmp_gt, lg_cmp_lt, lg_cmp_eq, Bool.false_eq_true, reduceCtorEq, mg_i, mg_l, decide_true, beq_self_eq_true, Nat.reduceBEq, st_law, dL_law_32, rb_jp, Int.cast_ofNat_Int, Int.reduceAdd, Int.reduceLE, Int.reduceToNat, Int.reduceNeg, rb_gs_eq, rb_cs_go, rb_cs_end, rb_cs_ite, Nat.reduceAdd, Nat.zero_add, wr_at, wr_wr, true_and, and_true, and_self, true_or, or_true, false_or, or_false, ↓reduceIte, Nat.reduceLT, Nat.reduceLeDiff, Nat.reduceEqDiff, lg_cmp_ge, lg_cmp_le, lg_cmp_gt, lg_cmp_lt, lg_cmp_eq, Bool.false_eq_true, reduceCtorEq, mg_i, mg_l, decide_true, beq_self_eq_true, Nat.reduceBEq, st_law, dL_law_306, xx_aloadn1, xx_aloadn1N, dL_law_307, xx_aloadn0, xx_aloadn0N, dL_law_308, xx_iloadn3, dL_law_309, xx_iconst, kc_1, dL_law_310, xx_iadd, dL_law_311, xx_iald, zz_yi, zz_yx, dL_law_312, dL_law_313, dL_law_314, kc_2, dL_law_315, dL_law_316, dL_law_317, dL_law_318, dL_law_319, kc_3, dL_law_320, dL_law_321, dL_law_322, xx_ivV, zz_c0, zz_c3, zz_c1, zz_c2, zz_c5, zz_c8, zz_c6, zz_R, List.length_cons, List.length_nil, List.take_succ_cons, List.take_zero, List.drop_succ_cons, List.drop_zero, List.reverse_cons, List.reverse_nil, List.nil_append, List.cons_append, rb_cat, List.map_cons, List.map_nil, List.sum_cons, List.sum_nil, Value.category, rb_isS, Option.toList_some, Option.toList_none, tv_10_41, dL_law_325, xx_aloadn2, xx_aloadn2N, dL_law_326, dL_law_327, dL_law_328, dL_law_329, dL_law_330, dL_law_331, dL_law_332, dL_law_333, dL_law_334, dL_law_335, dL_law_336, dL_law_337, dL_law_338, dL_law_339, dL_law_340, dL_law_341, tv_10_44, dL_law_344, xx_iceq, rb_jp, Int.cast_ofNat_Int, Int.reduceAdd, Int.reduceLE, Int.reduceToNat, Int.reduceNeg, dL_law_347, kc_0, dL_law_348, xx_iret, xx_zret0, xx_zret1, swl_6, e1, e2, i1, i2, h0, h1, f1, r1, k1, f2, r2, k2, f3, r3, k3, ne_eq, not_false_eq_true, Nat.reduceEqDiff]
  rfl
theorem lw_hold (I : Inv L xs τ) (hi : i + 5 ≤ L) (hL : L ≤ 2560) : ∃ τ2, rb_lim (rb_stp (rb_R 11) rb_law) (32, [some (.ref 0), some (.ref 6), some (.ref 102), some (.int (nI i))], [.int 7], τ) = rb_lim (rb_stp (rb_R 11) rb_law) (863, [some (.ref 0), some (.ref 6), some (.ref 102), some (.int (nI i))], [], τ2) ∧ Inv L xs τ2 := by
  obtain ⟨r, τ1, τ2, e1, e2, i1, i2, z1, I2⟩ := sim_hold I (a := xs (i + 1)) (b := xs (i + 2)) (c := xs (i + 3)) (e := xs (i + 4))
  have h0 := Inv_0 I
  have h1 := z1.trans h0
  have f1 : nI i + 1 = nI (i + 1) := by rw [lit_1, nI_add]
  have r1 : rb_in (nI (i + 1)) L = true := by rw [rb_in' (by omega)]; exact decide_eq_true (by omega)
  have k1 : (nI (i + 1)).toNatClampNeg = i + 1 := nI_cl (by omega)
  have f2 : nI i + 2 = nI (i + 2) := by rw [lit_2, nI_add]
  have r2 : rb_in (nI (i + 2)) L = true := by rw [rb_in' (by omega)]; exact decide_eq_true (by omega)
  have k2 : (nI (i + 2)).toNatClampNeg = i + 2 := nI_cl (by omega)
  have f3 : nI i + 3 = nI (i + 3) := by rw [lit_3, nI_add]
  have r3 : rb_in (nI (i + 3)) L = true := by rw [rb_in' (by omega)]; exact decide_eq_true (by omega)
  have k3 : (nI (i + 3)).toNatClampNeg = i + 3 := nI_cl (by omega)
  have f4 : nI i + 4 = nI (i + 4) := by rw [lit_4, nI_add]
  have r4 : rb_in (nI (i + 4)) L = true := by rw [rb_in' (by omega)]; exact decide_eq_true (by omega)
  have k4 : (nI (i + 4)).toNatClampNeg = i + 4 := nI_cl (by omega)
  refine ⟨τ2, ?_, I2⟩
  rw [rb_ls 863 9999 80]
  simp only [rb_gs_eq, rb_cs_go, rb_cs_end, rb_cs_ite, Nat.reduceAdd, Nat.zero_add, wr_at, wr_wr, true_and, and_true, and_self, true_or, or_true, false_or, or_false, ↓reduceIte, Nat.reduceLT, Nat.reduceLeDiff, Nat.reduceEqDiff, lg_cmp_ge, lg_cmp_le, lg_cmp_gt, lg_cmp_lt, lg_cmp_eq, Bool.false_eq_true, reduceCtorEq, mg_i, mg_l, decide_true, beq_self_eq_true, Nat.reduceBEq, st_law, dL_law_32, rb_jp, Int.cast_ofNat_Int, Int.reduceAdd, Int.reduceLE, Int.reduceToNat, Int.reduceNeg, rb_gs_eq, rb_cs_go, rb_cs_end, rb_cs_ite, Nat.reduceAdd, Nat.zero_add, wr_at, wr_wr, true_and, and_true, and_self, true_or, or_true, false_or, or_false, ↓reduceIte, Nat.reduceLT, Nat.reduceLeDiff, Nat.reduceEqDiff, lg_cmp_ge, lg_cmp_le, lg_cmp_gt, lg_cmp_lt, lg_cmp_eq, Bool.false_eq_true, reduceCtorEq, mg_i, mg_l, decide_true, beq_self_eq_true, Nat.reduceBEq, st_law, dL_law_349, xx_aloadn1, xx_aloadn1N, dL_law_350, xx_aloadn0, xx_aloadn0N, dL_law_351, xx_iloadn3, dL_law_352, xx_iconst, kc_1, dL_law_353, xx_iadd, dL_law_354, xx_iald, zz_yi, zz_yx, dL_law_355, dL_law_356, dL_law_357, kc_2, dL_law_358, dL_law_359, dL_law_360, dL_law_361, dL_law_362, kc_3, dL_law_363, dL_law_364, dL_law_365, dL_law_366, dL_law_367, kc_4, dL_law_368, dL_law_369, dL_law_370, xx_ivV, zz_c0, zz_c3, zz_c1, zz_c2, zz_c5, zz_c8, zz_c6, zz_R, List.length_cons, List.length_nil, List.take_succ_cons, List.take_zero, List.drop_succ_cons, List.drop_zero, List.reverse_cons, List.reverse_nil, List.nil_append, List.cons_append, rb_cat, List.map_cons, List.map_nil, List.sum_cons, List.sum_nil, Value.category, rb_isS, Option.toList_some, Option.toList_none, tv_10_45, dL_law_373, xx_aloadn2, xx_aloadn2N, dL_law_374, dL_law_375, dL_law_376, dL_law_377, dL_law_378, dL_law_379, dL_law_380, dL_law_381, dL_law_382, dL_law_383, dL_law_384, dL_law_385, dL_law_386, dL_law_387, dL_law_388, dL_law_389, dL_law_390, dL_law_391, dL_law_392, dL_law_393, dL_law_394, tv_10_48, dL_law_397, xx_iceq, rb_jp, Int.cast_ofNat_Int, Int.reduceAdd, Int.reduceLE, Int.reduceToNat, Int.reduceNeg, dL_law_400, kc_0, dL_law_401, xx_iret, xx_zret0, xx_zret1, swl_7, e1, e2, i1, i2, h0, h1, f1, r1, k1, f2, r2, k2, f3, r3, k3, f4, r4, k4, ne_eq, not_false_eq_true, Nat.reduceEqDiff]
  rfl
theorem lw_value (I : Inv L xs τ) (hi : i + 5 ≤ L) (hL : L ≤ 2560) : ∃ τ2, rb_lim (rb_stp (rb_R 11) rb_law) (32, [some (.ref 0), some (.ref 6), some (.ref 102), some (.int (nI i))], [.int 8], τ) = rb_lim (rb_stp (rb_R 11) rb_law) (863, [some (.ref 0), some (.ref 6), some (.ref 102), some (.int (nI i))], [], τ2) ∧ Inv L xs τ2 := by
  obtain ⟨r, τ1, τ2, e1, e2, i1, i2, z1, I2⟩ := sim_value I (p := xs (i + 1)) (x := xs (i + 2))
  have h0 := Inv_0 I
  have h1 := z1.trans h0
  have f1 : nI i + 1 = nI (i + 1) := by rw [lit_1, nI_add]
  have r1 : rb_in (nI (i + 1)) L = true := by rw [rb_in' (by omega)]; exact decide_eq_true (by omega)
  have k1 : (nI (i + 1)).toNatClampNeg = i + 1 := nI_cl (by omega)
  have f2 : nI i + 2 = nI (i + 2) := by rw [lit_2, nI_add]
  have r2 : rb_in (nI (i + 2)) L = true := by rw [rb_in' (by omega)]; exact decide_eq_true (by omega)
  have k2 : (nI (i + 2)).toNatClampNeg = i + 2 := nI_cl (by omega)
  refine ⟨τ2, ?_, I2⟩
  rw [rb_ls 863 9999 80]
  simp only [rb_gs_eq, rb_cs_go, rb_cs_end, rb_cs_ite, Nat.reduceAdd, Nat.zero_add, wr_at, wr_wr, true_and, and_true, and_self, true_or, or_true, false_or, or_false, ↓reduceIte, Nat.reduceLT, Nat.reduceLeDiff, Nat.reduceEqDiff, lg_cmp_ge, lg_cmp_le, lg_cmp_gt, lg_cmp_lt, lg_cmp_eq, Bool.false_eq_true, reduceCtorEq, mg_i, mg_l, decide_true, beq_self_eq_true, Nat.reduceBEq, st_law, dL_law_32, rb_jp, Int.cast_ofNat_Int, Int.reduceAdd, Int.reduceLE, Int.reduceToNat, Int.reduceNeg, rb_gs_eq, rb_cs_go, rb_cs_end, rb_cs_ite, Nat.reduceAdd, Nat.zero_add, wr_at, wr_wr, true_and, and_true, and_self, true_or, or_true, false_or, or_false, ↓reduceIte, Nat.reduceLT, Nat.reduceLeDiff, Nat.reduceEqDiff, lg_cmp_ge, lg_cmp_le, lg_cmp_gt, lg_cmp_lt, lg_cmp_eq, Bool.false_eq_true, reduceCtorEq, mg_i, mg_l, decide_true, beq_self_eq_true, Nat.reduceBEq, st_law, dL_law_402, xx_aloadn1, xx_aloadn1N, dL_law_403, xx_aloadn0, xx_aloadn0N, dL_law_404, xx_iloadn3, dL_law_405, xx_iconst, kc_1, dL_law_406, xx_iadd, dL_law_407, xx_iald, zz_yi, zz_yx, dL_law_408, dL_law_409, dL_law_410, kc_2, dL_law_411, dL_law_412, dL_law_413, xx_ivV, zz_c0, zz_c3, zz_c1, zz_c2, zz_c5, zz_c8, zz_c6, zz_R, List.length_cons, List.length_nil, List.take_succ_cons, List.take_zero, List.drop_succ_cons, List.drop_zero, List.reverse_cons, List.reverse_nil, List.nil_append, List.cons_append, rb_cat, List.map_cons, List.map_nil, List.sum_cons, List.sum_nil, Value.category, rb_isS, Option.toList_some, Option.toList_none, tv_10_49, dL_law_416, xx_aloadn2, xx_aloadn2N, dL_law_417, dL_law_418, dL_law_419, dL_law_420, dL_law_421, dL_law_422, dL_law_423, dL_law_424, dL_law_425, dL_law_426, dL_law_427, tv_10_53, dL_law_430, xx_iceq, rb_jp, Int.cast_ofNat_Int, Int.reduceAdd, Int.reduceLE, Int.reduceToNat, Int.reduceNeg, dL_law_433, kc_0, dL_law_434, xx_iret, xx_zret0, xx_zret1, swl_8, e1, e2, i1, i2, h0, h1, f1, r1, k1, f2, r2, k2, ne_eq, not_false_eq_true, Nat.reduceEqDiff]
  rfl
theorem lw_slope (I : Inv L xs τ) (hi : i + 5 ≤ L) (hL : L ≤ 2560) : ∃ τ2, rb_lim (rb_stp (rb_R 11) rb_law) (32, [some (.ref 0), some (.ref 6), some (.ref 102), some (.int (nI i))], [.int 9], τ) = rb_lim (rb_stp (rb_R 11) rb_law) (863, [some (.ref 0), some (.ref 6), some (.ref 102), some (.int (nI i))], [], τ2) ∧ Inv L xs τ2 := by
  obtain ⟨r, τ1, τ2, e1, e2, i1, i2, z1, I2⟩ := sim_slope I (p := xs (i + 1)) (y := xs (i + 2)) (x := xs (i + 3))
  have h0 := Inv_0 I
  have h1 := z1.trans h0
  have f1 : nI i + 1 = nI (i + 1) := by rw [lit_1, nI_add]
  have r1 : rb_in (nI (i + 1)) L = true := by rw [rb_in' (by omega)]; exact decide_eq_true (by omega)
  have k1 : (nI (i + 1)).toNatClampNeg = i + 1 := nI_cl (by omega)
  have f2 : nI i + 2 = nI (i + 2) := by rw [lit_2, nI_add]
  have r2 : rb_in (nI (i + 2)) L = true := by rw [rb_in' (by omega)]; exact decide_eq_true (by omega)
  have k2 : (nI (i + 2)).toNatClampNeg = i + 2 := nI_cl (by omega)
  have f3 : nI i + 3 = nI (i + 3) := by rw [lit_3, nI_add]
  have r3 : rb_in (nI (i + 3)) L = true := by rw [rb_in' (by omega)]; exact decide_eq_true (by omega)
  have k3 : (nI (i + 3)).toNatClampNeg = i + 3 := nI_cl (by omega)
  refine ⟨τ2, ?_, I2⟩
  rw [rb_ls 863 9999 80]
  simp only [rb_gs_eq, rb_cs_go, rb_cs_end, rb_cs_ite, Nat.reduceAdd, Nat.zero_add, wr_at, wr_wr, true_and, and_true, and_self, true_or, or_true, false_or, or_false, ↓reduceIte, Nat.reduceLT, Nat.reduceLeDiff, Nat.reduceEqDiff, lg_cmp_ge, lg_cmp_le, lg_cmp_gt, lg_cmp_lt, lg_cmp_eq, Bool.false_eq_true, reduceCtorEq, mg_i, mg_l, decide_true, beq_self_eq_true, Nat.reduceBEq, st_law, dL_law_32, rb_jp, Int.cast_ofNat_Int, Int.reduceAdd, Int.reduceLE, Int.reduceToNat, Int.reduceNeg, rb_gs_eq, rb_cs_go, rb_cs_end, rb_cs_ite, Nat.reduceAdd, Nat.zero_add, wr_at, wr_wr, true_and, and_true, and_self, true_or, or_true, false_or, or_false, ↓reduceIte, Nat.reduceLT, Nat.reduceLeDiff, Nat.reduceEqDiff, lg_cmp_ge, lg_cmp_le, lg_cmp_gt, lg_cmp_lt, lg_cmp_eq, Bool.false_eq_true, reduceCtorEq, mg_i, mg_l, decide_true, beq_self_eq_true, Nat.reduceBEq, st_law, dL_law_435, xx_aloadn1, xx_aloadn1N, dL_law_436, xx_aloadn0, xx_aloadn0N, dL_law_437, xx_iloadn3, dL_law_438, xx_iconst, kc_1, dL_law_439, xx_iadd, dL_law_440, xx_iald, zz_yi, zz_yx, dL_law_441, dL_law_442, dL_law_443, kc_2, dL_law_444, dL_law_445, dL_law_446, dL_law_447, dL_law_448, kc_3, dL_law_449, dL_law_450, dL_law_451, xx_ivV, zz_c0, zz_c3, zz_c1, zz_c2, zz_c5, zz_c8, zz_c6, zz_R, List.length_cons, List.length_nil, List.take_succ_cons, List.take_zero, List.drop_succ_cons, List.drop_zero, List.reverse_cons, List.reverse_nil, List.nil_append, List.cons_append, rb_cat, List.map_cons, List.map_nil, List.sum_cons, List.sum_nil, Value.category, rb_isS, Option.toList_some, Option.toList_none, tv_10_54, dL_law_454, xx_aloadn2, xx_aloadn2N, dL_law_455, dL_law_456, dL_law_457, dL_law_458, dL_law_459, dL_law_460, dL_law_461, dL_law_462, dL_law_463, dL_law_464, dL_law_465, dL_law_466, dL_law_467, dL_law_468, dL_law_469, dL_law_470, tv_10_57, dL_law_473, xx_iceq, rb_jp, Int.cast_ofNat_Int, Int.reduceAdd, Int.reduceLE, Int.reduceToNat, Int.reduceNeg, dL_law_476, kc_0, dL_law_477, xx_iret, xx_zret0, xx_zret1, swl_9, e1, e2, i1, i2, h0, h1, f1, r1, k1, f2, r2, k2, f3, r3, k3, ne_eq, not_false_eq_true, Nat.reduceEqDiff]
  rfl
theorem lw_fence (I : Inv L xs τ) (hi : i + 5 ≤ L) (hL : L ≤ 2560) : ∃ τ2, rb_lim (rb_stp (rb_R 11) rb_law) (32, [some (.ref 0), some (.ref 6), some (.ref 102), some (.int (nI i))], [.int 10], τ) = rb_lim (rb_stp (rb_R 11) rb_law) (863, [some (.ref 0), some (.ref 6), some (.ref 102), some (.int (nI i))], [], τ2) ∧ Inv L xs τ2 := by
  obtain ⟨r, τ1, τ2, e1, e2, i1, i2, z1, I2⟩ := sim_fence I (x := xs (i + 1))
  have h0 := Inv_0 I
  have h1 := z1.trans h0
  have f1 : nI i + 1 = nI (i + 1) := by rw [lit_1, nI_add]
  have r1 : rb_in (nI (i + 1)) L = true := by rw [rb_in' (by omega)]; exact decide_eq_true (by omega)
  have k1 : (nI (i + 1)).toNatClampNeg = i + 1 := nI_cl (by omega)
  refine ⟨τ2, ?_, I2⟩
  rw [rb_ls 863 9999 80]
  simp only [rb_gs_eq, rb_cs_go, rb_cs_end, rb_cs_ite, Nat.reduceAdd, Nat.zero_add, wr_at, wr_wr, true_and, and_true, and_self, true_or, or_true, false_or, or_false, ↓reduceIte, Nat.reduceLT, Nat.reduceLeDiff, Nat.reduceEqDiff, lg_cmp_ge, lg_cmp_le, lg_cmp_gt, lg_cmp_lt, lg_cmp_eq, Bool.false_eq_true, reduceCtorEq, mg_i, mg_l, decide_true, beq_self_eq_true, Nat.reduceBEq, st_law, dL_law_32, rb_jp, Int.cast_ofNat_Int, Int.reduceAdd, Int.reduceLE, Int.reduceToNat, Int.reduceNeg, rb_gs_eq, rb_cs_go, rb_cs_end, rb_cs_ite, Nat.reduceAdd, Nat.zero_add, wr_at, wr_wr, true_and, and_true, and_self, true_or, or_true, false_or, or_false, ↓reduceIte, Nat.reduceLT, Nat.reduceLeDiff, Nat.reduceEqDiff, lg_cmp_ge, lg_cmp_le, lg_cmp_gt, lg_cmp_lt, lg_cmp_eq, Bool.false_eq_true, reduceCtorEq, mg_i, mg_l, decide_true, beq_self_eq_true, Nat.reduceBEq, st_law, dL_law_478, xx_aloadn1, xx_aloadn1N, dL_law_479, xx_aloadn0, xx_aloadn0N, dL_law_480, xx_iloadn3, dL_law_481, xx_iconst, kc_1, dL_law_482, xx_iadd, dL_law_483, xx_iald, zz_yi, zz_yx, dL_law_484, xx_ivV, zz_c0, zz_c3, zz_c1, zz_c2, zz_c5, zz_c8, zz_c6, zz_R, List.length_cons, List.length_nil, List.take_succ_cons, List.take_zero, List.drop_succ_cons, List.drop_zero, List.reverse_cons, List.reverse_nil, List.nil_append, List.cons_append, rb_cat, List.map_cons, List.map_nil, List.sum_cons, List.sum_nil, Value.category, rb_isS, Option.toList_some, Option.toList_none, tv_10_58, dL_law_487, xx_aloadn2, xx_aloadn2N, dL_law_488, dL_law_489, dL_law_490, dL_law_491, dL_law_492, dL_law_493, tv_10_61, dL_law_496, xx_iceq, rb_jp, Int.cast_ofNat_Int, Int.reduceAdd, Int.reduceLE, Int.reduceToNat, Int.reduceNeg, dL_law_499, kc_0, dL_law_500, xx_iret, xx_zret0, xx_zret1, swl_10, e1, e2, i1, i2, h0, h1, f1, r1, k1, ne_eq, not_false_eq_true, Nat.reduceEqDiff]
  rfl
theorem lw_verdict (I : Inv L xs τ) (hi : i + 5 ≤ L) (hL : L ≤ 2560) : ∃ τ2, rb_lim (rb_stp (rb_R 11) rb_law) (32, [some (.ref 0), some (.ref 6), some (.ref 102), some (.int (nI i))], [.int 11], τ) = rb_lim (rb_stp (rb_R 11) rb_law) (863, [some (.ref 0), some (.ref 6), some (.ref 102), some (.int (nI i))], [], τ2) ∧ Inv L xs τ2 := by
  obtain ⟨r, τ1, τ2, e1, e2, i1, i2, z1, I2⟩ := sim_verdict I
  refine ⟨τ2, ?_, I2⟩
  rw [rb_ls 863 9999 80]
  simp only [rb_gs_eq, rb_cs_go, rb_cs_end, rb_cs_ite, Nat.reduceAdd, Nat.zero_add, wr_at, wr_wr, true_and, and_true, and_self, true_or, or_true, false_or, or_false, ↓reduceIte, Nat.reduceLT, Nat.reduceLeDiff, Nat.reduceEqDiff, lg_cmp_ge, lg_cmp_le, lg_cmp_gt, lg_cmp_lt, lg_cmp_eq, Bool.false_eq_true, reduceCtorEq, mg_i, mg_l, decide_true, beq_self_eq_true, Nat.reduceBEq, st_law, dL_law_32, rb_jp, Int.cast_ofNat_Int, Int.reduceAdd, Int.reduceLE, Int.reduceToNat, Int.reduceNeg, rb_gs_eq, rb_cs_go, rb_cs_end, rb_cs_ite, Nat.reduceAdd, Nat.zero_add, wr_at, wr_wr, true_and, and_true, and_self, true_or, or_true, false_or, or_false, ↓reduceIte, Nat.reduceLT, Nat.reduceLeDiff, Nat.reduceEqDiff, lg_cmp_ge, lg_cmp_le, lg_cmp_gt, lg_cmp_lt, lg_cmp_eq, Bool.false_eq_true, reduceCtorEq, mg_i, mg_l, decide_true, beq_self_eq_true, Nat.reduceBEq, st_law, dL_law_501, xx_aloadn1, xx_aloadn1N, dL_law_502, xx_ivV, zz_c0, zz_c3, zz_c1, zz_c2, zz_c5, zz_c8, zz_c6, zz_R, List.length_cons, List.length_nil, List.take_succ_cons, List.take_zero, List.drop_succ_cons, List.drop_zero, List.reverse_cons, List.reverse_nil, List.nil_append, List.cons_append, rb_cat, List.map_cons, List.map_nil, List.sum_cons, List.sum_nil, Value.category, rb_isS, Option.toList_some, Option.toList_none, tv_10_62, dL_law_505, xx_aloadn2, xx_aloadn2N, dL_law_506, tv_10_65, dL_law_509, xx_iceq, rb_jp, Int.cast_ofNat_Int, Int.reduceAdd, Int.reduceLE, Int.reduceToNat, Int.reduceNeg, dL_law_512, xx_iconst, kc_0, dL_law_513, xx_iret, xx_zret0, xx_zret1, swl_11, e1, e2, i1, i2, ne_eq, not_false_eq_true, Nat.reduceEqDiff]
  rfl
theorem lw_begin (I : Inv L xs τ) (hi : i + 5 ≤ L) (hL : L ≤ 2560) : ∃ τ2, rb_lim (rb_stp (rb_R 11) rb_law) (32, [some (.ref 0), some (.ref 6), some (.ref 102), some (.int (nI i))], [.int 12], τ) = rb_lim (rb_stp (rb_R 11) rb_law) (863, [some (.ref 0), some (.ref 6), some (.ref 102), some (.int (nI i))], [], τ2) ∧ Inv L xs τ2 := by
  obtain ⟨r, τ1, τ2, e1, e2, i1, i2, z1, I2⟩ := sim_begin I (a := xs (i + 1)) (b := xs (i + 2)) (c := xs (i + 3)) (e := xs (i + 4))
  have h0 := Inv_0 I
  have h1 := z1.trans h0
  have f1 : nI i + 1 = nI (i + 1) := by rw [lit_1, nI_add]
  have r1 : rb_in (nI (i + 1)) L = true := by rw [rb_in' (by omega)]; exact decide_eq_true (by omega)
  have k1 : (nI (i + 1)).toNatClampNeg = i + 1 := nI_cl (by omega)
  have f2 : nI i + 2 = nI (i + 2) := by rw [lit_2, nI_add]
  have r2 : rb_in (nI (i + 2)) L = true := by rw [rb_in' (by omega)]; exact decide_eq_true (by omega)
  have k2 : (nI (i + 2)).toNatClampNeg = i + 2 := nI_cl (by omega)
  have f3 : nI i + 3 = nI (i + 3) := by rw [lit_3, nI_add]
  have r3 : rb_in (nI (i + 3)) L = true := by rw [rb_in' (by omega)]; exact decide_eq_true (by omega)
  have k3 : (nI (i + 3)).toNatClampNeg = i + 3 := nI_cl (by omega)
  have f4 : nI i + 4 = nI (i + 4) := by rw [lit_4, nI_add]
  have r4 : rb_in (nI (i + 4)) L = true := by rw [rb_in' (by omega)]; exact decide_eq_true (by omega)
  have k4 : (nI (i + 4)).toNatClampNeg = i + 4 := nI_cl (by omega)
  refine ⟨τ2, ?_, I2⟩
  rw [rb_ls 863 9999 80]
  simp only [rb_gs_eq, rb_cs_go, rb_cs_end, rb_cs_ite, Nat.reduceAdd, Nat.zero_add, wr_at, wr_wr, true_and, and_true, and_self, true_or, or_true, false_or, or_false, ↓reduceIte, Nat.reduceLT, Nat.reduceLeDiff, Nat.reduceEqDiff, lg_cmp_ge, lg_cmp_le, lg_cmp_gt, lg_cmp_lt, lg_cmp_eq, Bool.false_eq_true, reduceCtorEq, mg_i, mg_l, decide_true, beq_self_eq_true, Nat.reduceBEq, st_law, dL_law_32, rb_jp, Int.cast_ofNat_Int, Int.reduceAdd, Int.reduceLE, Int.reduceToNat, Int.reduceNeg, rb_gs_eq, rb_cs_go, rb_cs_end, rb_cs_ite, Nat.reduceAdd, Nat.zero_add, wr_at, wr_wr, true_and, and_true, and_self, true_or, or_true, false_or, or_false, ↓reduceIte, Nat.reduceLT, Nat.reduceLeDiff, Nat.reduceEqDiff, lg_cmp_ge, lg_cmp_le, lg_cmp_gt, lg_cmp_lt, lg_cmp_eq, Bool.false_eq_true, reduceCtorEq, mg_i, mg_l, decide_true, beq_self_eq_true, Nat.reduceBEq, st_law, dL_law_514, xx_aloadn1, xx_aloadn1N, dL_law_515, xx_aloadn0, xx_aloadn0N, dL_law_516, xx_iloadn3, dL_law_517, xx_iconst, kc_1, dL_law_518, xx_iadd, dL_law_519, xx_iald, zz_yi, zz_yx, dL_law_520, dL_law_521, dL_law_522, kc_2, dL_law_523, dL_law_524, dL_law_525, dL_law_526, dL_law_527, kc_3, dL_law_528, dL_law_529, dL_law_530, dL_law_531, dL_law_532, kc_4, dL_law_533, dL_law_534, dL_law_535, xx_ivV, zz_c0, zz_c3, zz_c1, zz_c2, zz_c5, zz_c8, zz_c6, zz_R, List.length_cons, List.length_nil, List.take_succ_cons, List.take_zero, List.drop_succ_cons, List.drop_zero, List.reverse_cons, List.reverse_nil, List.nil_append, List.cons_append, rb_cat, List.map_cons, List.map_nil, List.sum_cons, List.sum_nil, Value.category, rb_isS, Option.toList_some, Option.toList_none, tv_10_66, dL_law_538, xx_aloadn2, xx_aloadn2N, dL_law_539, dL_law_540, dL_law_541, dL_law_542, dL_law_543, dL_law_544, dL_law_545, dL_law_546, dL_law_547, dL_law_548, dL_law_549, dL_law_550, dL_law_551, dL_law_552, dL_law_553, dL_law_554, dL_law_555, dL_law_556, dL_law_557, dL_law_558, dL_law_559, tv_10_69, dL_law_562, xx_iceq, rb_jp, Int.cast_ofNat_Int, Int.reduceAdd, Int.reduceLE, Int.reduceToNat, Int.reduceNeg, dL_law_565, kc_0, dL_law_566, xx_iret, xx_zret0, xx_zret1, swl_12, e1, e2, i1, i2, h0, h1, f1, r1, k1, f2, r2, k2, f3, r3, k3, f4, r4, k4, ne_eq, not_false_eq_true, Nat.reduceEqDiff]
  rfl
theorem lw_least (I : Inv L xs τ) (hi : i + 5 ≤ L) (hL : L ≤ 2560) : ∃ τ2, rb_lim (rb_stp (rb_R 11) rb_law) (32, [some (.ref 0), some (.ref 6), some (.ref 102), some (.int (nI i))], [.int 13], τ) = rb_lim (rb_stp (rb_R 11) rb_law) (863, [some (.ref 0), some (.ref 6), some (.ref 102), some (.int (nI i))], [], τ2) ∧ Inv L xs τ2 := by
  obtain ⟨r, τ1, τ2, e1, e2, i1, i2, z1, I2⟩ := sim_least I (x := xs (i + 1))
  have h0 := Inv_0 I
  have h1 := z1.trans h0
  have f1 : nI i + 1 = nI (i + 1) := by rw [lit_1, nI_add]
  have r1 : rb_in (nI (i + 1)) L = true := by rw [rb_in' (by omega)]; exact decide_eq_true (by omega)
  have k1 : (nI (i + 1)).toNatClampNeg = i + 1 := nI_cl (by omega)
  refine ⟨τ2, ?_, I2⟩
  rw [rb_ls 863 9999 80]
  simp only [rb_gs_eq, rb_cs_go, rb_cs_end, rb_cs_ite, Nat.reduceAdd, Nat.zero_add, wr_at, wr_wr, true_and, and_true, and_self, true_or, or_true, false_or, or_false, ↓reduceIte, Nat.reduceLT, Nat.reduceLeDiff, Nat.reduceEqDiff, lg_cmp_ge, lg_cmp_le, lg_cmp_gt, lg_cmp_lt, lg_cmp_eq, Bool.false_eq_true, reduceCtorEq, mg_i, mg_l, decide_true, beq_self_eq_true, Nat.reduceBEq, st_law, dL_law_32, rb_jp, Int.cast_ofNat_Int, Int.reduceAdd, Int.reduceLE, Int.reduceToNat, Int.reduceNeg, rb_gs_eq, rb_cs_go, rb_cs_end, rb_cs_ite, Nat.reduceAdd, Nat.zero_add, wr_at, wr_wr, true_and, and_true, and_self, true_or, or_true, false_or, or_false, ↓reduceIte, Nat.reduceLT, Nat.reduceLeDiff, Nat.reduceEqDiff, lg_cmp_ge, lg_cmp_le, lg_cmp_gt, lg_cmp_lt, lg_cmp_eq, Bool.false_eq_true, reduceCtorEq, mg_i, mg_l, decide_true, beq_self_eq_true, Nat.reduceBEq, st_law, dL_law_567, xx_aloadn1, xx_aloadn1N, dL_law_568, xx_aloadn0, xx_aloadn0N, dL_law_569, xx_iloadn3, dL_law_570, xx_iconst, kc_1, dL_law_571, xx_iadd, dL_law_572, xx_iald, zz_yi, zz_yx, dL_law_573, xx_ivV, zz_c0, zz_c3, zz_c1, zz_c2, zz_c5, zz_c8, zz_c6, zz_R, List.length_cons, List.length_nil, List.take_succ_cons, List.take_zero, List.drop_succ_cons, List.drop_zero, List.reverse_cons, List.reverse_nil, List.nil_append, List.cons_append, rb_cat, List.map_cons, List.map_nil, List.sum_cons, List.sum_nil, Value.category, rb_isS, Option.toList_some, Option.toList_none, tv_10_70, dL_law_576, xx_aloadn2, xx_aloadn2N, dL_law_577, dL_law_578, dL_law_579, dL_law_580, dL_law_581, dL_law_582, tv_10_73, dL_law_585, xx_iceq, rb_jp, Int.cast_ofNat_Int, Int.reduceAdd, Int.reduceLE, Int.reduceToNat, Int.reduceNeg, dL_law_588, kc_0, dL_law_589, xx_iret, xx_zret0, xx_zret1, swl_13, e1, e2, i1, i2, h0, h1, f1, r1, k1, ne_eq, not_false_eq_true, Nat.reduceEqDiff]
  rfl
theorem lw_step (I : Inv L xs τ) (hi : i + 5 ≤ L) (hL : L ≤ 2560) : ∃ τ2, rb_lim (rb_stp (rb_R 11) rb_law) (32, [some (.ref 0), some (.ref 6), some (.ref 102), some (.int (nI i))], [.int 14], τ) = rb_lim (rb_stp (rb_R 11) rb_law) (863, [some (.ref 0), some (.ref 6), some (.ref 102), some (.int (nI i))], [], τ2) ∧ Inv L xs τ2 := by
  obtain ⟨r, τ1, τ2, e1, e2, i1, i2, z1, I2⟩ := sim_step I
  refine ⟨τ2, ?_, I2⟩
  rw [rb_ls 863 9999 80]
  simp only [rb_gs_eq, rb_cs_go, rb_cs_end, rb_cs_ite, Nat.reduceAdd, Nat.zero_add, wr_at, wr_wr, true_and, and_true, and_self, true_or, or_true, false_or, or_false, ↓reduceIte, Nat.reduceLT, Nat.reduceLeDiff, Nat.reduceEqDiff, lg_cmp_ge, lg_cmp_le, lg_cmp_gt, lg_cmp_lt, lg_cmp_eq, Bool.false_eq_true, reduceCtorEq, mg_i, mg_l, decide_true, beq_self_eq_true, Nat.reduceBEq, st_law, dL_law_32, rb_jp, Int.cast_ofNat_Int, Int.reduceAdd, Int.reduceLE, Int.reduceToNat, Int.reduceNeg, rb_gs_eq, rb_cs_go, rb_cs_end, rb_cs_ite, Nat.reduceAdd, Nat.zero_add, wr_at, wr_wr, true_and, and_true, and_self, true_or, or_true, false_or, or_false, ↓reduceIte, Nat.reduceLT, Nat.reduceLeDiff, Nat.reduceEqDiff, lg_cmp_ge, lg_cmp_le, lg_cmp_gt, lg_cmp_lt, lg_cmp_eq, Bool.false_eq_true, reduceCtorEq, mg_i, mg_l, decide_true, beq_self_eq_true, Nat.reduceBEq, st_law, dL_law_590, xx_aloadn1, xx_aloadn1N, dL_law_591, xx_ivV, zz_c0, zz_c3, zz_c1, zz_c2, zz_c5, zz_c8, zz_c6, zz_R, List.length_cons, List.length_nil, List.take_succ_cons, List.take_zero, List.drop_succ_cons, List.drop_zero, List.reverse_cons, List.reverse_nil, List.nil_append, List.cons_append, rb_cat, List.map_cons, List.map_nil, List.sum_cons, List.sum_nil, Value.category, rb_isS, Option.toList_some, Option.toList_none, tv_10_74, dL_law_594, xx_aloadn2, xx_aloadn2N, dL_law_595, tv_10_77, dL_law_598, xx_iceq, rb_jp, Int.cast_ofNat_Int, Int.reduceAdd, Int.reduceLE, Int.reduceToNat, Int.reduceNeg, dL_law_601, xx_iconst, kc_0, dL_law_602, xx_iret, xx_zret0, xx_zret1, swl_14, e1, e2, i1, i2, ne_eq, not_false_eq_true, Nat.reduceEqDiff]
  rfl
theorem lw_steps (I : Inv L xs τ) (hi : i + 5 ≤ L) (hL : L ≤ 2560) : ∃ τ2, rb_lim (rb_stp (rb_R 11) rb_law) (32, [some (.ref 0), some (.ref 6), some (.ref 102), some (.int (nI i))], [.int 15], τ) = rb_lim (rb_stp (rb_R 11) rb_law) (863, [some (.ref 0), some (.ref 6), some (.ref 102), some (.int (nI i))], [], τ2) ∧ Inv L xs τ2 := by
  obtain ⟨r, τ1, τ2, e1, e2, i1, i2, z1, I2⟩ := sim_steps I (x := xs (i + 1))
  have h0 := Inv_0 I
  have h1 := z1.trans h0
  have f1 : nI i + 1 = nI (i + 1) := by rw [lit_1, nI_add]
  have r1 : rb_in (nI (i + 1)) L = true := by rw [rb_in' (by omega)]; exact decide_eq_true (by omega)
  have k1 : (nI (i + 1)).toNatClampNeg = i + 1 := nI_cl (by omega)
  refine ⟨τ2, ?_, I2⟩
  rw [rb_ls 863 9999 80]
  simp only [rb_gs_eq, rb_cs_go, rb_cs_end, rb_cs_ite, Nat.reduceAdd, Nat.zero_add, wr_at, wr_wr, true_and, and_true, and_self, true_or, or_true, false_or, or_false, ↓reduceIte, Nat.reduceLT, Nat.reduceLeDiff, Nat.reduceEqDiff, lg_cmp_ge, lg_cmp_le, lg_cmp_gt, lg_cmp_lt, lg_cmp_eq, Bool.false_eq_true, reduceCtorEq, mg_i, mg_l, decide_true, beq_self_eq_true, Nat.reduceBEq, st_law, dL_law_32, rb_jp, Int.cast_ofNat_Int, Int.reduceAdd, Int.reduceLE, Int.reduceToNat, Int.reduceNeg, rb_gs_eq, rb_cs_go, rb_cs_end, rb_cs_ite, Nat.reduceAdd, Nat.zero_add, wr_at, wr_wr, true_and, and_true, and_self, true_or, or_true, false_or, or_false, ↓reduceIte, Nat.reduceLT, Nat.reduceLeDiff, Nat.reduceEqDiff, lg_cmp_ge, lg_cmp_le, lg_cmp_gt, lg_cmp_lt, lg_cmp_eq, Bool.false_eq_true, reduceCtorEq, mg_i, mg_l, decide_true, beq_self_eq_true, Nat.reduceBEq, st_law, dL_law_603, xx_aloadn1, xx_aloadn1N, dL_law_604, xx_aloadn0, xx_aloadn0N, dL_law_605, xx_iloadn3, dL_law_606, xx_iconst, kc_1, dL_law_607, xx_iadd, dL_law_608, xx_iald, zz_yi, zz_yx, dL_law_609, xx_ivV, zz_c0, zz_c3, zz_c1, zz_c2, zz_c5, zz_c8, zz_c6, zz_R, List.length_cons, List.length_nil, List.take_succ_cons, List.take_zero, List.drop_succ_cons, List.drop_zero, List.reverse_cons, List.reverse_nil, List.nil_append, List.cons_append, rb_cat, List.map_cons, List.map_nil, List.sum_cons, List.sum_nil, Value.category, rb_isS, Option.toList_some, Option.toList_none, tv_10_78, dL_law_612, xx_aloadn2, xx_aloadn2N, dL_law_613, dL_law_614, dL_law_615, dL_law_616, dL_law_617, dL_law_618, tv_10_81, dL_law_621, xx_iceq, rb_jp, Int.cast_ofNat_Int, Int.reduceAdd, Int.reduceLE, Int.reduceToNat, Int.reduceNeg, dL_law_624, kc_0, dL_law_625, xx_iret, xx_zret0, xx_zret1, swl_15, e1, e2, i1, i2, h0, h1, f1, r1, k1, ne_eq, not_false_eq_true, Nat.reduceEqDiff]
  rfl
theorem lw_first (I : Inv L xs τ) (hi : i + 5 ≤ L) (hL : L ≤ 2560) : ∃ τ2, rb_lim (rb_stp (rb_R 11) rb_law) (32, [some (.ref 0), some (.ref 6), some (.ref 102), some (.int (nI i))], [.int 16], τ) = rb_lim (rb_stp (rb_R 11) rb_law) (863, [some (.ref 0), some (.ref 6), some (.ref 102), some (.int (nI i))], [], τ2) ∧ Inv L xs τ2 := by
  obtain ⟨r, τ1, τ2, e1, e2, i1, i2, z1, I2⟩ := sim_first I (x := xs (i + 1))
  have h0 := Inv_0 I
  have h1 := z1.trans h0
  have f1 : nI i + 1 = nI (i + 1) := by rw [lit_1, nI_add]
  have r1 : rb_in (nI (i + 1)) L = true := by rw [rb_in' (by omega)]; exact decide_eq_true (by omega)
  have k1 : (nI (i + 1)).toNatClampNeg = i + 1 := nI_cl (by omega)
  refine ⟨τ2, ?_, I2⟩
  rw [rb_ls 863 9999 80]
  simp only [rb_gs_eq, rb_cs_go, rb_cs_end, rb_cs_ite, Nat.reduceAdd, Nat.zero_add, wr_at, wr_wr, true_and, and_true, and_self, true_or, or_true, false_or, or_false, ↓reduceIte, Nat.reduceLT, Nat.reduceLeDiff, Nat.reduceEqDiff, lg_cmp_ge, lg_cmp_le, lg_cmp_gt, lg_cmp_lt, lg_cmp_eq, Bool.false_eq_true, reduceCtorEq, mg_i, mg_l, decide_true, beq_self_eq_true, Nat.reduceBEq, st_law, dL_law_32, rb_jp, Int.cast_ofNat_Int, Int.reduceAdd, Int.reduceLE, Int.reduceToNat, Int.reduceNeg, rb_gs_eq, rb_cs_go, rb_cs_end, rb_cs_ite, Nat.reduceAdd, Nat.zero_add, wr_at, wr_wr, true_and, and_true, and_self, true_or, or_true, false_or, or_false, ↓reduceIte, Nat.reduceLT, Nat.reduceLeDiff, Nat.reduceEqDiff, lg_cmp_ge, lg_cmp_le, lg_cmp_gt, lg_cmp_lt, lg_cmp_eq, Bool.false_eq_true, reduceCtorEq, mg_i, mg_l, decide_true, beq_self_eq_true, Nat.reduceBEq, st_law, dL_law_626, xx_aloadn1, xx_aloadn1N, dL_law_627, xx_aloadn0, xx_aloadn0N, dL_law_628, xx_iloadn3, dL_law_629, xx_iconst, kc_1, dL_law_630, xx_iadd, dL_law_631, xx_iald, zz_yi, zz_yx, dL_law_632, xx_ivV, zz_c0, zz_c3, zz_c1, zz_c2, zz_c5, zz_c8, zz_c6, zz_R, List.length_cons, List.length_nil, List.take_succ_cons, List.take_zero, List.drop_succ_cons, List.drop_zero, List.reverse_cons, List.reverse_nil, List.nil_append, List.cons_append, rb_cat, List.map_cons, List.map_nil, List.sum_cons, List.sum_nil, Value.category, rb_isS, Option.toList_some, Option.toList_none, tv_10_82, dL_law_635, xx_aloadn2, xx_aloadn2N, dL_law_636, dL_law_637, dL_law_638, dL_law_639, dL_law_640, dL_law_641, tv_10_85, dL_law_644, xx_iceq, rb_jp, Int.cast_ofNat_Int, Int.reduceAdd, Int.reduceLE, Int.reduceToNat, Int.reduceNeg, dL_law_647, kc_0, dL_law_648, xx_iret, xx_zret0, xx_zret1, swl_16, e1, e2, i1, i2, h0, h1, f1, r1, k1, ne_eq, not_false_eq_true, Nat.reduceEqDiff]
  rfl
theorem lw_solved (I : Inv L xs τ) (hi : i + 5 ≤ L) (hL : L ≤ 2560) : ∃ τ2, rb_lim (rb_stp (rb_R 11) rb_law) (32, [some (.ref 0), some (.ref 6), some (.ref 102), some (.int (nI i))], [.int 17], τ) = rb_lim (rb_stp (rb_R 11) rb_law) (863, [some (.ref 0), some (.ref 6), some (.ref 102), some (.int (nI i))], [], τ2) ∧ Inv L xs τ2 := by
  obtain ⟨r, τ1, τ2, e1, e2, i1, i2, z1, I2⟩ := sim_solved I (x := xs (i + 1)) (y := xs (i + 2))
  have h0 := Inv_0 I
  have h1 := z1.trans h0
  have f1 : nI i + 1 = nI (i + 1) := by rw [lit_1, nI_add]
  have r1 : rb_in (nI (i + 1)) L = true := by rw [rb_in' (by omega)]; exact decide_eq_true (by omega)
  have k1 : (nI (i + 1)).toNatClampNeg = i + 1 := nI_cl (by omega)
  have f2 : nI i + 2 = nI (i + 2) := by rw [lit_2, nI_add]
  have r2 : rb_in (nI (i + 2)) L = true := by rw [rb_in' (by omega)]; exact decide_eq_true (by omega)
  have k2 : (nI (i + 2)).toNatClampNeg = i + 2 := nI_cl (by omega)
  refine ⟨τ2, ?_, I2⟩
  rw [rb_ls 863 9999 80]
  simp only [rb_gs_eq, rb_cs_go, rb_cs_end, rb_cs_ite, Nat.reduceAdd, Nat.zero_add, wr_at, wr_wr, true_and, and_true, and_self, true_or, or_true, false_or, or_false, ↓reduceIte, Nat.reduceLT, Nat.reduceLeDiff, Nat.reduceEqDiff, lg_cmp_ge, lg_cmp_le, lg_cmp_gt, lg_cmp_lt, lg_cmp_eq, Bool.false_eq_true, reduceCtorEq, mg_i, mg_l, decide_true, beq_self_eq_true, Nat.reduceBEq, st_law, dL_law_32, rb_jp, Int.cast_ofNat_Int, Int.reduceAdd, Int.reduceLE, Int.reduceToNat, Int.reduceNeg, rb_gs_eq, rb_cs_go, rb_cs_end, rb_cs_ite, Nat.reduceAdd, Nat.zero_add, wr_at, wr_wr, true_and, and_true, and_self, true_or, or_true, false_or, or_false, ↓reduceIte, Nat.reduceLT, Nat.reduceLeDiff, Nat.reduceEqDiff, lg_cmp_ge, lg_cmp_le, lg_cmp_gt, lg_cmp_lt, lg_cmp_eq, Bool.false_eq_true, reduceCtorEq, mg_i, mg_l, decide_true, beq_self_eq_true, Nat.reduceBEq, st_law, dL_law_649, xx_aloadn1, xx_aloadn1N, dL_law_650, xx_aloadn0, xx_aloadn0N, dL_law_651, xx_iloadn3, dL_law_652, xx_iconst, kc_1, dL_law_653, xx_iadd, dL_law_654, xx_iald, zz_yi, zz_yx, dL_law_655, dL_law_656, dL_law_657, kc_2, dL_law_658, dL_law_659, dL_law_660, xx_ivV, zz_c0, zz_c3, zz_c1, zz_c2, zz_c5, zz_c8, zz_c6, zz_R, List.length_cons, List.length_nil, List.take_succ_cons, List.take_zero, List.drop_succ_cons, List.drop_zero, List.reverse_cons, List.reverse_nil, List.nil_append, List.cons_append, rb_cat, List.map_cons, List.map_nil, List.sum_cons, List.sum_nil, Value.category, rb_isS, Option.toList_some, Option.toList_none, tv_10_86, dL_law_663, xx_aloadn2, xx_aloadn2N, dL_law_664, dL_law_665, dL_law_666, dL_law_667, dL_law_668, dL_law_669, dL_law_670, dL_law_671, dL_law_672, dL_law_673, dL_law_674, tv_10_89, dL_law_677, xx_iceq, rb_jp, Int.cast_ofNat_Int, Int.reduceAdd, Int.reduceLE, Int.reduceToNat, Int.reduceNeg, dL_law_680, kc_0, dL_law_681, xx_iret, xx_zret0, xx_zret1, swl_17, e1, e2, i1, i2, h0, h1, f1, r1, k1, f2, r2, k2, ne_eq, not_false_eq_true, Nat.reduceEqDiff]
  rfl
theorem lw_doubtful (I : Inv L xs τ) (hi : i + 5 ≤ L) (hL : L ≤ 2560) : ∃ τ2, rb_lim (rb_stp (rb_R 11) rb_law) (32, [some (.ref 0), some (.ref 6), some (.ref 102), some (.int (nI i))], [.int 18], τ) = rb_lim (rb_stp (rb_R 11) rb_law) (863, [some (.ref 0), some (.ref 6), some (.ref 102), some (.int (nI i))], [], τ2) ∧ Inv L xs τ2 := by
  obtain ⟨r, τ1, τ2, e1, e2, i1, i2, z1, I2⟩ := sim_doubtful I (x := xs (i + 1)) (y := xs (i + 2))
  have h0 := Inv_0 I
  have h1 := z1.trans h0
  have f1 : nI i + 1 = nI (i + 1) := by rw [lit_1, nI_add]
  have r1 : rb_in (nI (i + 1)) L = true := by rw [rb_in' (by omega)]; exact decide_eq_true (by omega)
  have k1 : (nI (i + 1)).toNatClampNeg = i + 1 := nI_cl (by omega)
  have f2 : nI i + 2 = nI (i + 2) := by rw [lit_2, nI_add]
  have r2 : rb_in (nI (i + 2)) L = true := by rw [rb_in' (by omega)]; exact decide_eq_true (by omega)
  have k2 : (nI (i + 2)).toNatClampNeg = i + 2 := nI_cl (by omega)
  refine ⟨τ2, ?_, I2⟩
  rw [rb_ls 863 9999 80]
  simp only [rb_gs_eq, rb_cs_go, rb_cs_end, rb_cs_ite, Nat.reduceAdd, Nat.zero_add, wr_at, wr_wr, true_and, and_true, and_self, true_or, or_true, false_or, or_false, ↓reduceIte, Nat.reduceLT, Nat.reduceLeDiff, Nat.reduceEqDiff, lg_cmp_ge, lg_cmp_le, lg_cmp_gt, lg_cmp_lt, lg_cmp_eq, Bool.false_eq_true, reduceCtorEq, mg_i, mg_l, decide_true, beq_self_eq_true, Nat.reduceBEq, st_law, dL_law_32, rb_jp, Int.cast_ofNat_Int, Int.reduceAdd, Int.reduceLE, Int.reduceToNat, Int.reduceNeg, rb_gs_eq, rb_cs_go, rb_cs_end, rb_cs_ite, Nat.reduceAdd, Nat.zero_add, wr_at, wr_wr, true_and, and_true, and_self, true_or, or_true, false_or, or_false, ↓reduceIte, Nat.reduceLT, Nat.reduceLeDiff, Nat.reduceEqDiff, lg_cmp_ge, lg_cmp_le, lg_cmp_gt, lg_cmp_lt, lg_cmp_eq, Bool.false_eq_true, reduceCtorEq, mg_i, mg_l, decide_true, beq_self_eq_true, Nat.reduceBEq, st_law, dL_law_682, xx_aloadn1, xx_aloadn1N, dL_law_683, xx_aloadn0, xx_aloadn0N, dL_law_684, xx_iloadn3, dL_law_685, xx_iconst, kc_1, dL_law_686, xx_iadd, dL_law_687, xx_iald, zz_yi, zz_yx, dL_law_688, dL_law_689, dL_law_690, kc_2, dL_law_691, dL_law_692, dL_law_693, xx_ivV, zz_c0, zz_c3, zz_c1, zz_c2, zz_c5, zz_c8, zz_c6, zz_R, List.length_cons, List.length_nil, List.take_succ_cons, List.take_zero, List.drop_succ_cons, List.drop_zero, List.reverse_cons, List.reverse_nil, List.nil_append, List.cons_append, rb_cat, List.map_cons, List.map_nil, List.sum_cons, List.sum_nil, Value.category, rb_isS, Option.toList_some, Option.toList_none, tv_10_90, dL_law_696, xx_aloadn2, xx_aloadn2N, dL_law_697, dL_law_698, dL_law_699, dL_law_700, dL_law_701, dL_law_702, dL_law_703, dL_law_704, dL_law_705, dL_law_706, dL_law_707, tv_10_93, dL_law_710, xx_iceq, rb_jp, Int.cast_ofNat_Int, Int.reduceAdd, Int.reduceLE, Int.reduceToNat, Int.reduceNeg, dL_law_713, kc_0, dL_law_714, xx_iret, xx_zret0, xx_zret1, swl_18, e1, e2, i1, i2, h0, h1, f1, r1, k1, f2, r2, k2, ne_eq, not_false_eq_true, Nat.reduceEqDiff]
  rfl
theorem lw_entry (I : Inv L xs τ) (hi : i + 5 ≤ L) (hL : L ≤ 2560) : ∃ τ2, rb_lim (rb_stp (rb_R 11) rb_law) (32, [some (.ref 0), some (.ref 6), some (.ref 102), some (.int (nI i))], [.int 19], τ) = rb_lim (rb_stp (rb_R 11) rb_law) (863, [some (.ref 0), some (.ref 6), some (.ref 102), some (.int (nI i))], [], τ2) ∧ Inv L xs τ2 := by
  obtain ⟨r, τ1, τ2, e1, e2, i1, i2, z1, I2⟩ := sim_entry I (x := xs (i + 1)) (y := xs (i + 2))
  have h0 := Inv_0 I
  have h1 := z1.trans h0
  have f1 : nI i + 1 = nI (i + 1) := by rw [lit_1, nI_add]
  have r1 : rb_in (nI (i + 1)) L = true := by rw [rb_in' (by omega)]; exact decide_eq_true (by omega)
  have k1 : (nI (i + 1)).toNatClampNeg = i + 1 := nI_cl (by omega)
  have f2 : nI i + 2 = nI (i + 2) := by rw [lit_2, nI_add]
  have r2 : rb_in (nI (i + 2)) L = true := by rw [rb_in' (by omega)]; exact decide_eq_true (by omega)
  have k2 : (nI (i + 2)).toNatClampNeg = i + 2 := nI_cl (by omega)
  refine ⟨τ2, ?_, I2⟩
  rw [rb_ls 863 9999 80]
  simp only [rb_gs_eq, rb_cs_go, rb_cs_end, rb_cs_ite, Nat.reduceAdd, Nat.zero_add, wr_at, wr_wr, true_and, and_true, and_self, true_or, or_true, false_or, or_false, ↓reduceIte, Nat.reduceLT, Nat.reduceLeDiff, Nat.reduceEqDiff, lg_cmp_ge, lg_cmp_le, lg_cmp_gt, lg_cmp_lt, lg_cmp_eq, Bool.false_eq_true, reduceCtorEq, mg_i, mg_l, decide_true, beq_self_eq_true, Nat.reduceBEq, st_law, dL_law_32, rb_jp, Int.cast_ofNat_Int, Int.reduceAdd, Int.reduceLE, Int.reduceToNat, Int.reduceNeg, rb_gs_eq, rb_cs_go, rb_cs_end, rb_cs_ite, Nat.reduceAdd, Nat.zero_add, wr_at, wr_wr, true_and, and_true, and_self, true_or, or_true, false_or, or_false, ↓reduceIte, Nat.reduceLT, Nat.reduceLeDiff, Nat.reduceEqDiff, lg_cmp_ge, lg_cmp_le, lg_cmp_gt, lg_cmp_lt, lg_cmp_eq, Bool.false_eq_true, reduceCtorEq, mg_i, mg_l, decide_true, beq_self_eq_true, Nat.reduceBEq, st_law, dL_law_715, xx_aloadn1, xx_aloadn1N, dL_law_716, xx_aloadn0, xx_aloadn0N, dL_law_717, xx_iloadn3, dL_law_718, xx_iconst, kc_1, dL_law_719, xx_iadd, dL_law_720, xx_iald, zz_yi, zz_yx, dL_law_721, dL_law_722, dL_law_723, kc_2, dL_law_724, dL_law_725, dL_law_726, xx_ivV, zz_c0, zz_c3, zz_c1, zz_c2, zz_c5, zz_c8, zz_c6, zz_R, List.length_cons, List.length_nil, List.take_succ_cons, List.take_zero, List.drop_succ_cons, List.drop_zero, List.reverse_cons, List.reverse_nil, List.nil_append, List.cons_append, rb_cat, List.map_cons, List.map_nil, List.sum_cons, List.sum_nil, Value.category, rb_isS, Option.toList_some, Option.toList_none, tv_10_94, dL_law_729, xx_aloadn2, xx_aloadn2N, dL_law_730, dL_law_731, dL_law_732, dL_law_733, dL_law_734, dL_law_735, dL_law_736, dL_law_737, dL_law_738, dL_law_739, dL_law_740, tv_10_97, dL_law_743, xx_iceq, rb_jp, Int.cast_ofNat_Int, Int.reduceAdd, Int.reduceLE, Int.reduceToNat, Int.reduceNeg, dL_law_746, kc_0, dL_law_747, xx_iret, xx_zret0, xx_zret1, swl_19, e1, e2, i1, i2, h0, h1, f1, r1, k1, f2, r2, k2, ne_eq, not_false_eq_true, Nat.reduceEqDiff]
  rfl
theorem lw_broken (I : Inv L xs τ) (hi : i + 5 ≤ L) (hL : L ≤ 2560) : ∃ τ2, rb_lim (rb_stp (rb_R 11) rb_law) (32, [some (.ref 0), some (.ref 6), some (.ref 102), some (.int (nI i))], [.int 20], τ) = rb_lim (rb_stp (rb_R 11) rb_law) (863, [some (.ref 0), some (.ref 6), some (.ref 102), some (.int (nI i))], [], τ2) ∧ Inv L xs τ2 := by
  obtain ⟨r, τ1, τ2, e1, e2, i1, i2, z1, I2⟩ := sim_broken I
  refine ⟨τ2, ?_, I2⟩
  rw [rb_ls 863 9999 80]
  simp only [rb_gs_eq, rb_cs_go, rb_cs_end, rb_cs_ite, Nat.reduceAdd, Nat.zero_add, wr_at, wr_wr, true_and, and_true, and_self, true_or, or_true, false_or, or_false, ↓reduceIte, Nat.reduceLT, Nat.reduceLeDiff, Nat.reduceEqDiff, lg_cmp_ge, lg_cmp_le, lg_cmp_gt, lg_cmp_lt, lg_cmp_eq, Bool.false_eq_true, reduceCtorEq, mg_i, mg_l, decide_true, beq_self_eq_true, Nat.reduceBEq, st_law, dL_law_32, rb_jp, Int.cast_ofNat_Int, Int.reduceAdd, Int.reduceLE, Int.reduceToNat, Int.reduceNeg, rb_gs_eq, rb_cs_go, rb_cs_end, rb_cs_ite, Nat.reduceAdd, Nat.zero_add, wr_at, wr_wr, true_and, and_true, and_self, true_or, or_true, false_or, or_false, ↓reduceIte, Nat.reduceLT, Nat.reduceLeDiff, Nat.reduceEqDiff, lg_cmp_ge, lg_cmp_le, lg_cmp_gt, lg_cmp_lt, lg_cmp_eq, Bool.false_eq_true, reduceCtorEq, mg_i, mg_l, decide_true, beq_self_eq_true, Nat.reduceBEq, st_law, dL_law_748, xx_aloadn1, xx_aloadn1N, dL_law_749, xx_ivV, zz_c0, zz_c3, zz_c1, zz_c2, zz_c5, zz_c8, zz_c6, zz_R, List.length_cons, List.length_nil, List.take_succ_cons, List.take_zero, List.drop_succ_cons, List.drop_zero, List.reverse_cons, List.reverse_nil, List.nil_append, List.cons_append, rb_cat, List.map_cons, List.map_nil, List.sum_cons, List.sum_nil, Value.category, rb_isS, Option.toList_some, Option.toList_none, tv_10_98, dL_law_752, xx_aloadn2, xx_aloadn2N, dL_law_753, tv_10_101, dL_law_756, xx_iceq, rb_jp, Int.cast_ofNat_Int, Int.reduceAdd, Int.reduceLE, Int.reduceToNat, Int.reduceNeg, dL_law_759, xx_iconst, kc_0, dL_law_760, xx_iret, xx_zret0, xx_zret1, swl_20, e1, e2, i1, i2, ne_eq, not_false_eq_true, Nat.reduceEqDiff]
  rfl
theorem lw_find (I : Inv L xs τ) (hi : i + 5 ≤ L) (hL : L ≤ 2560) : ∃ τ2, rb_lim (rb_stp (rb_R 11) rb_law) (32, [some (.ref 0), some (.ref 6), some (.ref 102), some (.int (nI i))], [.int 21], τ) = rb_lim (rb_stp (rb_R 11) rb_law) (863, [some (.ref 0), some (.ref 6), some (.ref 102), some (.int (nI i))], [], τ2) ∧ Inv L xs τ2 := by
  obtain ⟨r, τ1, τ2, e1, e2, i1, i2, z1, I2⟩ := sim_find I (x := xs (i + 1)) (y := xs (i + 2))
  have h0 := Inv_0 I
  have h1 := z1.trans h0
  have f1 : nI i + 1 = nI (i + 1) := by rw [lit_1, nI_add]
  have r1 : rb_in (nI (i + 1)) L = true := by rw [rb_in' (by omega)]; exact decide_eq_true (by omega)
  have k1 : (nI (i + 1)).toNatClampNeg = i + 1 := nI_cl (by omega)
  have f2 : nI i + 2 = nI (i + 2) := by rw [lit_2, nI_add]
  have r2 : rb_in (nI (i + 2)) L = true := by rw [rb_in' (by omega)]; exact decide_eq_true (by omega)
  have k2 : (nI (i + 2)).toNatClampNeg = i + 2 := nI_cl (by omega)
  refine ⟨τ2, ?_, I2⟩
  rw [rb_ls 863 9999 80]
  simp only [rb_gs_eq, rb_cs_go, rb_cs_end, rb_cs_ite, Nat.reduceAdd, Nat.zero_add, wr_at, wr_wr, true_and, and_true, and_self, true_or, or_true, false_or, or_false, ↓reduceIte, Nat.reduceLT, Nat.reduceLeDiff, Nat.reduceEqDiff, lg_cmp_ge, lg_cmp_le, lg_cmp_gt, lg_cmp_lt, lg_cmp_eq, Bool.false_eq_true, reduceCtorEq, mg_i, mg_l, decide_true, beq_self_eq_true, Nat.reduceBEq, st_law, dL_law_32, rb_jp, Int.cast_ofNat_Int, Int.reduceAdd, Int.reduceLE, Int.reduceToNat, Int.reduceNeg, rb_gs_eq, rb_cs_go, rb_cs_end, rb_cs_ite, Nat.reduceAdd, Nat.zero_add, wr_at, wr_wr, true_and, and_true, and_self, true_or, or_true, false_or, or_false, ↓reduceIte, Nat.reduceLT, Nat.reduceLeDiff, Nat.reduceEqDiff, lg_cmp_ge, lg_cmp_le, lg_cmp_gt, lg_cmp_lt, lg_cmp_eq, Bool.false_eq_true, reduceCtorEq, mg_i, mg_l, decide_true, beq_self_eq_true, Nat.reduceBEq, st_law, dL_law_761, xx_aloadn1, xx_aloadn1N, dL_law_762, xx_aloadn0, xx_aloadn0N, dL_law_763, xx_iloadn3, dL_law_764, xx_iconst, kc_1, dL_law_765, xx_iadd, dL_law_766, xx_iald, zz_yi, zz_yx, dL_law_767, dL_law_768, dL_law_769, kc_2, dL_law_770, dL_law_771, dL_law_772, xx_ivV, zz_c0, zz_c3, zz_c1, zz_c2, zz_c5, zz_c8, zz_c6, zz_R, List.length_cons, List.length_nil, List.take_succ_cons, List.take_zero, List.drop_succ_cons, List.drop_zero, List.reverse_cons, List.reverse_nil, List.nil_append, List.cons_append, rb_cat, List.map_cons, List.map_nil, List.sum_cons, List.sum_nil, Value.category, rb_isS, Option.toList_some, Option.toList_none, tv_10_102, dL_law_775, xx_aloadn2, xx_aloadn2N, dL_law_776, dL_law_777, dL_law_778, dL_law_779, dL_law_780, dL_law_781, dL_law_782, dL_law_783, dL_law_784, dL_law_785, dL_law_786, tv_10_105, dL_law_789, xx_iceq, rb_jp, Int.cast_ofNat_Int, Int.reduceAdd, Int.reduceLE, Int.reduceToNat, Int.reduceNeg, dL_law_792, kc_0, dL_law_793, xx_iret, xx_zret0, xx_zret1, swl_21, e1, e2, i1, i2, h0, h1, f1, r1, k1, f2, r2, k2, ne_eq, not_false_eq_true, Nat.reduceEqDiff]
  rfl
theorem lw_keep (I : Inv L xs τ) (hi : i + 5 ≤ L) (hL : L ≤ 2560) : ∃ τ2, rb_lim (rb_stp (rb_R 11) rb_law) (32, [some (.ref 0), some (.ref 6), some (.ref 102), some (.int (nI i))], [.int 22], τ) = rb_lim (rb_stp (rb_R 11) rb_law) (863, [some (.ref 0), some (.ref 6), some (.ref 102), some (.int (nI i))], [], τ2) ∧ Inv L xs τ2 := by
  obtain ⟨r, τ1, τ2, e1, e2, i1, i2, z1, I2⟩ := sim_keep I (x := xs (i + 1))
  have h0 := Inv_0 I
  have h1 := z1.trans h0
  have f1 : nI i + 1 = nI (i + 1) := by rw [lit_1, nI_add]
  have r1 : rb_in (nI (i + 1)) L = true := by rw [rb_in' (by omega)]; exact decide_eq_true (by omega)
  have k1 : (nI (i + 1)).toNatClampNeg = i + 1 := nI_cl (by omega)
  refine ⟨τ2, ?_, I2⟩
  rw [rb_ls 863 9999 80]
  simp only [rb_gs_eq, rb_cs_go, rb_cs_end, rb_cs_ite, Nat.reduceAdd, Nat.zero_add, wr_at, wr_wr, true_and, and_true, and_self, true_or, or_true, false_or, or_false, ↓reduceIte, Nat.reduceLT, Nat.reduceLeDiff, Nat.reduceEqDiff, lg_cmp_ge, lg_cmp_le, lg_cmp_gt, lg_cmp_lt, lg_cmp_eq, Bool.false_eq_true, reduceCtorEq, mg_i, mg_l, decide_true, beq_self_eq_true, Nat.reduceBEq, st_law, dL_law_32, rb_jp, Int.cast_ofNat_Int, Int.reduceAdd, Int.reduceLE, Int.reduceToNat, Int.reduceNeg, rb_gs_eq, rb_cs_go, rb_cs_end, rb_cs_ite, Nat.reduceAdd, Nat.zero_add, wr_at, wr_wr, true_and, and_true, and_self, true_or, or_true, false_or, or_false, ↓reduceIte, Nat.reduceLT, Nat.reduceLeDiff, Nat.reduceEqDiff, lg_cmp_ge, lg_cmp_le, lg_cmp_gt, lg_cmp_lt, lg_cmp_eq, Bool.false_eq_true, reduceCtorEq, mg_i, mg_l, decide_true, beq_self_eq_true, Nat.reduceBEq, st_law, dL_law_794, xx_aloadn1, xx_aloadn1N, dL_law_795, xx_aloadn0, xx_aloadn0N, dL_law_796, xx_iloadn3, dL_law_797, xx_iconst, kc_1, dL_law_798, xx_iadd, dL_law_799, xx_iald, zz_yi, zz_yx, dL_law_800, xx_ivV, zz_c0, zz_c3, zz_c1, zz_c2, zz_c5, zz_c8, zz_c6, zz_R, List.length_cons, List.length_nil, List.take_succ_cons, List.take_zero, List.drop_succ_cons, List.drop_zero, List.reverse_cons, List.reverse_nil, List.nil_append, List.cons_append, rb_cat, List.map_cons, List.map_nil, List.sum_cons, List.sum_nil, Value.category, rb_isS, Option.toList_some, Option.toList_none, tv_10_106, dL_law_803, xx_aloadn2, xx_aloadn2N, dL_law_804, dL_law_805, dL_law_806, dL_law_807, dL_law_808, dL_law_809, tv_10_109, dL_law_812, xx_iceq, rb_jp, Int.cast_ofNat_Int, Int.reduceAdd, Int.reduceLE, Int.reduceToNat, Int.reduceNeg, dL_law_815, kc_0, dL_law_816, xx_iret, xx_zret0, xx_zret1, swl_22, e1, e2, i1, i2, h0, h1, f1, r1, k1, ne_eq, not_false_eq_true, Nat.reduceEqDiff]
  rfl
theorem lw_back (I : Inv L xs τ) (hi : i + 5 ≤ L) (hL : L ≤ 2560) : ∃ τ2, rb_lim (rb_stp (rb_R 11) rb_law) (32, [some (.ref 0), some (.ref 6), some (.ref 102), some (.int (nI i))], [.int 23], τ) = rb_lim (rb_stp (rb_R 11) rb_law) (863, [some (.ref 0), some (.ref 6), some (.ref 102), some (.int (nI i))], [], τ2) ∧ Inv L xs τ2 := by
  obtain ⟨r, τ1, τ2, e1, e2, i1, i2, z1, I2⟩ := sim_back I (x := xs (i + 1))
  have h0 := Inv_0 I
  have h1 := z1.trans h0
  have f1 : nI i + 1 = nI (i + 1) := by rw [lit_1, nI_add]
  have r1 : rb_in (nI (i + 1)) L = true := by rw [rb_in' (by omega)]; exact decide_eq_true (by omega)
  have k1 : (nI (i + 1)).toNatClampNeg = i + 1 := nI_cl (by omega)
  refine ⟨τ2, ?_, I2⟩
  rw [rb_ls 863 9999 80]
  simp only [rb_gs_eq, rb_cs_go, rb_cs_end, rb_cs_ite, Nat.reduceAdd, Nat.zero_add, wr_at, wr_wr, true_and, and_true, and_self, true_or, or_true, false_or, or_false, ↓reduceIte, Nat.reduceLT, Nat.reduceLeDiff, Nat.reduceEqDiff, lg_cmp_ge, lg_cmp_le, lg_cmp_gt, lg_cmp_lt, lg_cmp_eq, Bool.false_eq_true, reduceCtorEq, mg_i, mg_l, decide_true, beq_self_eq_true, Nat.reduceBEq, st_law, dL_law_32, rb_jp, Int.cast_ofNat_Int, Int.reduceAdd, Int.reduceLE, Int.reduceToNat, Int.reduceNeg, rb_gs_eq, rb_cs_go, rb_cs_end, rb_cs_ite, Nat.reduceAdd, Nat.zero_add, wr_at, wr_wr, true_and, and_true, and_self, true_or, or_true, false_or, or_false, ↓reduceIte, Nat.reduceLT, Nat.reduceLeDiff, Nat.reduceEqDiff, lg_cmp_ge, lg_cmp_le, lg_cmp_gt, lg_cmp_lt, lg_cmp_eq, Bool.false_eq_true, reduceCtorEq, mg_i, mg_l, decide_true, beq_self_eq_true, Nat.reduceBEq, st_law, dL_law_817, xx_aloadn1, xx_aloadn1N, dL_law_818, xx_aloadn0, xx_aloadn0N, dL_law_819, xx_iloadn3, dL_law_820, xx_iconst, kc_1, dL_law_821, xx_iadd, dL_law_822, xx_iald, zz_yi, zz_yx, dL_law_823, xx_ivV, zz_c0, zz_c3, zz_c1, zz_c2, zz_c5, zz_c8, zz_c6, zz_R, List.length_cons, List.length_nil, List.take_succ_cons, List.take_zero, List.drop_succ_cons, List.drop_zero, List.reverse_cons, List.reverse_nil, List.nil_append, List.cons_append, rb_cat, List.map_cons, List.map_nil, List.sum_cons, List.sum_nil, Value.category, rb_isS, Option.toList_some, Option.toList_none, tv_10_110, dL_law_826, xx_aloadn2, xx_aloadn2N, dL_law_827, dL_law_828, dL_law_829, dL_law_830, dL_law_831, dL_law_832, tv_10_113, dL_law_835, xx_iceq, rb_jp, Int.cast_ofNat_Int, Int.reduceAdd, Int.reduceLE, Int.reduceToNat, Int.reduceNeg, dL_law_838, kc_0, dL_law_839, xx_iret, xx_zret0, xx_zret1, swl_23, e1, e2, i1, i2, h0, h1, f1, r1, k1, ne_eq, not_false_eq_true, Nat.reduceEqDiff]
  rfl
theorem lw_count (I : Inv L xs τ) (hi : i + 5 ≤ L) (hL : L ≤ 2560) : ∃ τ2, rb_lim (rb_stp (rb_R 11) rb_law) (32, [some (.ref 0), some (.ref 6), some (.ref 102), some (.int (nI i))], [.int 24], τ) = rb_lim (rb_stp (rb_R 11) rb_law) (863, [some (.ref 0), some (.ref 6), some (.ref 102), some (.int (nI i))], [], τ2) ∧ Inv L xs τ2 := by
  obtain ⟨r, τ1, τ2, e1, e2, i1, i2, z1, I2⟩ := sim_count I (x := xs (i + 1))
  have h0 := Inv_0 I
  have h1 := z1.trans h0
  have f1 : nI i + 1 = nI (i + 1) := by rw [lit_1, nI_add]
  have r1 : rb_in (nI (i + 1)) L = true := by rw [rb_in' (by omega)]; exact decide_eq_true (by omega)
  have k1 : (nI (i + 1)).toNatClampNeg = i + 1 := nI_cl (by omega)
  refine ⟨τ2, ?_, I2⟩
  rw [rb_ls 863 9999 80]
  simp only [rb_gs_eq, rb_cs_go, rb_cs_end, rb_cs_ite, Nat.reduceAdd, Nat.zero_add, wr_at, wr_wr, true_and, and_true, and_self, true_or, or_true, false_or, or_false, ↓reduceIte, Nat.reduceLT, Nat.reduceLeDiff, Nat.reduceEqDiff, lg_cmp_ge, lg_cmp_le, lg_cmp_gt, lg_cmp_lt, lg_cmp_eq, Bool.false_eq_true, reduceCtorEq, mg_i, mg_l, decide_true, beq_self_eq_true, Nat.reduceBEq, st_law, dL_law_32, rb_jp, Int.cast_ofNat_Int, Int.reduceAdd, Int.reduceLE, Int.reduceToNat, Int.reduceNeg, rb_gs_eq, rb_cs_go, rb_cs_end, rb_cs_ite, Nat.reduceAdd, Nat.zero_add, wr_at, wr_wr, true_and, and_true, and_self, true_or, or_true, false_or, or_false, ↓reduceIte, Nat.reduceLT, Nat.reduceLeDiff, Nat.reduceEqDiff, lg_cmp_ge, lg_cmp_le, lg_cmp_gt, lg_cmp_lt, lg_cmp_eq, Bool.false_eq_true, reduceCtorEq, mg_i, mg_l, decide_true, beq_self_eq_true, Nat.reduceBEq, st_law, dL_law_840, xx_aloadn1, xx_aloadn1N, dL_law_841, xx_aloadn0, xx_aloadn0N, dL_law_842, xx_iloadn3, dL_law_843, xx_iconst, kc_1, dL_law_844, xx_iadd, dL_law_845, xx_iald, zz_yi, zz_yx, dL_law_846, xx_ivV, zz_c0, zz_c3, zz_c1, zz_c2, zz_c5, zz_c8, zz_c6, zz_R, List.length_cons, List.length_nil, List.take_succ_cons, List.take_zero, List.drop_succ_cons, List.drop_zero, List.reverse_cons, List.reverse_nil, List.nil_append, List.cons_append, rb_cat, List.map_cons, List.map_nil, List.sum_cons, List.sum_nil, Value.category, rb_isS, Option.toList_some, Option.toList_none, tv_10_114, dL_law_849, xx_aloadn2, xx_aloadn2N, dL_law_850, dL_law_851, dL_law_852, dL_law_853, dL_law_854, dL_law_855, tv_10_117, dL_law_858, xx_iceq, rb_jp, Int.cast_ofNat_Int, Int.reduceAdd, Int.reduceLE, Int.reduceToNat, Int.reduceNeg, dL_law_861, kc_0, dL_law_862, xx_iret, xx_zret0, xx_zret1, swl_24, e1, e2, i1, i2, h0, h1, f1, r1, k1, ne_eq, not_false_eq_true, Nat.reduceEqDiff]
  rfl
theorem lw_head (I : Inv L xs τ) (hi : i + 5 ≤ L) (hL : L ≤ 2560) : rb_lim (rb_stp (rb_R 11) rb_law) (18, [some (.ref 0), some (.ref 6), some (.ref 102), some (.int (nI i))], [], τ) = rb_lim (rb_stp (rb_R 11) rb_law) (32, [some (.ref 0), some (.ref 6), some (.ref 102), some (.int (nI i))], [.int (xs i &&& 31)], τ) := by
  have h0 := Inv_0 I
  have g1 : ¬ nI L - 5 < nI i := by
    rw [lit_5, nI_sub' (by omega), nI_lt' (by omega) (by omega)]; omega
  have r1 : rb_in (nI i) L = true := by rw [rb_in' (by omega)]; exact decide_eq_true (by omega)
  have k1 : (nI i).toNatClampNeg = i := nI_cl (by omega)
  rw [rb_ls 32 9999 60]
  simp only [rb_gs_eq, rb_cs_go, rb_cs_end, rb_cs_ite, Nat.reduceAdd, Nat.zero_add, wr_at, wr_wr, true_and, and_true, and_self, true_or, or_true, false_or, or_false, ↓reduceIte, Nat.reduceLT, Nat.reduceLeDiff, Nat.reduceEqDiff, lg_cmp_ge, lg_cmp_le, lg_cmp_gt, lg_cmp_lt, lg_cmp_eq, Bool.false_eq_true, reduceCtorEq, mg_i, mg_l, decide_true, beq_self_eq_true, Nat.reduceBEq, st_law, dL_law_18, xx_iloadn3, dL_law_19, xx_aloadn0, xx_aloadn0N, dL_law_20, xx_alen, zz_vi, zz_va, dL_law_21, xx_iconst, kc_5, dL_law_22, xx_isub, dL_law_23, xx_icgt, rb_jp, Int.cast_ofNat_Int, Int.reduceAdd, Int.reduceLE, Int.reduceToNat, Int.reduceNeg, dL_law_26, dL_law_27, dL_law_28, xx_iald, zz_yi, zz_yx, dL_law_29, xx_bipush, kb_31, dL_law_31, xx_iand, h0, nI_ofn, g1, r1, k1, ne_eq, not_false_eq_true, Nat.reduceEqDiff]
  rfl
theorem lw_exit (I : Inv L xs τ) (hi : L < i + 5) (hi2 : i ≤ 3000) (hL : L ≤ 2560) : rb_lim (rb_stp (rb_R 11) rb_law) (18, [some (.ref 0), some (.ref 6), some (.ref 102), some (.int (nI i))], [], τ) = some (some (.int 1), τ) := by
  have h0 := Inv_0 I
  have g1 : nI L - 5 < nI i := by
    have z5 : (5 : Int32).toInt = 5 := rfl
    have zL : (nI L).toInt = L := i_nI (by omega)
    have zi : (nI i).toInt = i := i_nI (by omega)
    rw [i_lt, i_sub (by omega) (by omega)]
    omega
  rw [rb_ls 9998 9999 60]
  simp only [rb_gs_eq, rb_cs_go, rb_cs_end, rb_cs_ite, Nat.reduceAdd, Nat.zero_add, wr_at, wr_wr, true_and, and_true, and_self, true_or, or_true, false_or, or_false, ↓reduceIte, Nat.reduceLT, Nat.reduceLeDiff, Nat.reduceEqDiff, lg_cmp_ge, lg_cmp_le, lg_cmp_gt, lg_cmp_lt, lg_cmp_eq, Bool.false_eq_true, reduceCtorEq, mg_i, mg_l, decide_true, beq_self_eq_true, Nat.reduceBEq, st_law, dL_law_18, xx_iloadn3, dL_law_19, xx_aloadn0, xx_aloadn0N, dL_law_20, xx_alen, zz_vi, zz_va, dL_law_21, xx_iconst, kc_5, dL_law_22, xx_isub, dL_law_23, xx_icgt, rb_jp, Int.cast_ofNat_Int, Int.reduceAdd, Int.reduceLE, Int.reduceToNat, Int.reduceNeg, dL_law_26, dL_law_27, dL_law_28, xx_iald, zz_yi, zz_yx, dL_law_29, xx_bipush, kb_31, dL_law_31, xx_iand, rb_gs_eq, rb_cs_go, rb_cs_end, rb_cs_ite, Nat.reduceAdd, Nat.zero_add, wr_at, wr_wr, true_and, and_true, and_self, true_or, or_true, false_or, or_false, ↓reduceIte, Nat.reduceLT, Nat.reduceLeDiff, Nat.reduceEqDiff, lg_cmp_ge, lg_cmp_le, lg_cmp_gt, lg_cmp_lt, lg_cmp_eq, Bool.false_eq_true, reduceCtorEq, mg_i, mg_l, decide_true, beq_self_eq_true, Nat.reduceBEq, st_law, dL_law_863, xx_iinc3, kc_5, zz_invi, zz_invr, zz_invz, zz_invn, zz_invl, dL_law_866, xx_goto, rb_jp, Int.cast_ofNat_Int, Int.reduceAdd, Int.reduceLE, Int.reduceToNat, Int.reduceNeg, dL_law_869, xx_iconst, kc_1, dL_law_870, xx_iret, xx_zret0, xx_zret1, h0, nI_ofn, g1, ne_eq, not_false_eq_true, Nat.reduceEqDiff]
theorem lw_tail : rb_lim (rb_stp (rb_R 11) rb_law) (863, [some (.ref 0), some (.ref 6), some (.ref 102), some (.int (nI i))], [], τ) = rb_lim (rb_stp (rb_R 11) rb_law) (18, [some (.ref 0), some (.ref 6), some (.ref 102), some (.int (nI (i + 5)))], [], τ) := by
  have f1 : nI i + 5 = nI (i + 5) := by rw [lit_5, nI_add]
  rw [rb_ls 18 9999 60]
  simp only [rb_gs_eq, rb_cs_go, rb_cs_end, rb_cs_ite, Nat.reduceAdd, Nat.zero_add, wr_at, wr_wr, true_and, and_true, and_self, true_or, or_true, false_or, or_false, ↓reduceIte, Nat.reduceLT, Nat.reduceLeDiff, Nat.reduceEqDiff, lg_cmp_ge, lg_cmp_le, lg_cmp_gt, lg_cmp_lt, lg_cmp_eq, Bool.false_eq_true, reduceCtorEq, mg_i, mg_l, decide_true, beq_self_eq_true, Nat.reduceBEq, st_law, dL_law_863, xx_iinc3, kc_5, zz_invi, zz_invr, zz_invz, zz_invn, zz_invl, dL_law_866, xx_goto, rb_jp, Int.cast_ofNat_Int, Int.reduceAdd, Int.reduceLE, Int.reduceToNat, Int.reduceNeg, f1, ne_eq, not_false_eq_true, Nat.reduceEqDiff]
  rfl
theorem lw_one (I : Inv L xs τ) (hi : i + 5 ≤ L) (hL : L ≤ 2560) : ∃ τ2, rb_lim (rb_stp (rb_R 11) rb_law) (18, [some (.ref 0), some (.ref 6), some (.ref 102), some (.int (nI i))], [], τ) = rb_lim (rb_stp (rb_R 11) rb_law) (18, [some (.ref 0), some (.ref 6), some (.ref 102), some (.int (nI (i + 5)))], [], τ2) ∧ Inv L xs τ2 := by
  rw [lw_head I hi hL]
  rcases c25 (xs i &&& 31) with c | c | c | c | c | c | c | c | c | c | c | c | c | c | c | c | c | c | c | c | c | c | c | c | c | c
  · refine ⟨τ, ?_, I⟩
    rw [← lw_tail, rb_ls 863 9999 60]
    simp only [rb_gs_eq, rb_cs_go, rb_cs_end, rb_cs_ite, Nat.reduceAdd, Nat.zero_add, wr_at, wr_wr, true_and, and_true, and_self, true_or, or_true, false_or, or_false, ↓reduceIte, Nat.reduceLT, Nat.reduceLeDiff, Nat.reduceEqDiff, lg_cmp_ge, lg_cmp_le, lg_cmp_gt, lg_cmp_lt, lg_cmp_eq, Bool.false_eq_true, reduceCtorEq, mg_i, mg_l, decide_true, beq_self_eq_true, Nat.reduceBEq, st_law, dL_law_32, rb_jp, Int.cast_ofNat_Int, Int.reduceAdd, Int.reduceLE, Int.reduceToNat, Int.reduceNeg, swl_O c, ne_eq, not_false_eq_true, Nat.reduceEqDiff]
    rfl
  · rw [c]
    obtain ⟨τ2, e, I2⟩ := lw_write I hi hL
    exact ⟨τ2, e.trans lw_tail, I2⟩
  · rw [c]
    obtain ⟨τ2, e, I2⟩ := lw_erase I hi hL
    exact ⟨τ2, e.trans lw_tail, I2⟩
  · rw [c]
    obtain ⟨τ2, e, I2⟩ := lw_fault I hi hL
    exact ⟨τ2, e.trans lw_tail, I2⟩
  · rw [c]
    obtain ⟨τ2, e, I2⟩ := lw_tell I hi hL
    exact ⟨τ2, e.trans lw_tail, I2⟩
  · rw [c]
    obtain ⟨τ2, e, I2⟩ := lw_put I hi hL
    exact ⟨τ2, e.trans lw_tail, I2⟩
  · rw [c]
    obtain ⟨τ2, e, I2⟩ := lw_term I hi hL
    exact ⟨τ2, e.trans lw_tail, I2⟩
  · rw [c]
    obtain ⟨τ2, e, I2⟩ := lw_sign I hi hL
    exact ⟨τ2, e.trans lw_tail, I2⟩
  · rw [c]
    obtain ⟨τ2, e, I2⟩ := lw_hold I hi hL
    exact ⟨τ2, e.trans lw_tail, I2⟩
  · rw [c]
    obtain ⟨τ2, e, I2⟩ := lw_value I hi hL
    exact ⟨τ2, e.trans lw_tail, I2⟩
  · rw [c]
    obtain ⟨τ2, e, I2⟩ := lw_slope I hi hL
    exact ⟨τ2, e.trans lw_tail, I2⟩
  · rw [c]
    obtain ⟨τ2, e, I2⟩ := lw_fence I hi hL
    exact ⟨τ2, e.trans lw_tail, I2⟩
  · rw [c]
    obtain ⟨τ2, e, I2⟩ := lw_verdict I hi hL
    exact ⟨τ2, e.trans lw_tail, I2⟩
  · rw [c]
    obtain ⟨τ2, e, I2⟩ := lw_begin I hi hL
    exact ⟨τ2, e.trans lw_tail, I2⟩
  · rw [c]
    obtain ⟨τ2, e, I2⟩ := lw_least I hi hL
    exact ⟨τ2, e.trans lw_tail, I2⟩
  · rw [c]
    obtain ⟨τ2, e, I2⟩ := lw_step I hi hL
    exact ⟨τ2, e.trans lw_tail, I2⟩
  · rw [c]
    obtain ⟨τ2, e, I2⟩ := lw_steps I hi hL
    exact ⟨τ2, e.trans lw_tail, I2⟩
  · rw [c]
    obtain ⟨τ2, e, I2⟩ := lw_first I hi hL
    exact ⟨τ2, e.trans lw_tail, I2⟩
  · rw [c]
    obtain ⟨τ2, e, I2⟩ := lw_solved I hi hL
    exact ⟨τ2, e.trans lw_tail, I2⟩
  · rw [c]
    obtain ⟨τ2, e, I2⟩ := lw_doubtful I hi hL
    exact ⟨τ2, e.trans lw_tail, I2⟩
  · rw [c]
    obtain ⟨τ2, e, I2⟩ := lw_entry I hi hL
    exact ⟨τ2, e.trans lw_tail, I2⟩
  · rw [c]
    obtain ⟨τ2, e, I2⟩ := lw_broken I hi hL
    exact ⟨τ2, e.trans lw_tail, I2⟩
  · rw [c]
    obtain ⟨τ2, e, I2⟩ := lw_find I hi hL
    exact ⟨τ2, e.trans lw_tail, I2⟩
  · rw [c]
    obtain ⟨τ2, e, I2⟩ := lw_keep I hi hL
    exact ⟨τ2, e.trans lw_tail, I2⟩
  · rw [c]
    obtain ⟨τ2, e, I2⟩ := lw_back I hi hL
    exact ⟨τ2, e.trans lw_tail, I2⟩
  · rw [c]
    obtain ⟨τ2, e, I2⟩ := lw_count I hi hL
    exact ⟨τ2, e.trans lw_tail, I2⟩
theorem lw_loop (hL : L ≤ 2560) : ∀ (r i : Nat) (τ : rb_S), L < i + 5 * r + 5 → i ≤ 3000 → Inv L xs τ → ∃ σ', rb_lim (rb_stp (rb_R 11) rb_law) (18, [some (.ref 0), some (.ref 6), some (.ref 102), some (.int (nI i))], [], τ) = some (some (.int 1), σ') ∧ Inv L xs σ' := by
  intro r
  induction r with
  | zero =>
    intro i τ h1 h2 I
    exact ⟨τ, lw_exit I (by omega) h2 hL, I⟩
  | succ r ih =>
    intro i τ h1 h2 I
    by_cases c : L < i + 5
    · exact ⟨τ, lw_exit I c h2 hL, I⟩
    · obtain ⟨τ2, e, I2⟩ := lw_one (i := i) I (by omega) hL
      obtain ⟨σ', e2, I3⟩ := ih (i + 5) τ2 (by omega) (by omega) I2
      exact ⟨σ', e.trans e2, I3⟩
end
