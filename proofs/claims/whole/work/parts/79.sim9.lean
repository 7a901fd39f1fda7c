/-! ===== write, erase, hold ===== -/
abbrev cO : va_E := .inr (8, [.ref 7, .ref 9, .ref 12, .ref 85, .ref 99, .ref 100])
theorem CI_upd {τ τ' : rb_S} {tn tn' : Nat} {tg tg' : Nat → Int32} {hn hn' : Nat} {hg hg' : Nat → Int32} {P : sP} {l : Int32} {K : sK} {kf : Nat → Option Nat} (h : CI τ tn tg hn hg P l K kf) (hf : ∀ k, ¬ (7 ≤ k ∧ k ≤ 11) → ¬ (100 ≤ k ∧ k ≤ 113) → τ'.1 k = τ.1 k) (h2 : τ'.2 = τ.2) (h7 : τ'.1 7 = some (.inr (7, [.ref 8, .int (nI tn')]))) (h8 : τ'.1 8 = some (.inl (0, 200, .inl tg'))) (hr : ∃ (kd nb : Nat → Int32) (c t s e : Int32), τ'.1 9 = some (.inr (4, [.ref 7, .ref 10, .ref 11, .int c, .int t, .int s, .int e])) ∧ τ'.1 10 = some (.inl (0, 24, .inl kd)) ∧ τ'.1 11 = some (.inl (0, 96, .inl nb))) (h100 : τ'.1 100 = some (brw 101 (nI 1) (nI hn'))) (h101 : τ'.1 101 = some (.inl (0, 4 * 1, .inl hg'))) (ht : tn' ≤ 200 ∧ ∀ k, k < tn' → ¬ tg' k < 0) (hh : hn' ≤ 1) : CI τ' tn' tg' hn' hg' P l K kf := by
  obtain ⟨⟨⟨j1, ⟨c1, c2, gf, c3, c4⟩, ⟨d1, d2, gf2, d3, d4⟩⟩, b6, b7, b8, b9, b99, b100, b101⟩, hS, ⟨Z, hZ⟩, hK, hD, r1, r2, r3, r4, r5⟩ := h
  refine ⟨⟨⟨?_, ⟨c1, ?_, gf, ?_, c4⟩, ⟨d1, ?_, gf2, ?_, d4⟩⟩, ?_, h7, h8, hr, ?_, h100, h101⟩, fun o ho => ?_, ⟨Z, fun k hk => ?_⟩, fun k hk => ?_, hD, ht, hh, by rw [h2]; exact r3, by rw [h2]; exact r4, by rw [h2]; exact r5⟩
  · rw [hf 12 (by omega) (by omega)]; exact j1
  · rw [hf 15 (by omega) (by omega)]; exact c2
  · rw [hf 16 (by omega) (by omega)]; exact c3
  · rw [hf 44 (by omega) (by omega)]; exact d2
  · rw [hf 45 (by omega) (by omega)]; exact d3
  · rw [hf 6 (by omega) (by omega)]; exact b6
  · rw [hf 99 (by omega) (by omega)]; exact b99
  · rw [hf (85 + o) (by omega) (by omega)]; exact hS o ho
  · rw [hf k (by omega) (by omega)]; exact hZ k hk
  · rcases hK k hk with hh | ⟨B, Q, m, q1, q2, q3, q4, q5⟩
    · exact Or.inl hh
    · exact Or.inr ⟨B, Q, m, q1, q2, fun o ho => by rw [hf (B + o) (by omega) (by omega)]; exact q3 o ho, q4, by rw [h2]; exact q5⟩
theorem MB_upd {τ τ' : rb_S} {ih lt ra tl fa ds ih' lt' ra' tl' fa' ds' : Int32} {st kp ik hd tx st' hd' tx' : Nat → Int32} (h : MB τ ih lt ra tl fa ds st kp ik hd tx) (hf : ∀ k, 104 ≤ k → k ≤ 112 → k ≠ 106 → τ'.1 k = τ.1 k) (h102 : τ'.1 102 = some (mo ih' lt' ra' tl' fa' ds')) (h103 : τ'.1 103 = some (.inl (0, 2911, .inl st'))) (h106 : τ'.1 106 = some (.inl (0, 4, .inl hd'))) (h113 : τ'.1 113 = some (.inl (0, 200, .inl tx'))) : MB τ' ih' lt' ra' tl' fa' ds' st' kp ik hd' tx' := by
  obtain ⟨a1, a2, a3, a4, a5, a6, W, bx, a7, a8⟩ := h
  refine ⟨h102, h103, ?_, ?_, h106, h113, W, bx, fun a ha => ?_, ?_⟩
  · rw [hf 104 (by omega) (by omega) (by omega)]; exact a3
  · rw [hf 105 (by omega) (by omega) (by omega)]; exact a4
  · rw [hf a (by omega) (by omega) (by omega)]; exact a7 a ha
  · rw [hf 111 (by omega) (by omega) (by omega)]; exact a8
section
variable {d : Nat} {σ τ : rb_S} {L : Nat} {xs : Nat → Int32}
theorem sim_write (I : Inv L xs τ) {x : Int32} : SimOK 101 192 [.int x] L xs τ := by
  obtain ⟨tn, tg, hn, hg, P, l, K, kf, ra, tl, fa, ds, st, kp, ik, hd, hC, hM, hR, hK, hH, h0⟩ := id I
  obtain ⟨hJ, h6, h7, h8, hrd, h99, h100, h101⟩ := id hC.1
  obtain ⟨a1, a2, a3, a4, a5, a6, W, bx, a7, a8⟩ := id hM
  have ht : tn ≤ 200 := hC.2.2.2.2.2.1.1
  have one0 : ((1 : Int32) = 0) = False := eq_false (by decide)
  by_cases x0 : x < 0
  · refine ⟨-1000000003, τ, τ, ?_, ?_, isR_of h6, isR_of a1, rfl, I⟩
    · rw [en_101 (k := 60) (ls := [some (.ref 6), some (.int x)]) rfl]
      simp only [rb_gg_eq, rb_ct_go, rb_ct_end, rb_ct_ite, Nat.reduceAdd, Nat.zero_add, wr_at, wr_wr, true_and, and_true, and_self, true_or, or_true, false_or, or_false, ↓reduceIte, Nat.reduceLT, Nat.reduceLeDiff, Nat.reduceEqDiff, lg_cmp_ge, lg_cmp_le, lg_cmp_gt, lg_cmp_lt, lg_cmp_eq, Bool.false_eq_true, reduceCtorEq, mg_i, mg_l, decide_true, beq_self_eq_true, Nat.reduceBEq, st_101, dX8_write_0, xx_iloadn1, dX8_write_1, xx_iflt, rb_jp, Int.cast_ofNat_Int, Int.reduceAdd, Int.reduceLE, Int.reduceToNat, Int.reduceNeg, dX8_write_4, dX8_write_5, xx_sipush, ks_255, dX8_write_8, xx_icle, dX8_write_11, xx_ldc, zz_I, zz_S, ti_8_52, dX8_write_13, xx_iret, xx_zret0, xx_zret1, dX8_write_14, xx_aloadn0, xx_aloadn0N, dX8_write_15, xx_getf, zz_f, zz_g, zz_v, List.getElem?_cons_zero, List.getElem?_cons_succ, tf_8_12, dX8_write_18, dX8_write_19, xx_ivV, zz_c0, zz_c3, zz_c1, zz_c2, zz_c5, zz_c8, zz_c6, zz_R, List.length_cons, List.length_nil, List.take_succ_cons, List.take_zero, List.drop_succ_cons, List.drop_zero, List.reverse_cons, List.reverse_nil, List.nil_append, List.cons_append, rb_cat, List.map_cons, List.map_nil, List.sum_cons, List.sum_nil, Value.category, rb_isR, rb_isS, Option.toList_some, Option.toList_none, tv_8_53, dX8_write_22, xx_ifeq, dX8_write_25, dX8_write_26, dX8_write_29, tv_8_57, dX8_write_32, xx_goto, dX8_write_35, ti_8_61, dX8_write_37, x0]
    · rw [en_192 (k := 60) (ls := [some (.ref 102), some (.int x)]) rfl]
      simp only [rb_gg_eq, rb_ct_go, rb_ct_end, rb_ct_ite, Nat.reduceAdd, Nat.zero_add, wr_at, wr_wr, true_and, and_true, and_self, true_or, or_true, false_or, or_false, ↓reduceIte, Nat.reduceLT, Nat.reduceLeDiff, Nat.reduceEqDiff, lg_cmp_ge, lg_cmp_le, lg_cmp_gt, lg_cmp_lt, lg_cmp_eq, Bool.false_eq_true, reduceCtorEq, mg_i, mg_l, decide_true, beq_self_eq_true, Nat.reduceBEq, st_192, dX9_write_0, xx_iloadn1, dX9_write_1, xx_iconst, kc_0, dX9_write_2, xx_sipush, ks_255, dX9_write_5, xx_ivS, zz_c0, zz_c3, zz_c1, zz_c2, zz_c5, zz_c8, zz_c6, zz_R, List.length_cons, List.length_nil, List.take_succ_cons, List.take_zero, List.drop_succ_cons, List.drop_zero, List.reverse_cons, List.reverse_nil, List.nil_append, List.cons_append, rb_cat, List.map_cons, List.map_nil, List.sum_cons, List.sum_nil, Value.category, rb_isR, rb_isS, Option.toList_some, Option.toList_none, tv_9_116, dX9_write_8, xx_ifne, rb_jp, Int.cast_ofNat_Int, Int.reduceAdd, Int.reduceLE, Int.reduceToNat, Int.reduceNeg, dX9_write_11, xx_ldc, zz_I, zz_S, ti_9_125, dX9_write_13, xx_iret, xx_zret0, xx_zret1, dX9_write_14, xx_aloadn0, xx_aloadn0N, dX9_write_15, xx_getf, zz_f, zz_g, zz_v, List.getElem?_cons_zero, List.getElem?_cons_succ, tf_9_205, dX9_write_18, ks_200, dX9_write_21, xx_icne, dX9_write_24, ti_9_181, dX9_write_26, dX9_write_27, dX9_write_28, tf_9_41, dX9_write_31, dX9_write_32, dX9_write_35, dX9_write_36, xx_iast, zz_wi, dX9_write_37, dX9_write_38, xx_dupi, xx_dupr, xx_dupz, dX9_write_39, dX9_write_42, kc_1, dX9_write_43, xx_iadd, dX9_write_44, xx_putf, zz_q, zz_p, zz_ti, zz_tl, zz_t0, zz_t1, zz_to, zz_ta, List.set_cons_zero, List.set_cons_succ, dX9_write_47, dX9_write_48, dX9_write_51, p_in, x0]
  by_cases x1 : 255 < x
  · have x1' : ¬ x ≤ 255 := Int32.not_le.mpr x1
    refine ⟨-1000000003, τ, τ, ?_, ?_, isR_of h6, isR_of a1, rfl, I⟩
    · rw [en_101 (k := 60) (ls := [some (.ref 6), some (.int x)]) rfl]
      simp only [rb_gg_eq, rb_ct_go, rb_ct_end, rb_ct_ite, Nat.reduceAdd, Nat.zero_add, wr_at, wr_wr, true_and, and_true, and_self, true_or, or_true, false_or, or_false, ↓reduceIte, Nat.reduceLT, Nat.reduceLeDiff, Nat.reduceEqDiff, lg_cmp_ge, lg_cmp_le, lg_cmp_gt, lg_cmp_lt, lg_cmp_eq, Bool.false_eq_true, reduceCtorEq, mg_i, mg_l, decide_true, beq_self_eq_true, Nat.reduceBEq, st_101, dX8_write_0, xx_iloadn1, dX8_write_1, xx_iflt, rb_jp, Int.cast_ofNat_Int, Int.reduceAdd, Int.reduceLE, Int.reduceToNat, Int.reduceNeg, dX8_write_4, dX8_write_5, xx_sipush, ks_255, dX8_write_8, xx_icle, dX8_write_11, xx_ldc, zz_I, zz_S, ti_8_52, dX8_write_13, xx_iret, xx_zret0, xx_zret1, dX8_write_14, xx_aloadn0, xx_aloadn0N, dX8_write_15, xx_getf, zz_f, zz_g, zz_v, List.getElem?_cons_zero, List.getElem?_cons_succ, tf_8_12, dX8_write_18, dX8_write_19, xx_ivV, zz_c0, zz_c3, zz_c1, zz_c2, zz_c5, zz_c8, zz_c6, zz_R, List.length_cons, List.length_nil, List.take_succ_cons, List.take_zero, List.drop_succ_cons, List.drop_zero, List.reverse_cons, List.reverse_nil, List.nil_append, List.cons_append, rb_cat, List.map_cons, List.map_nil, List.sum_cons, List.sum_nil, Value.category, rb_isR, rb_isS, Option.toList_some, Option.toList_none, tv_8_53, dX8_write_22, xx_ifeq, dX8_write_25, dX8_write_26, dX8_write_29, tv_8_57, dX8_write_32, xx_goto, dX8_write_35, ti_8_61, dX8_write_37, x0, x1']
    · rw [en_192 (k := 60) (ls := [some (.ref 102), some (.int x)]) rfl]
      simp only [rb_gg_eq, rb_ct_go, rb_ct_end, rb_ct_ite, Nat.reduceAdd, Nat.zero_add, wr_at, wr_wr, true_and, and_true, and_self, true_or, or_true, false_or, or_false, ↓reduceIte, Nat.reduceLT, Nat.reduceLeDiff, Nat.reduceEqDiff, lg_cmp_ge, lg_cmp_le, lg_cmp_gt, lg_cmp_lt, lg_cmp_eq, Bool.false_eq_true, reduceCtorEq, mg_i, mg_l, decide_true, beq_self_eq_true, Nat.reduceBEq, st_192, dX9_write_0, xx_iloadn1, dX9_write_1, xx_iconst, kc_0, dX9_write_2, xx_sipush, ks_255, dX9_write_5, xx_ivS, zz_c0, zz_c3, zz_c1, zz_c2, zz_c5, zz_c8, zz_c6, zz_R, List.length_cons, List.length_nil, List.take_succ_cons, List.take_zero, List.drop_succ_cons, List.drop_zero, List.reverse_cons, List.reverse_nil, List.nil_append, List.cons_append, rb_cat, List.map_cons, List.map_nil, List.sum_cons, List.sum_nil, Value.category, rb_isR, rb_isS, Option.toList_some, Option.toList_none, tv_9_116, dX9_write_8, xx_ifne, rb_jp, Int.cast_ofNat_Int, Int.reduceAdd, Int.reduceLE, Int.reduceToNat, Int.reduceNeg, dX9_write_11, xx_ldc, zz_I, zz_S, ti_9_125, dX9_write_13, xx_iret, xx_zret0, xx_zret1, dX9_write_14, xx_aloadn0, xx_aloadn0N, dX9_write_15, xx_getf, zz_f, zz_g, zz_v, List.getElem?_cons_zero, List.getElem?_cons_succ, tf_9_205, dX9_write_18, ks_200, dX9_write_21, xx_icne, dX9_write_24, ti_9_181, dX9_write_26, dX9_write_27, dX9_write_28, tf_9_41, dX9_write_31, dX9_write_32, dX9_write_35, dX9_write_36, xx_iast, zz_wi, dX9_write_37, dX9_write_38, xx_dupi, xx_dupr, xx_dupz, dX9_write_39, dX9_write_42, kc_1, dX9_write_43, xx_iadd, dX9_write_44, xx_putf, zz_q, zz_p, zz_ti, zz_tl, zz_t0, zz_t1, zz_to, zz_ta, List.set_cons_zero, List.set_cons_succ, dX9_write_47, dX9_write_48, dX9_write_51, p_in, x0, x1]
  have x1' : x ≤ 255 := Int32.not_lt.mp x1
  by_cases hf : tn = 200
  · subst hf
    have e1 := q_taddF (d := 9) (x := x) h7 h8
    refine ⟨-1000000005, τ, τ, ?_, ?_, isR_of h6, isR_of a1, rfl, I⟩
    · rw [en_101 (k := 60) (ls := [some (.ref 6), some (.int x)]) rfl]
      simp only [rb_gg_eq, rb_ct_go, rb_ct_end, rb_ct_ite, Nat.reduceAdd, Nat.zero_add, wr_at, wr_wr, true_and, and_true, and_self, true_or, or_true, false_or, or_false, ↓reduceIte, Nat.reduceLT, Nat.reduceLeDiff, Nat.reduceEqDiff, lg_cmp_ge, lg_cmp_le, lg_cmp_gt, lg_cmp_lt, lg_cmp_eq, Bool.false_eq_true, reduceCtorEq, mg_i, mg_l, decide_true, beq_self_eq_true, Nat.reduceBEq, st_101, dX8_write_0, xx_iloadn1, dX8_write_1, xx_iflt, rb_jp, Int.cast_ofNat_Int, Int.reduceAdd, Int.reduceLE, Int.reduceToNat, Int.reduceNeg, dX8_write_4, dX8_write_5, xx_sipush, ks_255, dX8_write_8, xx_icle, dX8_write_11, xx_ldc, zz_I, zz_S, ti_8_52, dX8_write_13, xx_iret, xx_zret0, xx_zret1, dX8_write_14, xx_aloadn0, xx_aloadn0N, dX8_write_15, xx_getf, zz_f, zz_g, zz_v, List.getElem?_cons_zero, List.getElem?_cons_succ, tf_8_12, dX8_write_18, dX8_write_19, xx_ivV, zz_c0, zz_c3, zz_c1, zz_c2, zz_c5, zz_c8, zz_c6, zz_R, List.length_cons, List.length_nil, List.take_succ_cons, List.take_zero, List.drop_succ_cons, List.drop_zero, List.reverse_cons, List.reverse_nil, List.nil_append, List.cons_append, rb_cat, List.map_cons, List.map_nil, List.sum_cons, List.sum_nil, Value.category, rb_isR, rb_isS, Option.toList_some, Option.toList_none, tv_8_53, dX8_write_22, xx_ifeq, dX8_write_25, dX8_write_26, dX8_write_29, tv_8_57, dX8_write_32, xx_goto, dX8_write_35, ti_8_61, dX8_write_37, x0, x1', h6, h7, e1]
    · have g1 : (nI 200 : Int32) = 200 := rfl
      rw [en_192 (k := 60) (ls := [some (.ref 102), some (.int x)]) rfl]
      simp only [rb_gg_eq, rb_ct_go, rb_ct_end, rb_ct_ite, Nat.reduceAdd, Nat.zero_add, wr_at, wr_wr, true_and, and_true, and_self, true_or, or_true, false_or, or_false, ↓reduceIte, Nat.reduceLT, Nat.reduceLeDiff, Nat.reduceEqDiff, lg_cmp_ge, lg_cmp_le, lg_cmp_gt, lg_cmp_lt, lg_cmp_eq, Bool.false_eq_true, reduceCtorEq, mg_i, mg_l, decide_true, beq_self_eq_true, Nat.reduceBEq, st_192, dX9_write_0, xx_iloadn1, dX9_write_1, xx_iconst, kc_0, dX9_write_2, xx_sipush, ks_255, dX9_write_5, xx_ivS, zz_c0, zz_c3, zz_c1, zz_c2, zz_c5, zz_c8, zz_c6, zz_R, List.length_cons, List.length_nil, List.take_succ_cons, List.take_zero, List.drop_succ_cons, List.drop_zero, List.reverse_cons, List.reverse_nil, List.nil_append, List.cons_append, rb_cat, List.map_cons, List.map_nil, List.sum_cons, List.sum_nil, Value.category, rb_isR, rb_isS, Option.toList_some, Option.toList_none, tv_9_116, dX9_write_8, xx_ifne, rb_jp, Int.cast_ofNat_Int, Int.reduceAdd, Int.reduceLE, Int.reduceToNat, Int.reduceNeg, dX9_write_11, xx_ldc, zz_I, zz_S, ti_9_125, dX9_write_13, xx_iret, xx_zret0, xx_zret1, dX9_write_14, xx_aloadn0, xx_aloadn0N, dX9_write_15, xx_getf, zz_f, zz_g, zz_v, List.getElem?_cons_zero, List.getElem?_cons_succ, tf_9_205, dX9_write_18, ks_200, dX9_write_21, xx_icne, dX9_write_24, ti_9_181, dX9_write_26, dX9_write_27, dX9_write_28, tf_9_41, dX9_write_31, dX9_write_32, dX9_write_35, dX9_write_36, xx_iast, zz_wi, dX9_write_37, dX9_write_38, xx_dupi, xx_dupr, xx_dupz, dX9_write_39, dX9_write_42, kc_1, dX9_write_43, xx_iadd, dX9_write_44, xx_putf, zz_q, zz_p, zz_ti, zz_tl, zz_t0, zz_t1, zz_to, zz_ta, List.set_cons_zero, List.set_cons_succ, dX9_write_47, dX9_write_48, dX9_write_51, p_in, x0, x1, one0, a1, g1]
  · obtain ⟨σ1, hσ1⟩ : ∃ s, s = rb_wr (rb_wr τ 8 (.inl (0, 200, .inl (upd tg tn x)))) 7 (.inr (7, [.ref 8, .int (nI (tn + 1))])) := ⟨_, rfl⟩
    have e1 : rb_R 10 98 [.ref 7, .int x] τ = some (some (.int 1), σ1) := by
      rw [hσ1]
      exact q_tadd (d := 9) (x := x) h7 h8 (by omega) (by omega)
    have f6 : σ1.1 6 = some cO := by rw [hσ1, wr_ne (by omega), wr_ne (by omega)]; exact h6
    have f7 : σ1.1 7 = some (.inr (7, [.ref 8, .int (nI (tn + 1))])) := by rw [hσ1, wr_at]
    have f8 : σ1.1 8 = some (.inl (0, 200, .inl (upd tg tn x))) := by rw [hσ1, wr_ne (by omega), wr_at]
    have fo : ∀ k, k ≠ 7 → k ≠ 8 → σ1.1 k = τ.1 k := fun k k1 k2 => by rw [hσ1, wr_ne k1, wr_ne k2]
    have e2 := q_tlen (d := 9) f7
    have b1 : σ1.1 102 = some (mo (nI hn) (nI tn) ra tl fa ds) := (fo _ (by omega) (by omega)).trans a1
    have b6 : σ1.1 113 = some (.inl (0, 200, .inl tg)) := (fo _ (by omega) (by omega)).trans a6
    have g0 : (nI tn = 200) = False := eq_false (by rw [lit_200, nI_eq' (by omega) (by omega)]; exact hf)
    have g1 : rb_in (nI tn) 200 = true := by rw [rb_in' (by omega)]; exact decide_eq_true (by omega)
    have g2 : (nI tn).toNatClampNeg = tn := nI_cl (by omega)
    have b1' : (rb_wr σ1 113 (.inl (0, 200, .inl (upd tg tn x)))).1 102 = some (mo (nI hn) (nI tn) ra tl fa ds) := (wr_ne (by omega)).trans b1
    refine ⟨nI (tn + 1), σ1, rb_wr (rb_wr σ1 113 (.inl (0, 200, .inl (upd tg tn x)))) 102 (mo (nI hn) (nI (tn + 1)) ra tl fa ds), ?_, ?_, isR_of h6, isR_of b1, fo 0 (by omega) (by omega), tn + 1, upd tg tn x, hn, hg, P, l, K, kf, ra, tl, fa, ds, st, kp, ik, hd, ?_, ?_, hR, hK, hH, ?_⟩
    · rw [en_101 (k := 60) (ls := [some (.ref 6), some (.int x)]) rfl]
      simp only [rb_gg_eq, rb_ct_go, rb_ct_end, rb_ct_ite, Nat.reduceAdd, Nat.zero_add, wr_at, wr_wr, true_and, and_true, and_self, true_or, or_true, false_or, or_false, ↓reduceIte, Nat.reduceLT, Nat.reduceLeDiff, Nat.reduceEqDiff, lg_cmp_ge, lg_cmp_le, lg_cmp_gt, lg_cmp_lt, lg_cmp_eq, Bool.false_eq_true, reduceCtorEq, mg_i, mg_l, decide_true, beq_self_eq_true, Nat.reduceBEq, st_101, dX8_write_0, xx_iloadn1, dX8_write_1, xx_iflt, rb_jp, Int.cast_ofNat_Int, Int.reduceAdd, Int.reduceLE, Int.reduceToNat, Int.reduceNeg, dX8_write_4, dX8_write_5, xx_sipush, ks_255, dX8_write_8, xx_icle, dX8_write_11, xx_ldc, zz_I, zz_S, ti_8_52, dX8_write_13, xx_iret, xx_zret0, xx_zret1, dX8_write_14, xx_aloadn0, xx_aloadn0N, dX8_write_15, xx_getf, zz_f, zz_g, zz_v, List.getElem?_cons_zero, List.getElem?_cons_succ, tf_8_12, dX8_write_18, dX8_write_19, xx_ivV, zz_c0, zz_c3, zz_c1, zz_c2, zz_c5, zz_c8, zz_c6, zz_R, List.length_cons, List.length_nil, List.take_succ_cons, List.take_zero, List.drop_succ_cons, List.drop_zero, List.reverse_cons, List.reverse_nil, List.nil_append, List.cons_append, rb_cat, List.map_cons, List.map_nil, List.sum_cons, List.sum_nil, Value.category, rb_isR, rb_isS, Option.toList_some, Option.toList_none, tv_8_53, dX8_write_22, xx_ifeq, dX8_write_25, dX8_write_26, dX8_write_29, tv_8_57, dX8_write_32, xx_goto, dX8_write_35, ti_8_61, dX8_write_37, x0, x1', h6, h7, e1, one0, f6, f7, e2]
    · rw [en_192 (k := 60) (ls := [some (.ref 102), some (.int x)]) rfl]
      simp only [rb_gg_eq, rb_ct_go, rb_ct_end, rb_ct_ite, Nat.reduceAdd, Nat.zero_add, wr_at, wr_wr, true_and, and_true, and_self, true_or, or_true, false_or, or_false, ↓reduceIte, Nat.reduceLT, Nat.reduceLeDiff, Nat.reduceEqDiff, lg_cmp_ge, lg_cmp_le, lg_cmp_gt, lg_cmp_lt, lg_cmp_eq, Bool.false_eq_true, reduceCtorEq, mg_i, mg_l, decide_true, beq_self_eq_true, Nat.reduceBEq, st_192, dX9_write_0, xx_iloadn1, dX9_write_1, xx_iconst, kc_0, dX9_write_2, xx_sipush, ks_255, dX9_write_5, xx_ivS, zz_c0, zz_c3, zz_c1, zz_c2, zz_c5, zz_c8, zz_c6, zz_R, List.length_cons, List.length_nil, List.take_succ_cons, List.take_zero, List.drop_succ_cons, List.drop_zero, List.reverse_cons, List.reverse_nil, List.nil_append, List.cons_append, rb_cat, List.map_cons, List.map_nil, List.sum_cons, List.sum_nil, Value.category, rb_isR, rb_isS, Option.toList_some, Option.toList_none, tv_9_116, dX9_write_8, xx_ifne, rb_jp, Int.cast_ofNat_Int, Int.reduceAdd, Int.reduceLE, Int.reduceToNat, Int.reduceNeg, dX9_write_11, xx_ldc, zz_I, zz_S, ti_9_125, dX9_write_13, xx_iret, xx_zret0, xx_zret1, dX9_write_14, xx_aloadn0, xx_aloadn0N, dX9_write_15, xx_getf, zz_f, zz_g, zz_v, List.getElem?_cons_zero, List.getElem?_cons_succ, tf_9_205, dX9_write_18, ks_200, dX9_write_21, xx_icne, dX9_write_24, ti_9_181, dX9_write_26, dX9_write_27, dX9_write_28, tf_9_41, dX9_write_31, dX9_write_32, dX9_write_35, dX9_write_36, xx_iast, zz_wi, dX9_write_37, dX9_write_38, xx_dupi, xx_dupr, xx_dupz, dX9_write_39, dX9_write_42, kc_1, dX9_write_43, xx_iadd, dX9_write_44, xx_putf, zz_q, zz_p, zz_ti, zz_tl, zz_t0, zz_t1, zz_to, zz_ta, List.set_cons_zero, List.set_cons_succ, dX9_write_47, dX9_write_48, dX9_write_51, p_in, x0, x1, one0, b1, b6, g0, g1, g2, b1', nI_1]
    · refine CI_upd hC (fun k k1 k2 => ?_) (by rw [hσ1]; rfl) ?_ ?_ ?_ ?_ ?_ ⟨by omega, fun k hk => ?_⟩ hC.2.2.2.2.2.2.1
      · rw [wr_ne (by omega), wr_ne (by omega)]; exact fo k (by omega) (by omega)
      · rw [wr_ne (by omega), wr_ne (by omega)]; exact f7
      · rw [wr_ne (by omega), wr_ne (by omega)]; exact f8
      · obtain ⟨kd, nb, c, t, s, e, r1, r2, r3⟩ := hrd
        refine ⟨kd, nb, c, t, s, e, ?_, ?_, ?_⟩
        · rw [wr_ne (by omega), wr_ne (by omega)]; exact (fo 9 (by omega) (by omega)).trans r1
        · rw [wr_ne (by omega), wr_ne (by omega)]; exact (fo 10 (by omega) (by omega)).trans r2
        · rw [wr_ne (by omega), wr_ne (by omega)]; exact (fo 11 (by omega) (by omega)).trans r3
      · rw [wr_ne (by omega), wr_ne (by omega)]; exact (fo 100 (by omega) (by omega)).trans h100
      · rw [wr_ne (by omega), wr_ne (by omega)]; exact (fo 101 (by omega) (by omega)).trans h101
      · by_cases e : k = tn
        · rw [e, pk_us]; exact x0
        · rw [pk_un e]; exact hC.2.2.2.2.2.1.2 k (by omega)
    · refine MB_upd hM (fun k k1 k2 k3 => ?_) wr_at ?_ ?_ ?_
      · rw [wr_ne (by omega), wr_ne (by omega)]; exact fo k (by omega) (by omega)
      · rw [wr_ne (by omega), wr_ne (by omega)]; exact (fo 103 (by omega) (by omega)).trans a2
      · rw [wr_ne (by omega), wr_ne (by omega)]; exact (fo 106 (by omega) (by omega)).trans a5
      · rw [wr_ne (by omega), wr_at]
    · rw [wr_ne (by omega), wr_ne (by omega)]; exact (fo 0 (by omega) (by omega)).trans h0
theorem sim_erase (I : Inv L xs τ) : SimOK 102 193 [] L xs τ := by
  obtain ⟨tn, tg, hn, hg, P, l, K, kf, ra, tl, fa, ds, st, kp, ik, hd, hC, hM, hR, hK, hH, h0⟩ := id I
  obtain ⟨hJ, h6, h7, h8, hrd, h99, h100, h101⟩ := id hC.1
  obtain ⟨a1, a2, a3, a4, a5, a6, W, bx, a7, a8⟩ := id hM
  obtain ⟨σ1, hσ1⟩ : ∃ s, s = rb_wr τ 7 (.inr (7, [.ref 8, .int (nI 0)])) := ⟨_, rfl⟩
  have e0 := q_tlen (d := 9) h7
  have e1 : rb_R 10 99 [.ref 7] τ = some (none, σ1) := by
    rw [hσ1]
    exact q_tclear (d := 9) h7
  have fo : ∀ k, k ≠ 7 → σ1.1 k = τ.1 k := fun k k1 => by rw [hσ1, wr_ne k1]
  have f7 : σ1.1 7 = some (.inr (7, [.ref 8, .int (nI 0)])) := by rw [hσ1, wr_at]
  have b1 : σ1.1 102 = some (mo (nI hn) (nI tn) ra tl fa ds) := (fo _ (by omega)).trans a1
  refine ⟨nI tn, σ1, rb_wr σ1 102 (mo (nI hn) (nI 0) ra tl fa ds), ?_, ?_, isR_of h6, isR_of b1, fo 0 (by omega), 0, tg, hn, hg, P, l, K, kf, ra, tl, fa, ds, st, kp, ik, hd, ?_, ?_, hR, hK, hH, ?_⟩
  · rw [en_102 (k := 60) (ls := [some (.ref 6), none]) rfl]
    simp only [rb_gg_eq, rb_ct_go, rb_ct_end, rb_ct_ite, Nat.reduceAdd, Nat.zero_add, wr_at, wr_wr, true_and, and_true, and_self, true_or, or_true, false_or, or_false, ↓reduceIte, Nat.reduceLT, Nat.reduceLeDiff, Nat.reduceEqDiff, lg_cmp_ge, lg_cmp_le, lg_cmp_gt, lg_cmp_lt, lg_cmp_eq, Bool.false_eq_true, reduceCtorEq, mg_i, mg_l, decide_true, beq_self_eq_true, Nat.reduceBEq, st_102, dX8_erase_0, xx_aloadn0, xx_aloadn0N, dX8_erase_1, xx_getf, zz_f, zz_g, zz_v, List.getElem?_cons_zero, List.getElem?_cons_succ, tf_8_12, dX8_erase_4, xx_ivV, zz_c0, zz_c3, zz_c1, zz_c2, zz_c5, zz_c8, zz_c6, zz_R, List.length_cons, List.length_nil, List.take_succ_cons, List.take_zero, List.drop_succ_cons, List.drop_zero, List.reverse_cons, List.reverse_nil, List.nil_append, List.cons_append, rb_cat, List.map_cons, List.map_nil, List.sum_cons, List.sum_nil, Value.category, rb_isR, rb_isS, Option.toList_some, Option.toList_none, tv_8_57, dX8_erase_7, xx_istoren1, zz_invi, zz_invr, zz_invz, zz_invn, zz_invl, dX8_erase_8, dX8_erase_9, dX8_erase_12, tv_8_62, dX8_erase_15, xx_iloadn1, dX8_erase_16, xx_iret, xx_zret0, xx_zret1, h6, h7, e0, e1]
  · rw [en_193 (k := 60) (ls := [some (.ref 102), none]) rfl]
    simp only [rb_gg_eq, rb_ct_go, rb_ct_end, rb_ct_ite, Nat.reduceAdd, Nat.zero_add, wr_at, wr_wr, true_and, and_true, and_self, true_or, or_true, false_or, or_false, ↓reduceIte, Nat.reduceLT, Nat.reduceLeDiff, Nat.reduceEqDiff, lg_cmp_ge, lg_cmp_le, lg_cmp_gt, lg_cmp_lt, lg_cmp_eq, Bool.false_eq_true, reduceCtorEq, mg_i, mg_l, decide_true, beq_self_eq_true, Nat.reduceBEq, st_193, dX9_erase_0, xx_aloadn0, xx_aloadn0N, dX9_erase_1, xx_getf, zz_f, zz_g, zz_v, List.getElem?_cons_zero, List.getElem?_cons_succ, tf_9_205, dX9_erase_4, xx_istoren1, zz_invi, zz_invr, zz_invz, zz_invn, zz_invl, dX9_erase_5, dX9_erase_6, xx_iconst, kc_0, dX9_erase_7, xx_putf, zz_q, zz_p, zz_ti, zz_tl, zz_t0, zz_t1, zz_to, zz_ta, List.length_cons, List.length_nil, List.set_cons_zero, List.set_cons_succ, dX9_erase_10, xx_iloadn1, dX9_erase_11, xx_iret, xx_zret0, xx_zret1, b1]
    rfl
  · refine CI_upd hC (fun k k1 k2 => ?_) (by rw [hσ1]; rfl) ?_ ?_ ?_ ?_ ?_ ⟨by omega, fun k hk => absurd hk (Nat.not_lt_zero k)⟩ hC.2.2.2.2.2.2.1
    · rw [wr_ne (by omega)]; exact fo k (by omega)
    · rw [wr_ne (by omega)]; exact f7
    · rw [wr_ne (by omega)]; exact (fo 8 (by omega)).trans h8
    · obtain ⟨kd, nb, c, t, s, e, r1, r2, r3⟩ := hrd
      refine ⟨kd, nb, c, t, s, e, ?_, ?_, ?_⟩
      · rw [wr_ne (by omega)]; exact (fo 9 (by omega)).trans r1
      · rw [wr_ne (by omega)]; exact (fo 10 (by omega)).trans r2
      · rw [wr_ne (by omega)]; exact (fo 11 (by omega)).trans r3
    · rw [wr_ne (by omega)]; exact (fo 100 (by omega)).trans h100
    · rw [wr_ne (by omega)]; exact (fo 101 (by omega)).trans h101
  · refine MB_upd hM (fun k k1 k2 k3 => ?_) wr_at ?_ ?_ ?_
    · rw [wr_ne (by omega)]; exact fo k (by omega)
    · rw [wr_ne (by omega)]; exact (fo 103 (by omega)).trans a2
    · rw [wr_ne (by omega)]; exact (fo 106 (by omega)).trans a5
    · rw [wr_ne (by omega)]; exact (fo 113 (by omega)).trans a6
  · rw [wr_ne (by omega)]; exact (fo 0 (by omega)).trans h0
theorem sim_hold (I : Inv L xs τ) {a b c e : Int32} : SimOK 108 164 [.int a, .int b, .int c, .int e] L xs τ := by
  obtain ⟨tn, tg, hn, hg, P, l, K, kf, ra, tl, fa, ds, st, kp, ik, hd, hC, hM, hR, hK, hH, h0⟩ := id I
  obtain ⟨hJ, h6, h7, h8, hrd, h99, h100, h101⟩ := id hC.1
  obtain ⟨a1, a2, a3, a4, a5, a6, W, bx, a7, a8⟩ := id hM
  have sp := sp_eq a b c e
  by_cases hA : arSp a b c e = 0
  · refine ⟨-1000000003, τ, τ, ?_, ?_, isR_of h6, isR_of a1, rfl, I⟩
    · rw [en_108 (k := 60) (ls := [some (.ref 6), some (.int a), some (.int b), some (.int c), some (.int e)]) rfl]
      by_cases s1 : isSp a b = 0
      · simp only [rb_gg_eq, rb_ct_go, rb_ct_end, rb_ct_ite, Nat.reduceAdd, Nat.zero_add, wr_at, wr_wr, true_and, and_true, and_self, true_or, or_true, false_or, or_false, ↓reduceIte, Nat.reduceLT, Nat.reduceLeDiff, Nat.reduceEqDiff, lg_cmp_ge, lg_cmp_le, lg_cmp_gt, lg_cmp_lt, lg_cmp_eq, Bool.false_eq_true, reduceCtorEq, mg_i, mg_l, decide_true, beq_self_eq_true, Nat.reduceBEq, st_108, dX8_hold_0, xx_iloadn1, dX8_hold_1, xx_iloadn2, dX8_hold_2, xx_ivS, zz_c0, zz_c3, zz_c1, zz_c2, zz_c5, zz_c8, zz_c6, zz_R, List.length_cons, List.length_nil, List.take_succ_cons, List.take_zero, List.drop_succ_cons, List.drop_zero, List.reverse_cons, List.reverse_nil, List.nil_append, List.cons_append, rb_cat, List.map_cons, List.map_nil, List.sum_cons, List.sum_nil, Value.category, rb_isR, rb_isS, Option.toList_some, Option.toList_none, tv_8_104, dX8_hold_5, xx_ifeq, rb_jp, Int.cast_ofNat_Int, Int.reduceAdd, Int.reduceLE, Int.reduceToNat, Int.reduceNeg, dX8_hold_8, xx_iloadn3, dX8_hold_9, xx_iload4, dX8_hold_11, dX8_hold_14, xx_ifne, dX8_hold_17, xx_ldc, zz_I, zz_S, ti_8_52, dX8_hold_19, xx_iret, xx_zret0, xx_zret1, dX8_hold_20, xx_aloadn0, xx_aloadn0N, dX8_hold_21, xx_getf, zz_f, zz_g, zz_v, List.getElem?_cons_zero, List.getElem?_cons_succ, tf_8_48, dX8_hold_24, xx_ivV, tv_8_107, dX8_hold_27, dX8_hold_28, dX8_hold_31, dX8_hold_32, dX8_hold_33, dX8_hold_34, dX8_hold_36, tv_8_108, dX8_hold_39, dX8_hold_40, dX8_hold_43, xx_iconst, kc_0, dX8_hold_44, tv_8_111, dX8_hold_47, c_isSpan, s1]
      · have s2 : isSp c e = 0 := (sp.mp hA).resolve_left s1
        simp only [rb_gg_eq, rb_ct_go, rb_ct_end, rb_ct_ite, Nat.reduceAdd, Nat.zero_add, wr_at, wr_wr, true_and, and_true, and_self, true_or, or_true, false_or, or_false, ↓reduceIte, Nat.reduceLT, Nat.reduceLeDiff, Nat.reduceEqDiff, lg_cmp_ge, lg_cmp_le, lg_cmp_gt, lg_cmp_lt, lg_cmp_eq, Bool.false_eq_true, reduceCtorEq, mg_i, mg_l, decide_true, beq_self_eq_true, Nat.reduceBEq, st_108, dX8_hold_0, xx_iloadn1, dX8_hold_1, xx_iloadn2, dX8_hold_2, xx_ivS, zz_c0, zz_c3, zz_c1, zz_c2, zz_c5, zz_c8, zz_c6, zz_R, List.length_cons, List.length_nil, List.take_succ_cons, List.take_zero, List.drop_succ_cons, List.drop_zero, List.reverse_cons, List.reverse_nil, List.nil_append, List.cons_append, rb_cat, List.map_cons, List.map_nil, List.sum_cons, List.sum_nil, Value.category, rb_isR, rb_isS, Option.toList_some, Option.toList_none, tv_8_104, dX8_hold_5, xx_ifeq, rb_jp, Int.cast_ofNat_Int, Int.reduceAdd, Int.reduceLE, Int.reduceToNat, Int.reduceNeg, dX8_hold_8, xx_iloadn3, dX8_hold_9, xx_iload4, dX8_hold_11, dX8_hold_14, xx_ifne, dX8_hold_17, xx_ldc, zz_I, zz_S, ti_8_52, dX8_hold_19, xx_iret, xx_zret0, xx_zret1, dX8_hold_20, xx_aloadn0, xx_aloadn0N, dX8_hold_21, xx_getf, zz_f, zz_g, zz_v, List.getElem?_cons_zero, List.getElem?_cons_succ, tf_8_48, dX8_hold_24, xx_ivV, tv_8_107, dX8_hold_27, dX8_hold_28, dX8_hold_31, dX8_hold_32, dX8_hold_33, dX8_hold_34, dX8_hold_36, tv_8_108, dX8_hold_39, dX8_hold_40, dX8_hold_43, xx_iconst, kc_0, dX8_hold_44, tv_8_111, dX8_hold_47, c_isSpan, s1, s2]
    · rw [en_164 (k := 60) (ls := [some (.ref 102), some (.int a), some (.int b), some (.int c), some (.int e)]) rfl]
      simp only [rb_gg_eq, rb_ct_go, rb_ct_end, rb_ct_ite, Nat.reduceAdd, Nat.zero_add, wr_at, wr_wr, true_and, and_true, and_self, true_or, or_true, false_or, or_false, ↓reduceIte, Nat.reduceLT, Nat.reduceLeDiff, Nat.reduceEqDiff, lg_cmp_ge, lg_cmp_le, lg_cmp_gt, lg_cmp_lt, lg_cmp_eq, Bool.false_eq_true, reduceCtorEq, mg_i, mg_l, decide_true, beq_self_eq_true, Nat.reduceBEq, st_164, dX9_hold_0, xx_iloadn1, dX9_hold_1, xx_iloadn2, dX9_hold_2, xx_iloadn3, dX9_hold_3, xx_iload4, dX9_hold_5, xx_ivS, zz_c0, zz_c3, zz_c1, zz_c2, zz_c5, zz_c8, zz_c6, zz_R, List.length_cons, List.length_nil, List.take_succ_cons, List.take_zero, List.drop_succ_cons, List.drop_zero, List.reverse_cons, List.reverse_nil, List.nil_append, List.cons_append, rb_cat, List.map_cons, List.map_nil, List.sum_cons, List.sum_nil, Value.category, rb_isR, rb_isS, Option.toList_some, Option.toList_none, tv_9_133, dX9_hold_8, xx_ifne, rb_jp, Int.cast_ofNat_Int, Int.reduceAdd, Int.reduceLE, Int.reduceToNat, Int.reduceNeg, dX9_hold_11, xx_ldc, zz_I, zz_S, ti_9_125, dX9_hold_13, xx_iret, xx_zret0, xx_zret1, dX9_hold_14, xx_aloadn0, xx_aloadn0N, dX9_hold_15, xx_getf, zz_f, zz_g, zz_v, List.getElem?_cons_zero, List.getElem?_cons_succ, tf_9_19, dX9_hold_18, xx_iconst, kc_0, dX9_hold_19, dX9_hold_20, dX9_hold_21, dX9_hold_22, dX9_hold_24, tv_9_137, dX9_hold_27, dX9_hold_28, kc_1, dX9_hold_29, xx_putf, zz_q, zz_p, zz_ti, zz_tl, zz_t0, zz_t1, zz_to, zz_ta, List.set_cons_zero, List.set_cons_succ, tf_9_141, dX9_hold_32, dX9_hold_33, dX9_hold_36, dX9_hold_37, tv_9_145, dX9_hold_40, m_areSpans, hA]
  · have s1 : ¬ isSp a b = 0 := fun h => hA (sp.mpr (Or.inl h))
    have s2 : ¬ isSp c e = 0 := fun h => hA (sp.mpr (Or.inr h))
    have hB := sp_ok hA
    obtain ⟨σ1, hσ1⟩ : ∃ s, s = rb_wr τ 100 (brw 101 (nI 1) (nI 0)) := ⟨_, rfl⟩
    have e1 : rb_R 10 5 [.ref 100] τ = some (none, σ1) := by
      rw [hσ1]
      exact q_rclear (d := 9) h100
    have f6 : σ1.1 6 = some cO := by rw [hσ1, wr_ne (by omega)]; exact h6
    have f100 : σ1.1 100 = some (brw 101 (nI 1) (nI 0)) := by rw [hσ1, wr_at]
    have f101 : σ1.1 101 = some (.inl (0, 4 * 1, .inl hg)) := by rw [hσ1, wr_ne (by omega)]; exact h101
    obtain ⟨σ2, hσ2⟩ : ∃ s, s = rb_wr (rb_wr σ1 101 (.inl (0, 4 * 1, .inl (up4 hg 0 a b c e)))) 100 (brw 101 (nI 1) (nI 1)) := ⟨_, rfl⟩
    have e2 : rb_R 10 7 [.ref 100, .int a, .int b, .int c, .int e] σ1 = some (none, σ2) := by
      rw [hσ2]
      exact q_radd (d := 9) (m := 1) (n := 0) f100 f101 (by omega) (by omega) (by omega)
    have g6 : σ2.1 6 = some cO := by rw [hσ2, wr_ne (by omega), wr_ne (by omega)]; exact f6
    have g100 : σ2.1 100 = some (brw 101 (nI 1) (nI 1)) := by rw [hσ2, wr_at]
    have g101 : σ2.1 101 = some (.inl (0, 4 * 1, .inl (up4 hg 0 a b c e))) := by rw [hσ2, wr_ne (by omega), wr_at]
    have e3 := q_gwid (d := 7) (k := 0) g100 g101 (by omega) (by omega) (by omega)
    have w1 : gwid (up4 hg 0 a b c e) 0 = imax (b - a) (e - c) := rfl
    rw [w1, ← lit_0] at e3
    have fo : ∀ k, k ≠ 100 → k ≠ 101 → σ2.1 k = τ.1 k := fun k k1 k2 => by rw [hσ2, wr_ne k1, wr_ne k2, hσ1, wr_ne k1]
    have b1 : σ2.1 102 = some (mo (nI hn) (nI tn) ra tl fa ds) := (fo _ (by omega) (by omega)).trans a1
    have b5 : σ2.1 106 = some (.inl (0, 4, .inl hd)) := (fo _ (by omega) (by omega)).trans a5
    obtain ⟨σ3, hσ3⟩ : ∃ s, s = rb_wr σ2 106 (.inl (0, 4, .inl (s4 hd 0 a b c e))) := ⟨_, rfl⟩
    have m1 : rb_R 10 163 [.ref 106, .int 0, .int a, .int b, .int c, .int e] σ2 = some (none, σ3) := by
      rw [hσ3]
      exact m_sets (d := 9) (k := 0) b5 (by omega) (by omega)
    have go : ∀ k, k ≠ 106 → σ3.1 k = σ2.1 k := fun k k1 => by rw [hσ3, wr_ne k1]
    have c1 : σ3.1 102 = some (mo (nI hn) (nI tn) ra tl fa ds) := (go _ (by omega)).trans b1
    have c5 : σ3.1 106 = some (.inl (0, 4, .inl (s4 hd 0 a b c e))) := by rw [hσ3, wr_at]
    have c5' : (rb_wr σ3 102 (mo 1 (nI tn) ra tl fa ds)).1 106 = some (.inl (0, 4, .inl (s4 hd 0 a b c e))) := (wr_ne (by omega)).trans c5
    have m2 := m_gw (d := 9) (k := 0) c5' (by omega) (by omega)
    have w2 : gw (s4 hd 0 a b c e) 0 = imax (b - a) (e - c) := rfl
    rw [w2, ← lit_0] at m2
    refine ⟨imax (b - a) (e - c), σ2, rb_wr σ3 102 (mo 1 (nI tn) ra tl fa ds), ?_, ?_, isR_of h6, isR_of b1, fo 0 (by omega) (by omega), tn, tg, 1, up4 hg 0 a b c e, P, l, K, kf, ra, tl, fa, ds, st, kp, ik, s4 hd 0 a b c e, ?_, ?_, hR, hK, ?_, ?_⟩
    · rw [en_108 (k := 60) (ls := [some (.ref 6), some (.int a), some (.int b), some (.int c), some (.int e)]) rfl]
      simp only [rb_gg_eq, rb_ct_go, rb_ct_end, rb_ct_ite, Nat.reduceAdd, Nat.zero_add, wr_at, wr_wr, true_and, and_true, and_self, true_or, or_true, false_or, or_false, ↓reduceIte, Nat.reduceLT, Nat.reduceLeDiff, Nat.reduceEqDiff, lg_cmp_ge, lg_cmp_le, lg_cmp_gt, lg_cmp_lt, lg_cmp_eq, Bool.false_eq_true, reduceCtorEq, mg_i, mg_l, decide_true, beq_self_eq_true, Nat.reduceBEq, st_108, dX8_hold_0, xx_iloadn1, dX8_hold_1, xx_iloadn2, dX8_hold_2, xx_ivS, zz_c0, zz_c3, zz_c1, zz_c2, zz_c5, zz_c8, zz_c6, zz_R, List.length_cons, List.length_nil, List.take_succ_cons, List.take_zero, List.drop_succ_cons, List.drop_zero, List.reverse_cons, List.reverse_nil, List.nil_append, List.cons_append, rb_cat, List.map_cons, List.map_nil, List.sum_cons, List.sum_nil, Value.category, rb_isR, rb_isS, Option.toList_some, Option.toList_none, tv_8_104, dX8_hold_5, xx_ifeq, rb_jp, Int.cast_ofNat_Int, Int.reduceAdd, Int.reduceLE, Int.reduceToNat, Int.reduceNeg, dX8_hold_8, xx_iloadn3, dX8_hold_9, xx_iload4, dX8_hold_11, dX8_hold_14, xx_ifne, dX8_hold_17, xx_ldc, zz_I, zz_S, ti_8_52, dX8_hold_19, xx_iret, xx_zret0, xx_zret1, dX8_hold_20, xx_aloadn0, xx_aloadn0N, dX8_hold_21, xx_getf, zz_f, zz_g, zz_v, List.getElem?_cons_zero, List.getElem?_cons_succ, tf_8_48, dX8_hold_24, xx_ivV, tv_8_107, dX8_hold_27, dX8_hold_28, dX8_hold_31, dX8_hold_32, dX8_hold_33, dX8_hold_34, dX8_hold_36, tv_8_108, dX8_hold_39, dX8_hold_40, dX8_hold_43, xx_iconst, kc_0, dX8_hold_44, tv_8_111, dX8_hold_47, c_isSpan, s1, s2, h6, h100, e1, f6, f100, e2, g6, g100, e3]
    · rw [en_164 (k := 60) (ls := [some (.ref 102), some (.int a), some (.int b), some (.int c), some (.int e)]) rfl]
      simp only [rb_gg_eq, rb_ct_go, rb_ct_end, rb_ct_ite, Nat.reduceAdd, Nat.zero_add, wr_at, wr_wr, true_and, and_true, and_self, true_or, or_true, false_or, or_false, ↓reduceIte, Nat.reduceLT, Nat.reduceLeDiff, Nat.reduceEqDiff, lg_cmp_ge, lg_cmp_le, lg_cmp_gt, lg_cmp_lt, lg_cmp_eq, Bool.false_eq_true, reduceCtorEq, mg_i, mg_l, decide_true, beq_self_eq_true, Nat.reduceBEq, st_164, dX9_hold_0, xx_iloadn1, dX9_hold_1, xx_iloadn2, dX9_hold_2, xx_iloadn3, dX9_hold_3, xx_iload4, dX9_hold_5, xx_ivS, zz_c0, zz_c3, zz_c1, zz_c2, zz_c5, zz_c8, zz_c6, zz_R, List.length_cons, List.length_nil, List.take_succ_cons, List.take_zero, List.drop_succ_cons, List.drop_zero, List.reverse_cons, List.reverse_nil, List.nil_append, List.cons_append, rb_cat, List.map_cons, List.map_nil, List.sum_cons, List.sum_nil, Value.category, rb_isR, rb_isS, Option.toList_some, Option.toList_none, tv_9_133, dX9_hold_8, xx_ifne, rb_jp, Int.cast_ofNat_Int, Int.reduceAdd, Int.reduceLE, Int.reduceToNat, Int.reduceNeg, dX9_hold_11, xx_ldc, zz_I, zz_S, ti_9_125, dX9_hold_13, xx_iret, xx_zret0, xx_zret1, dX9_hold_14, xx_aloadn0, xx_aloadn0N, dX9_hold_15, xx_getf, zz_f, zz_g, zz_v, List.getElem?_cons_zero, List.getElem?_cons_succ, tf_9_19, dX9_hold_18, xx_iconst, kc_0, dX9_hold_19, dX9_hold_20, dX9_hold_21, dX9_hold_22, dX9_hold_24, tv_9_137, dX9_hold_27, dX9_hold_28, kc_1, dX9_hold_29, xx_putf, zz_q, zz_p, zz_ti, zz_tl, zz_t0, zz_t1, zz_to, zz_ta, List.set_cons_zero, List.set_cons_succ, tf_9_141, dX9_hold_32, dX9_hold_33, dX9_hold_36, dX9_hold_37, tv_9_145, dX9_hold_40, m_areSpans, hA, b1, m1, c1, m2]
    · refine CI_upd hC (fun k k1 k2 => ?_) (by rw [hσ3, hσ2, hσ1]; rfl) ?_ ?_ ?_ ?_ ?_ hC.2.2.2.2.2.1 (by omega)
      · rw [wr_ne (by omega), go k (by omega)]; exact fo k (by omega) (by omega)
      · rw [wr_ne (by omega), go 7 (by omega)]; exact (fo 7 (by omega) (by omega)).trans h7
      · rw [wr_ne (by omega), go 8 (by omega)]; exact (fo 8 (by omega) (by omega)).trans h8
      · obtain ⟨kd, nb, c, t, s, e, r1, r2, r3⟩ := hrd
        refine ⟨kd, nb, c, t, s, e, ?_, ?_, ?_⟩
        · rw [wr_ne (by omega), go 9 (by omega)]; exact (fo 9 (by omega) (by omega)).trans r1
        · rw [wr_ne (by omega), go 10 (by omega)]; exact (fo 10 (by omega) (by omega)).trans r2
        · rw [wr_ne (by omega), go 11 (by omega)]; exact (fo 11 (by omega) (by omega)).trans r3
      · rw [wr_ne (by omega), go 100 (by omega)]; exact g100
      · rw [wr_ne (by omega), go 101 (by omega)]; exact g101
    · refine MB_upd hM (fun k k1 k2 k3 => ?_) wr_at ?_ ?_ ?_
      · rw [wr_ne (by omega), go k (by omega)]; exact fo k (by omega) (by omega)
      · rw [wr_ne (by omega), go 103 (by omega)]; exact (fo 103 (by omega) (by omega)).trans a2
      · exact c5'
      · rw [wr_ne (by omega), go 113 (by omega)]; exact (fo 113 (by omega) (by omega)).trans a6
    · intro _
      refine ⟨hB, fun j hj => ?_⟩
      have hj' : j = 0 ∨ j = 1 ∨ j = 2 ∨ j = 3 := by omega
      rcases hj' with rfl | rfl | rfl | rfl <;> rfl
    · rw [wr_ne (by omega), go 0 (by omega)]; exact (fo 0 (by omega) (by omega)).trans h0
end
