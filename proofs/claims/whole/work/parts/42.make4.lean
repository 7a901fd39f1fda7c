/-! ===== the class is made: cells 6 .. 101; the model: 102 .. 113 ===== -/
/-- what lies at the class's own cells, the State and the judge's spans aside -/
def CB (σ : rb_S) (tn : Nat) (tg : Nat → Int32) (hn : Nat) (hg : Nat → Int32) (kf : Nat → Option Nat) : Prop := JF σ ∧ σ.1 6 = some (.inr (8, [.ref 7, .ref 9, .ref 12, .ref 85, .ref 99, .ref 100])) ∧ σ.1 7 = some (.inr (7, [.ref 8, .int (nI tn)])) ∧ σ.1 8 = some (.inl (0, 200, .inl tg)) ∧ (∃ (kd nb : Nat → Int32) (c t s e : Int32), σ.1 9 = some (.inr (4, [.ref 7, .ref 10, .ref 11, .int c, .int t, .int s, .int e])) ∧ σ.1 10 = some (.inl (0, 24, .inl kd)) ∧ σ.1 11 = some (.inl (0, 96, .inl nb))) ∧ σ.1 99 = some (.inl (3, 2, .inr (.inr (.inr (.inr kf))))) ∧ σ.1 100 = some (brw 101 (nI 1) (nI hn)) ∧ σ.1 101 = some (.inl (0, 4 * 1, .inl hg))
section
variable {d : Nat} {σ : rb_S}
theorem i_boxes (hσ : σ.2.1 = 7) (h : σ.1 6 = some (.inr (8, [.null, .null, .null, .null, .null, .null]))) : ∃ σ', rb_R (d + 4) 100 [.ref 6] σ = some (none, σ') ∧ CB σ' 0 (fun _ => 0) 0 (fun _ => 0) (fun _ => none) ∧ StAt σ' 85 (fun _ _ => 0, fun _ => 0) 4 ∧ (∀ k, spK k → σ'.1 k = some (sp 0 0)) ∧ (∀ k, k < 6 → σ'.1 k = σ.1 k) ∧ σ'.2.1 = 102 ∧ σ'.2.2 = σ.2.2 + 3474 := by
  have e0 : σ = mm σ 6 [.inr (8, [.null, .null, .null, .null, .null, .null])] σ.2.2 := by
    refine Prod.ext ?_ (Prod.ext hσ rfl)
    funext k
    by_cases hk : 6 ≤ k ∧ k < 6 + 1
    · have hk' : k = 6 := by omega
      rw [hk', h]
      rfl
    · exact (if_neg hk).symm
  have eT : ∀ s c0, rb_R (d + 3) 95 [.ref 7] (mm σ 6 [c0, .inr (7, [.null, .int 0])] s) = some (none, mm σ 6 [c0, .inr (7, [.ref 8, .int 0]), .inl (0, 200, .inl fun _ => 0)] (s + 200)) := fun s c0 => m_text (n := 6) (i := 1) rfl
  have eR : ∀ s c0 c1 c2, rb_R (d + 3) 46 [.ref 9, .ref 7] (mm σ 6 [c0, c1, c2, .inr (4, [.null, .null, .null, .int 0, .int 0, .int 0, .int 0])] s) = some (none, mm σ 6 [c0, c1, c2, .inr (4, [.ref 7, .ref 10, .ref 11, .int 0, .int 0, .int 0, .int 0]), .inl (0, 24, .inl fun _ => 0), .inl (0, 96, .inl fun _ => 0)] (s + 120)) := fun s c0 c1 c2 => m_reader (n := 6) (i := 3) rfl
  obtain ⟨τA, hτA⟩ : ∃ τ, τ = mm σ 6 [.inr (8, [.ref 7, .ref 9, .null, .null, .null, .null]), .inr (7, [.ref 8, .int 0]), .inl (0, 200, .inl fun _ => 0), .inr (4, [.ref 7, .ref 10, .ref 11, .int 0, .int 0, .int 0, .int 0]), .inl (0, 24, .inl fun _ => 0), .inl (0, 96, .inl fun _ => 0), .inr (2, [.null, .null, .null, .null, .null, .null, .null, .null, .null, .null, .null, .null, .null, .null, .null, .null, .null, .null, .null, .null])] (σ.2.2 + 349) := ⟨_, rfl⟩
  obtain ⟨τ1, g1, J1, sp1, fr1, n1, s1⟩ := i_judge (d := d) (σ := τA) (by rw [hτA]; rfl) (by rw [hτA]; exact mm_at (c := _) (by omega) rfl)
  have A6 : τ1.1 6 = some (.inr (8, [.ref 7, .ref 9, .null, .null, .null, .null])) := by rw [fr1 6 (by omega), hτA]; exact mm_at (c := _) (by omega) rfl
  have A7 : τ1.1 7 = some (.inr (7, [.ref 8, .int 0])) := by rw [fr1 7 (by omega), hτA]; exact mm_at (c := _) (by omega) rfl
  have A8 : τ1.1 8 = some (.inl (0, 200, .inl fun _ => 0)) := by rw [fr1 8 (by omega), hτA]; exact mm_at (c := _) (by omega) rfl
  have A9 : τ1.1 9 = some (.inr (4, [.ref 7, .ref 10, .ref 11, .int 0, .int 0, .int 0, .int 0])) := by rw [fr1 9 (by omega), hτA]; exact mm_at (c := _) (by omega) rfl
  have A10 : τ1.1 10 = some (.inl (0, 24, .inl fun _ => 0)) := by rw [fr1 10 (by omega), hτA]; exact mm_at (c := _) (by omega) rfl
  have A11 : τ1.1 11 = some (.inl (0, 96, .inl fun _ => 0)) := by rw [fr1 11 (by omega), hτA]; exact mm_at (c := _) (by omega) rfl
  obtain ⟨τ1', h1'⟩ : ∃ τ, τ = rb_wr τ1 6 (.inr (8, [.ref 7, .ref 9, .ref 12, .null, .null, .null])) := ⟨_, rfl⟩
  have w1 : rb_wr τ1 6 (.inr (8, [.ref 7, .ref 9, .ref 12, .null, .null, .null])) = mm τ1' 85 [] τ1.2.2 := by rw [← h1']; exact (mm_nil (σ := τ1') (n := 85) (by rw [h1', wr_21, n1])).symm.trans (by rw [h1', wr_22])
  obtain ⟨τB, hτB⟩ : ∃ τ, τ = mm τ1' 85 [.inr (6, [.null, .null, .null, .null, .null, .null, .null, .int 0])] (τ1.2.2 + 8) := ⟨_, rfl⟩
  obtain ⟨τ2, g2, S2, fr2, n2, s2⟩ := i_state (d := d) (a := 85) (σ := τB) (by rw [hτB]; rfl) (by rw [hτB]; exact mm_at (c := _) (by omega) rfl)
  have lowB : ∀ k, k < 85 → k ≠ 6 → τ2.1 k = τ1.1 k := fun k hk h6 => by rw [fr2 k hk, hτB, mm_lo hk, h1', wr_ne h6]
  have t6' : τ1'.1 6 = some (.inr (8, [.ref 7, .ref 9, .ref 12, .null, .null, .null])) := by rw [h1', wr_at]
  have B6 : τ2.1 6 = some (.inr (8, [.ref 7, .ref 9, .ref 12, .null, .null, .null])) := by rw [fr2 6 (by omega), hτB, mm_lo (by omega), t6']
  obtain ⟨τ2', h2'⟩ : ∃ τ, τ = rb_wr τ2 6 (.inr (8, [.ref 7, .ref 9, .ref 12, .ref 85, .null, .null])) := ⟨_, rfl⟩
  have w2 : rb_wr τ2 6 (.inr (8, [.ref 7, .ref 9, .ref 12, .ref 85, .null, .null])) = mm τ2' 99 [] τ2.2.2 := by rw [← h2']; exact (mm_nil (σ := τ2') (n := 99) (by rw [h2', wr_21, n2])).symm.trans (by rw [h2', wr_22])
  have u6' : τ2'.1 6 = some (.inr (8, [.ref 7, .ref 9, .ref 12, .ref 85, .null, .null])) := by rw [h2', wr_at]
  rw [hτA] at g1
  rw [hτB] at g2
  have S85 : τ2.1 85 = _ := S2 0 (by omega)
  have J12 : τ1.1 12 = _ := J1.1
  have eW : ∀ τ s c0, rb_R (d + 3) 0 [.ref 100, .int 1] (mm τ 99 [c0, .inr (0, [.null, .int 0, .int 0])] s) = some (none, mm τ 99 [c0, brw 101 (nI 1) (nI 0), .inl (0, 4 * 1, .inl fun _ => 0)] (s + 4)) := fun τ s c0 => m_row (n := 99) (i := 1) (m := 1) rfl (by omega) (by omega)
  have run : rb_R (d + 4) 100 [.ref 6] σ = some (none, mm (rb_wr τ2' 6 (.inr (8, [.ref 7, .ref 9, .ref 12, .ref 85, .ref 99, .ref 100]))) 99 [.inl (3, 2, .inr (.inr (.inr (.inr fun _ => none)))), brw 101 (nI 1) (nI 0), .inl (0, 4 * 1, .inl fun _ => 0)] (τ2.2.2 + 9)) := by
    conv => lhs; rw [e0]
    rw [en_100 (k := 100) (ls := [some (.ref 6)]) rfl]
    simp (disch := first | omega | (simp only [List.length_cons, List.length_nil]; omega)) only [rb_gg_eq, rb_ct_go, rb_ct_end, rb_ct_ite, Nat.reduceAdd, Nat.zero_add, wr_at, wr_wr, true_and, and_true, and_self, true_or, or_true, false_or, or_false, ↓reduceIte, Nat.reduceLT, Nat.reduceLeDiff, Nat.reduceEqDiff, lg_cmp_ge, lg_cmp_le, lg_cmp_gt, lg_cmp_lt, lg_cmp_eq, Bool.false_eq_true, reduceCtorEq, mg_i, mg_l, decide_true, beq_self_eq_true, Nat.reduceBEq, st_100, dX8_init_0, xx_aloadn0, xx_aloadn0N, dX8_init_1, xx_ivP, zz_c0, zz_c3, zz_c1, zz_c2, zz_c5, zz_c8, zz_c6, zz_R, List.length_cons, List.length_nil, List.take_succ_cons, List.take_zero, List.drop_succ_cons, List.drop_zero, List.reverse_cons, List.reverse_nil, List.nil_append, List.cons_append, rb_cat, List.map_cons, List.map_nil, List.sum_cons, List.sum_nil, Value.category, rb_isR, rb_isS, Option.toList_some, Option.toList_none, tv_8_3, dX8_init_4, dX8_init_5, xx_new, zz_un, tn_8_9, dX8_init_8, xx_dupi, xx_dupr, xx_dupz, dX8_init_9, tv_8_11, dX8_init_12, xx_putf, zz_q, zz_p, zz_ti, zz_tl, zz_t0, zz_t1, zz_to, zz_ta, List.getElem?_cons_zero, List.getElem?_cons_succ, List.set_cons_zero, List.set_cons_succ, tf_8_12, dX8_init_15, dX8_init_16, tn_8_16, dX8_init_19, dX8_init_20, dX8_init_21, xx_getf, zz_f, zz_g, zz_v, dX8_init_24, tv_8_18, dX8_init_27, tf_8_21, dX8_init_30, dX8_init_31, tn_8_25, dX8_init_34, dX8_init_35, tv_8_27, dX8_init_38, tf_8_28, dX8_init_41, dX8_init_42, tn_8_32, dX8_init_45, dX8_init_46, tv_8_34, dX8_init_49, tf_8_35, dX8_init_52, dX8_init_53, xx_iconst, kc_2, dX8_init_54, xx_anew, zz_ua, ta_8_32, dX8_init_57, tf_8_39, dX8_init_60, dX8_init_61, tn_8_43, dX8_init_64, dX8_init_65, kc_1, dX8_init_66, tv_8_45, dX8_init_69, tf_8_48, dX8_init_72, xx_vret, df_0, df_2, df_4, df_6, df_7, mm_mk, mm_2, List.length_cons, List.length_nil, Nat.reduceAdd, Nat.zero_add, Nat.add_zero, List.cons_append, List.nil_append, mm_lo, mm_rd, Nat.reduceSub, mm_wlo, mm_wr, List.set_cons_zero, List.set_cons_succ, eT, eR, eW, A6, B6, t6', u6', g1, g2, w1, w2, S85, J12, sc, Nat.add_assoc, cl_lit, nn_lit, not_false_eq_true]
  have low2 : ∀ k, k < 99 → k ≠ 6 → (mm (rb_wr τ2' 6 (.inr (8, [.ref 7, .ref 9, .ref 12, .ref 85, .ref 99, .ref 100]))) 99 [.inl (3, 2, .inr (.inr (.inr (.inr fun _ => none)))), brw 101 (nI 1) (nI 0), .inl (0, 4 * 1, .inl fun _ => 0)] (τ2.2.2 + 9)).1 k = τ2.1 k := fun k hk h6 => by rw [mm_lo hk, wr_ne h6, h2', wr_ne h6]
  have low1 : ∀ k, k < 85 → k ≠ 6 → (mm (rb_wr τ2' 6 (.inr (8, [.ref 7, .ref 9, .ref 12, .ref 85, .ref 99, .ref 100]))) 99 [.inl (3, 2, .inr (.inr (.inr (.inr fun _ => none)))), brw 101 (nI 1) (nI 0), .inl (0, 4 * 1, .inl fun _ => 0)] (τ2.2.2 + 9)).1 k = τ1.1 k := fun k hk h6 => by rw [low2 k (by omega) h6, lowB k hk h6]
  obtain ⟨j1, ⟨c1, c2, gf, c3, c4⟩, ⟨d1, d2, gf2, d3, d4⟩⟩ := J1
  refine ⟨_, run, ⟨⟨?_, ⟨c1, ?_, gf, ?_, c4⟩, ⟨d1, ?_, gf2, ?_, d4⟩⟩, ?_, ?_, ?_, ⟨fun _ => 0, fun _ => 0, 0, 0, 0, 0, ?_, ?_, ?_⟩, ?_, ?_, ?_⟩, fun o ho => ?_, fun k hk => ?_, fun k hk => ?_, rfl, ?_⟩
  · exact (low1 12 (by omega) (by omega)).trans j1
  · exact (low1 15 (by omega) (by omega)).trans c2
  · exact (low1 16 (by omega) (by omega)).trans c3
  · exact (low1 44 (by omega) (by omega)).trans d2
  · exact (low1 45 (by omega) (by omega)).trans d3
  · rw [mm_lo (by omega), wr_at]
  · exact (low1 7 (by omega) (by omega)).trans A7
  · exact (low1 8 (by omega) (by omega)).trans A8
  · exact (low1 9 (by omega) (by omega)).trans A9
  · exact (low1 10 (by omega) (by omega)).trans A10
  · exact (low1 11 (by omega) (by omega)).trans A11
  · exact mm_at (c := _) (by omega) rfl
  · exact mm_at (c := _) (by omega) rfl
  · exact mm_at (c := _) (by omega) rfl
  · exact (low2 (85 + o) (by omega) (by omega)).trans (S2 o ho)
  · exact (low1 k (by omega) (by omega)).trans (sp1 k hk)
  · rw [low1 k (by omega) (by omega), fr1 k (by omega), hτA, mm_lo hk]
  · show τ2.2.2 + 9 = _
    rw [s2, hτB, mm_22, s1, hτA, mm_22]
/-- the model's object -/
abbrev mo (ih lt ra tl fa ds : Int32) : va_E := .inr (9, [.ref 103, .ref 104, .ref 105, .ref 106, .int ih, .ref 107, .ref 108, .ref 109, .ref 110, .ref 111, .ref 112, .ref 113, .int lt, .int ra, .int tl, .int fa, .int ds])
theorem i_model (hσ : σ.2.1 = 103) (h : σ.1 102 = some (.inr (9, [.null, .null, .null, .null, .int 0, .null, .null, .null, .null, .null, .null, .null, .int 0, .int 0, .int 0, .int 0, .int 0]))) : ∃ σ', rb_R (d + 1) 133 [.ref 102] σ = some (none, σ') ∧ σ'.1 102 = some (mo 0 0 0 0 0 0) ∧ σ'.1 103 = some (.inl (0, 2911, .inl (upd (fun _ => 0) 50 4))) ∧ σ'.1 104 = some (.inl (0, 5822, .inl fun _ => 0)) ∧ σ'.1 105 = some (.inl (0, 2, .inl fun _ => 0)) ∧ σ'.1 106 = some (.inl (0, 4, .inl fun _ => 0)) ∧ σ'.1 107 = some (.inl (1, 22, .inr (.inl fun _ => 0))) ∧ σ'.1 108 = some (.inl (1, 10, .inr (.inl fun _ => 0))) ∧ σ'.1 109 = some (.inl (1, 10, .inr (.inl fun _ => 0))) ∧ σ'.1 110 = some (.inl (1, 2, .inr (.inl fun _ => 0))) ∧ σ'.1 111 = some (.inl (0, 4, .inl fun _ => 0)) ∧ σ'.1 112 = some (.inl (1, 4, .inr (.inl fun _ => 0))) ∧ σ'.1 113 = some (.inl (0, 200, .inl fun _ => 0)) ∧ (∀ k, k < 102 → σ'.1 k = σ.1 k) ∧ σ'.2.1 = 114 ∧ σ'.2.2 = σ.2.2 + 8991 := by
  have e0 : σ = mm σ 102 [.inr (9, [.null, .null, .null, .null, .int 0, .null, .null, .null, .null, .null, .null, .null, .int 0, .int 0, .int 0, .int 0, .int 0])] σ.2.2 := by
    refine Prod.ext ?_ (Prod.ext hσ rfl)
    funext k
    by_cases hk : 102 ≤ k ∧ k < 102 + 1
    · have hk' : k = 102 := by omega
      rw [hk', h]
      rfl
    · exact (if_neg hk).symm
  have i50 : rb_in 50 2911 = true := by decide +kernel
  have run : rb_R (d + 1) 133 [.ref 102] σ = some (none, mm σ 102 [.inr (9, [.ref 103, .ref 104, .ref 105, .ref 106, .int 0, .ref 107, .ref 108, .ref 109, .ref 110, .ref 111, .ref 112, .ref 113, .int 0, .int 0, .int 0, .int 0, .int 0]), .inl (0, 2911, .inl (upd (fun _ => 0) 50 4)), .inl (0, 5822, .inl fun _ => 0), .inl (0, 2, .inl fun _ => 0), .inl (0, 4, .inl fun _ => 0), .inl (1, 22, .inr (.inl fun _ => 0)), .inl (1, 10, .inr (.inl fun _ => 0)), .inl (1, 10, .inr (.inl fun _ => 0)), .inl (1, 2, .inr (.inl fun _ => 0)), .inl (0, 4, .inl fun _ => 0), .inl (1, 4, .inr (.inl fun _ => 0)), .inl (0, 200, .inl fun _ => 0)] (σ.2.2 + 8991)) := by
    conv => lhs; rw [e0]
    rw [en_133 (k := 100) (ls := [some (.ref 102)]) rfl]
    simp (disch := first | omega | (simp only [List.length_cons, List.length_nil]; omega)) only [rb_gg_eq, rb_ct_go, rb_ct_end, rb_ct_ite, Nat.reduceAdd, Nat.zero_add, wr_at, wr_wr, true_and, and_true, and_self, true_or, or_true, false_or, or_false, ↓reduceIte, Nat.reduceLT, Nat.reduceLeDiff, Nat.reduceEqDiff, lg_cmp_ge, lg_cmp_le, lg_cmp_gt, lg_cmp_lt, lg_cmp_eq, Bool.false_eq_true, reduceCtorEq, mg_i, mg_l, decide_true, beq_self_eq_true, Nat.reduceBEq, st_133, dX9_init_0, xx_aloadn0, xx_aloadn0N, dX9_init_1, xx_ivP, zz_c0, zz_c3, zz_c1, zz_c2, zz_c5, zz_c8, zz_c6, zz_R, List.length_cons, List.length_nil, List.take_succ_cons, List.take_zero, List.drop_succ_cons, List.drop_zero, List.reverse_cons, List.reverse_nil, List.nil_append, List.cons_append, rb_cat, List.map_cons, List.map_nil, List.sum_cons, List.sum_nil, Value.category, rb_isR, rb_isS, Option.toList_some, Option.toList_none, tv_9_1, dX9_init_4, dX9_init_5, xx_sipush, ks_2911, dX9_init_8, xx_newI, xx_newJ, dX9_init_10, xx_putf, zz_q, zz_p, zz_ti, zz_tl, zz_t0, zz_t1, zz_to, zz_ta, List.getElem?_cons_zero, List.getElem?_cons_succ, List.set_cons_zero, List.set_cons_succ, tf_9_7, dX9_init_13, dX9_init_14, ks_5822, dX9_init_17, dX9_init_19, tf_9_13, dX9_init_22, dX9_init_23, xx_iconst, kc_2, dX9_init_24, dX9_init_26, tf_9_16, dX9_init_29, dX9_init_30, kc_4, dX9_init_31, dX9_init_33, tf_9_19, dX9_init_36, dX9_init_37, xx_bipush, kb_22, dX9_init_39, dX9_init_41, tf_9_22, dX9_init_44, dX9_init_45, kb_10, dX9_init_47, dX9_init_49, tf_9_26, dX9_init_52, dX9_init_53, dX9_init_55, dX9_init_57, tf_9_29, dX9_init_60, dX9_init_61, dX9_init_62, dX9_init_64, tf_9_32, dX9_init_67, dX9_init_68, dX9_init_69, dX9_init_71, tf_9_35, dX9_init_74, dX9_init_75, dX9_init_76, dX9_init_78, tf_9_38, dX9_init_81, dX9_init_82, ks_200, dX9_init_85, dX9_init_87, tf_9_41, dX9_init_90, dX9_init_91, xx_getf, zz_f, zz_g, zz_v, dX9_init_94, kb_50, dX9_init_96, dX9_init_97, xx_iast, zz_wi, dX9_init_98, xx_vret, mm_mk, mm_2, List.length_cons, List.length_nil, Nat.reduceAdd, Nat.zero_add, Nat.add_zero, List.cons_append, List.nil_append, mm_lo, mm_rd, Nat.reduceSub, mm_wlo, mm_wr, List.set_cons_zero, List.set_cons_succ, Nat.add_assoc, cl_lit, nn_lit, not_false_eq_true, i50]
  refine ⟨_, run, mm_at (c := _) (by omega) rfl, mm_at (c := _) (by omega) rfl, mm_at (c := _) (by omega) rfl, mm_at (c := _) (by omega) rfl, mm_at (c := _) (by omega) rfl, mm_at (c := _) (by omega) rfl, mm_at (c := _) (by omega) rfl, mm_at (c := _) (by omega) rfl, mm_at (c := _) (by omega) rfl, mm_at (c := _) (by omega) rfl, mm_at (c := _) (by omega) rfl, mm_at (c := _) (by omega) rfl, fun k hk => ?_, rfl, rfl⟩
  rw [mm_lo hk]
end
