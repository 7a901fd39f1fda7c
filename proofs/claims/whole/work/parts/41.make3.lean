/-! ===== the judge, the class, the model: made ===== -/
section
variable {d : Nat} {σ : rb_S}
theorem i_judge (hσ : σ.2.1 = 13) (h : σ.1 12 = some (.inr (2, [.null, .null, .null, .null, .null, .null, .null, .null, .null, .null, .null, .null, .null, .null, .null, .null, .null, .null, .null, .null]))) : ∃ σ', rb_R (d + 3) 22 [.ref 12] σ = some (none, σ') ∧ JF σ' ∧ (∀ k, spK k → σ'.1 k = some (sp 0 0)) ∧ (∀ k, k < 12 → σ'.1 k = σ.1 k) ∧ σ'.2.1 = 85 ∧ σ'.2.2 = σ.2.2 + 188 := by
  have e0 : σ = mm σ 13 [] σ.2.2 := (mm_nil hσ).symm
  obtain ⟨τA, hτA⟩ : ∃ τ, τ = mm (rb_wr σ 12 (.inr (2, [.ref 13, .ref 14, .null, .null, .null, .null, .null, .null, .null, .null, .null, .null, .null, .null, .null, .null, .null, .null, .null, .null]))) 13 [sp 0 0, sp 0 0, .inr (1, [.null])] (σ.2.2 + 5) := ⟨_, rfl⟩
  obtain ⟨τ1, g1, a15, ⟨gf1, a16, b16⟩, a17, fr1, n1, s1⟩ := i_grid (d := d) (a := 15) (σ := τA) (by rw [hτA]; rfl) (by rw [hτA]; exact mm_at (c := _) (by omega) rfl)
  have t12 : τ1.1 12 = some (.inr (2, [.ref 13, .ref 14, .null, .null, .null, .null, .null, .null, .null, .null, .null, .null, .null, .null, .null, .null, .null, .null, .null, .null])) := by rw [fr1 12 (by omega), hτA, mm_lo (by omega), wr_at]
  obtain ⟨τ1', h1'⟩ : ∃ τ, τ = rb_wr τ1 12 (.inr (2, [.ref 13, .ref 14, .ref 15, .null, .null, .null, .null, .null, .null, .null, .null, .null, .null, .null, .null, .null, .null, .null, .null, .null])) := ⟨_, rfl⟩
  have w1 : rb_wr τ1 12 (.inr (2, [.ref 13, .ref 14, .ref 15, .null, .null, .null, .null, .null, .null, .null, .null, .null, .null, .null, .null, .null, .null, .null, .null, .null])) = mm τ1' 42 [] τ1.2.2 := by rw [← h1']; exact (mm_nil (σ := τ1') (n := 42) (by rw [h1', wr_21, n1])).symm.trans (by rw [h1', wr_22])
  have t12' : τ1'.1 12 = some (.inr (2, [.ref 13, .ref 14, .ref 15, .null, .null, .null, .null, .null, .null, .null, .null, .null, .null, .null, .null, .null, .null, .null, .null, .null])) := by rw [h1', wr_at]
  obtain ⟨τB, hτB⟩ : ∃ τ, τ = mm (rb_wr τ1' 12 (.inr (2, [.ref 13, .ref 14, .ref 15, .ref 42, .ref 43, .null, .null, .null, .null, .null, .null, .null, .null, .null, .null, .null, .null, .null, .null, .null]))) 42 [sp 0 0, sp 0 0, .inr (1, [.null])] (τ1.2.2 + 5) := ⟨_, rfl⟩
  obtain ⟨τ2, g2, a44, ⟨gf2, a45, b45⟩, a46, fr2, n2, s2⟩ := i_grid (d := d) (a := 44) (σ := τB) (by rw [hτB]; rfl) (by rw [hτB]; exact mm_at (c := _) (by omega) rfl)
  have u12 : τ2.1 12 = some (.inr (2, [.ref 13, .ref 14, .ref 15, .ref 42, .ref 43, .null, .null, .null, .null, .null, .null, .null, .null, .null, .null, .null, .null, .null, .null, .null])) := by rw [fr2 12 (by omega), hτB, mm_lo (by omega), wr_at]
  obtain ⟨τ2', h2'⟩ : ∃ τ, τ = rb_wr τ2 12 (.inr (2, [.ref 13, .ref 14, .ref 15, .ref 42, .ref 43, .ref 44, .null, .null, .null, .null, .null, .null, .null, .null, .null, .null, .null, .null, .null, .null])) := ⟨_, rfl⟩
  have w2 : rb_wr τ2 12 (.inr (2, [.ref 13, .ref 14, .ref 15, .ref 42, .ref 43, .ref 44, .null, .null, .null, .null, .null, .null, .null, .null, .null, .null, .null, .null, .null, .null])) = mm τ2' 71 [] τ2.2.2 := by rw [← h2']; exact (mm_nil (σ := τ2') (n := 71) (by rw [h2', wr_21, n2])).symm.trans (by rw [h2', wr_22])
  have u12' : τ2'.1 12 = some (.inr (2, [.ref 13, .ref 14, .ref 15, .ref 42, .ref 43, .ref 44, .null, .null, .null, .null, .null, .null, .null, .null, .null, .null, .null, .null, .null, .null])) := by rw [h2', wr_at]
  rw [hτA] at g1
  rw [hτB] at g2
  have run : rb_R (d + 3) 22 [.ref 12] σ = some (none, mm (rb_wr τ2' 12 (.inr (2, [.ref 13, .ref 14, .ref 15, .ref 42, .ref 43, .ref 44, .ref 71, .ref 72, .ref 73, .ref 74, .ref 75, .ref 76, .ref 77, .ref 78, .ref 79, .ref 80, .ref 81, .ref 82, .ref 83, .ref 84]))) 71 [sp 0 0, sp 0 0, sp 0 0, sp 0 0, sp 0 0, sp 0 0, sp 0 0, sp 0 0, sp 0 0, sp 0 0, sp 0 0, sp 0 0, sp 0 0, sp 0 0] (τ2.2.2 + 28)) := by
    conv => lhs; rw [e0]
    rw [en_22 (k := 160) (ls := [some (.ref 12)]) rfl]
    simp (disch := first | omega | (simp only [List.length_cons, List.length_nil]; omega)) only [rb_gg_eq, rb_ct_go, rb_ct_end, rb_ct_ite, Nat.reduceAdd, Nat.zero_add, wr_at, wr_wr, true_and, and_true, and_self, true_or, or_true, false_or, or_false, ↓reduceIte, Nat.reduceLT, Nat.reduceLeDiff, Nat.reduceEqDiff, lg_cmp_ge, lg_cmp_le, lg_cmp_gt, lg_cmp_lt, lg_cmp_eq, Bool.false_eq_true, reduceCtorEq, mg_i, mg_l, decide_true, beq_self_eq_true, Nat.reduceBEq, st_22, dX2_init_0, xx_aloadn0, xx_aloadn0N, dX2_init_1, xx_ivP, zz_c0, zz_c3, zz_c1, zz_c2, zz_c5, zz_c8, zz_c6, zz_R, List.length_cons, List.length_nil, List.take_succ_cons, List.take_zero, List.drop_succ_cons, List.drop_zero, List.reverse_cons, List.reverse_nil, List.nil_append, List.cons_append, rb_cat, List.map_cons, List.map_nil, List.sum_cons, List.sum_nil, Value.category, rb_isR, rb_isS, Option.toList_some, Option.toList_none, tv_2_3, dX2_init_4, dX2_init_5, xx_new, zz_un, tn_2_9, dX2_init_8, xx_dupi, xx_dupr, xx_dupz, dX2_init_9, tv_2_11, dX2_init_12, xx_putf, zz_q, zz_p, zz_ti, zz_tl, zz_t0, zz_t1, zz_to, zz_ta, List.getElem?_cons_zero, List.getElem?_cons_succ, List.set_cons_zero, List.set_cons_succ, tf_2_12, dX2_init_15, dX2_init_16, dX2_init_19, dX2_init_20, dX2_init_23, tf_2_18, dX2_init_26, dX2_init_27, tn_2_21, dX2_init_30, dX2_init_31, tv_2_23, dX2_init_34, tf_2_24, dX2_init_37, dX2_init_38, dX2_init_41, dX2_init_42, dX2_init_45, tf_2_28, dX2_init_48, dX2_init_49, dX2_init_52, dX2_init_53, dX2_init_56, tf_2_31, dX2_init_59, dX2_init_60, dX2_init_63, dX2_init_64, dX2_init_67, tf_2_34, dX2_init_70, dX2_init_71, dX2_init_74, dX2_init_75, dX2_init_78, tf_2_37, dX2_init_81, dX2_init_82, dX2_init_85, dX2_init_86, dX2_init_89, tf_2_40, dX2_init_92, dX2_init_93, dX2_init_96, dX2_init_97, dX2_init_100, tf_2_43, dX2_init_103, dX2_init_104, dX2_init_107, dX2_init_108, dX2_init_111, tf_2_46, dX2_init_114, dX2_init_115, dX2_init_118, dX2_init_119, dX2_init_122, tf_2_49, dX2_init_125, dX2_init_126, dX2_init_129, dX2_init_130, dX2_init_133, tf_2_52, dX2_init_136, dX2_init_137, dX2_init_140, dX2_init_141, dX2_init_144, tf_2_55, dX2_init_147, dX2_init_148, dX2_init_151, dX2_init_152, dX2_init_155, tf_2_58, dX2_init_158, dX2_init_159, dX2_init_162, dX2_init_163, dX2_init_166, tf_2_61, dX2_init_169, dX2_init_170, dX2_init_173, dX2_init_174, dX2_init_177, tf_2_64, dX2_init_180, dX2_init_181, dX2_init_184, dX2_init_185, dX2_init_188, tf_2_67, dX2_init_191, dX2_init_192, dX2_init_195, dX2_init_196, dX2_init_199, tf_2_70, dX2_init_202, dX2_init_203, dX2_init_206, dX2_init_207, dX2_init_210, tf_2_73, dX2_init_213, dX2_init_214, dX2_init_217, dX2_init_218, dX2_init_221, tf_2_76, dX2_init_224, xx_vret, df_5, df_1, mm_mk, mm_2, List.length_cons, List.length_nil, Nat.reduceAdd, Nat.zero_add, Nat.add_zero, List.cons_append, List.nil_append, mm_lo, mm_rd, Nat.reduceSub, mm_wlo, List.set_cons_zero, List.set_cons_succ, i_span, h, t12, t12', u12, u12', a15, a44, g1, g2, w1, w2, Nat.add_assoc]
  have low2 : ∀ k, k < 44 → k ≠ 12 → τ2'.1 k = τB.1 k := fun k hk h12 => by rw [h2', wr_ne h12, fr2 k hk]
  have lowB : ∀ k, k < 42 → k ≠ 12 → τB.1 k = τ1.1 k := fun k hk h12 => by rw [hτB, mm_lo hk, wr_ne h12, h1', wr_ne h12]
  have lowA : ∀ k, k < 15 → k ≠ 12 → τ1.1 k = τA.1 k := fun k hk h12 => fr1 k hk
  refine ⟨_, run, ⟨?_, ⟨Or.inl ⟨rfl, rfl, rfl⟩, ?_, gf1, ?_, fun k hk => b16 k hk⟩, ⟨Or.inr ⟨rfl, rfl, rfl⟩, ?_, gf2, ?_, fun k hk => b45 k hk⟩⟩, fun k hk => ?_, fun k hk => ?_, rfl, ?_⟩
  · rw [mm_lo (by omega), wr_at]
  · rw [mm_lo (by omega), wr_ne (by omega), low2 15 (by omega) (by omega), lowB 15 (by omega) (by omega), a15]
  · rw [mm_lo (by omega), wr_ne (by omega), low2 16 (by omega) (by omega), lowB 16 (by omega) (by omega), a16]
  · rw [mm_lo (by omega), wr_ne (by omega), h2', wr_ne (by omega), a44]
  · rw [mm_lo (by omega), wr_ne (by omega), h2', wr_ne (by omega), a45]
  · by_cases k71 : 71 ≤ k
    · refine mm_at (c := _) k71 ?_
      obtain ⟨i, hi⟩ : ∃ i, k - 71 = i := ⟨_, rfl⟩
      have hi14 : i < 14 := by omega
      rw [hi]
      match i, hi14 with
      | 0, _ => rfl
      | 1, _ => rfl
      | 2, _ => rfl
      | 3, _ => rfl
      | 4, _ => rfl
      | 5, _ => rfl
      | 6, _ => rfl
      | 7, _ => rfl
      | 8, _ => rfl
      | 9, _ => rfl
      | 10, _ => rfl
      | 11, _ => rfl
      | 12, _ => rfl
      | 13, _ => rfl
      | i + 14, hh => exact absurd hh (by omega)
    · rw [mm_lo (by omega), wr_ne (by omega), h2', wr_ne (by omega)]
      by_cases k46 : 46 ≤ k
      · have := a46 (k - 46) (by omega)
        rw [show 44 + 2 + (k - 46) = k by omega] at this
        exact this
      · rw [fr2 k (by omega), hτB]
        by_cases k42 : 42 ≤ k
        · refine mm_at (c := _) k42 ?_
          have hk' : k - 42 = 0 ∨ k - 42 = 1 := by omega
          rcases hk' with hk' | hk' <;> rw [hk'] <;> rfl
        · rw [mm_lo (by omega), wr_ne (by omega), h1', wr_ne (by omega)]
          by_cases k17 : 17 ≤ k
          · have := a17 (k - 17) (by omega)
            rw [show 15 + 2 + (k - 17) = k by omega] at this
            exact this
          · rw [fr1 k (by omega), hτA]
            refine mm_at (c := _) (by omega) ?_
            have hk' : k - 13 = 0 ∨ k - 13 = 1 := by omega
            rcases hk' with hk' | hk' <;> rw [hk'] <;> rfl
  · rw [mm_lo (by omega), wr_ne (by omega), low2 k (by omega) (by omega), lowB k (by omega) (by omega), lowA k (by omega) (by omega), hτA, mm_lo (by omega), wr_ne (by omega)]
  · show τ2.2.2 + 28 = _
    rw [s2, hτB, mm_22, s1, hτA, mm_22]
end
