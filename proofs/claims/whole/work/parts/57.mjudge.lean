/-! ===== the model's fence and verdict are the class's ===== -/
abbrev sf (st : Nat → Int32) : Nat → Int32 := fun k => st (25 * 0 + k)
abbrev sg (st : Nat → Int32) : Nat → Int32 := fun k => st (25 * 1 + k)
section
variable {d : Nat} {σ : rb_S} {W : Nat → Nat → sI} {bx : Nat → Int32} {ih lt ra tl fa ds : Int32} {st : Nat → Int32}
theorem mid_eq {x y : Int32} (h1 : -512 ≤ x.toInt) (h2 : x.toInt ≤ y.toInt) (h3 : y.toInt ≤ 512) : ((fdiv (x + y).toInt64 2).toInt32.toInt64, (fdiv (x + y).toInt64 2).toInt32.toInt64) = mid (x.toInt64, y.toInt64) := by
  obtain ⟨m1, m2, m3, m4⟩ := mid_b h1 h2 h3
  rw [m2, m3]; rfl
theorem ib_mid {x y : Int32} (h1 : -512 ≤ x.toInt) (h2 : x.toInt ≤ y.toInt) (h3 : y.toInt ≤ 512) : ib 512 (mid (x.toInt64, y.toInt64)) := by
  obtain ⟨m1, m2, m3, m4⟩ := mid_b h1 h2 h3
  refine ⟨Int.le_refl _, ?_, ?_⟩
  · show _ ≤ (fdiv (x.toInt64 + y.toInt64) 2).toInt
    rw [m1]; omega
  · show (fdiv (x.toInt64 + y.toInt64) 2).toInt ≤ _
    rw [m1]; omega
theorem p_fences (hM : σ.1 102 = some (mo ih lt ra tl fa ds)) (hS : σ.1 103 = some (.inl (0, 2911, .inl st))) (hf : cb (sf st)) (hg : cb (sg st)) (hb : okB bx) : ∃ W', rb_R (d + 6) 149 [.ref 102] (ml σ W bx) = some (some (.int (if hz (fD (sf st) (sg st) (xb bx) (yb bx)) then 0 else 1)), ml σ W' bx) ∧ W' 107 6 = fD (sf st) (sg st) (xb bx) (yb bx) ∧ (¬ hz (fD (sf st) (sg st) (xb bx) (yb bx)) → W' 107 7 = fFX (sf st) (sg st) (xb bx) (yb bx) ∧ W' 107 8 = fFY (sf st) (sg st) (xb bx) (yb bx)) := by
  have hM' : ∀ W, (ml σ W bx).1 102 = some (mo ih lt ra tl fa ds) := fun W => (ml_no (by omega)).trans hM
  obtain ⟨r0, r1, r2, r3⟩ : rb_in 0 4 = true ∧ rb_in 1 4 = true ∧ rb_in 2 4 = true ∧ rb_in 3 4 = true := ⟨rfl, rfl, rfl, rfl⟩
  obtain ⟨c0, c1, c2, c3⟩ : (0 : Int32).toNatClampNeg = 0 ∧ (1 : Int32).toNatClampNeg = 1 ∧ (2 : Int32).toNatClampNeg = 2 ∧ (3 : Int32).toNatClampNeg = 3 := ⟨rfl, rfl, rfl, rfl⟩
  have hX := okB_x hb
  have hY := okB_y hb
  have mX := mid_eq hb.1.1 hb.1.2.1 hb.1.2.2
  have mY := mid_eq hb.2.1 hb.2.2.1 hb.2.2.2
  have bX := ib_mid hb.1.1 hb.1.2.1 hb.1.2.2
  have bY := ib_mid hb.2.1 hb.2.2.1 hb.2.2.2
  change _ = mid (xb bx) at mX
  change _ = mid (yb bx) at mY
  change ib 512 (mid (xb bx)) at bX
  change ib 512 (mid (yb bx)) at bY
  -- at the point
  obtain ⟨W1, e1, a1, f1⟩ := p_pow (d := d + 1) (σ := σ) (W := W) (bx := bx) (p := 108) (lo := (fdiv (bx 0 + bx 1).toInt64 2).toInt32) (hi := (fdiv (bx 0 + bx 1).toInt64 2).toInt32) hM (by omega)
  obtain ⟨W2, e2, a2, f2⟩ := p_pow (d := d + 1) (σ := σ) (W := W1) (bx := bx) (p := 109) (lo := (fdiv (bx 2 + bx 3).toInt64 2).toInt32) (hi := (fdiv (bx 2 + bx 3).toInt64 2).toInt32) hM (by omega)
  rw [mX] at a1
  rw [mY] at a2
  have a1' : ∀ t, t ≤ 4 → W2 108 t = pw (mid (xb bx)) t := fun t ht => by rw [f2 108 (by omega) (by omega)]; exact a1 t ht
  obtain ⟨W3, e3, v3, k3, t3⟩ := p_reck (d := d) (σ := σ) (W := W2) (bx := bx) (q := 0) (wh := 0) (u := 0) hM hS (by omega) (by omega) (by omega)
  rw [mS_of a1' a2, mS_0 hf bX bY] at v3
  obtain ⟨W4, e4, v4, k4, t4⟩ := p_reck (d := d) (σ := σ) (W := W3) (bx := bx) (q := 1) (wh := 0) (u := 1) hM hS (by omega) (by omega) (by omega)
  rw [k3 108 (by omega), k3 109 (by omega), mS_of a1' a2, mS_0 hg bX bY] at v4
  -- over the box
  obtain ⟨W5, e5, a5, b5, k5, -⟩ := p_box (d := d) (σ := σ) (W := W4) (bx := bx) hM
  obtain ⟨W6, e6, v6, k6, t6⟩ := p_reck (d := d) (σ := σ) (W := W5) (bx := bx) (q := 0) (wh := 1) (u := 2) hM hS (by omega) (by omega) (by omega)
  rw [mS_of a5 b5, mS_1 hf hX hY] at v6
  obtain ⟨W7, e7, v7, k7, t7⟩ := p_reck (d := d) (σ := σ) (W := W6) (bx := bx) (q := 0) (wh := 2) (u := 3) hM hS (by omega) (by omega) (by omega)
  rw [k6 108 (by omega), k6 109 (by omega), mS_of a5 b5, mS_2 hf hX hY] at v7
  obtain ⟨W8, e8, v8, k8, t8⟩ := p_reck (d := d) (σ := σ) (W := W7) (bx := bx) (q := 1) (wh := 1) (u := 4) hM hS (by omega) (by omega) (by omega)
  rw [k7 108 (by omega), k7 109 (by omega), k6 108 (by omega), k6 109 (by omega), mS_of a5 b5, mS_1 hg hX hY] at v8
  obtain ⟨W9, e9, v9, k9, t9⟩ := p_reck (d := d) (σ := σ) (W := W8) (bx := bx) (q := 1) (wh := 2) (u := 5) hM hS (by omega) (by omega) (by omega)
  rw [k8 108 (by omega), k8 109 (by omega), k7 108 (by omega), k7 109 (by omega), k6 108 (by omega), k6 109 (by omega), mS_of a5 b5, mS_2 hg hX hY] at v9
  have x0 : W9 107 0 = pV (sf st) (mid (xb bx)) (mid (yb bx)) := by rw [t9 0 (by omega) (by omega), t8 0 (by omega) (by omega), t7 0 (by omega) (by omega), t6 0 (by omega) (by omega), k5, t4 0 (by omega) (by omega), v3]
  have x1 : W9 107 1 = pV (sg st) (mid (xb bx)) (mid (yb bx)) := by rw [t9 1 (by omega) (by omega), t8 1 (by omega) (by omega), t7 1 (by omega) (by omega), t6 1 (by omega) (by omega), k5, v4]
  have x2 : W9 107 2 = pS true (sf st) (xb bx) (yb bx) := by rw [t9 2 (by omega) (by omega), t8 2 (by omega) (by omega), t7 2 (by omega) (by omega), v6]
  have x3 : W9 107 3 = pS false (sf st) (xb bx) (yb bx) := by rw [t9 3 (by omega) (by omega), t8 3 (by omega) (by omega), v7]
  have x4 : W9 107 4 = pS true (sg st) (xb bx) (yb bx) := by rw [t9 4 (by omega) (by omega), v8]
  have x5 : W9 107 5 = pS false (sg st) (xb bx) (yb bx) := v9
  -- D
  obtain ⟨Wa, ea, va, ta, ka⟩ := p_cross (d := d + 1) (σ := σ) (W := W9) (bx := bx) (a := 2) (b := 5) (c := 3) (e := 4) (t := 6) hM (by omega) (by omega) (by omega) (by omega) (by omega)
  rw [x2, x5, x3, x4] at va
  change Wa 107 6 = fD (sf st) (sg st) (xb bx) (yb bx) at va
  have eb := p_hasNot (d := d + 4) (σ := σ) (W := Wa) (bx := bx) (u := 6) hM (by omega)
  rw [va] at eb
  have hD := fD_b hf hg hX hY
  have hnz := fD_nz hf hg hX hY
  generalize hDD : fD (sf st) (sg st) (xb bx) (yb bx) = D at *
  simp only [Nat.reduceMul, ← lit_0, ← lit_1, ← lit_2, ← lit_4, ← lit_6, ← lit_8, ← lit_10, ← lit_12] at e3 e4 e6 e7 e8 e9 ea eb
  by_cases hd : hz D
  · rw [if_pos hd] at eb ⊢
    refine ⟨Wa, ?_, va, fun h => absurd hd h⟩
    rw [en_149 (k := 140) (ls := [some (.ref 102), none, none]) rfl]
    simp only [rb_gg_eq, rb_ct_go, rb_ct_end, rb_ct_ite, Nat.reduceAdd, Nat.zero_add, wr_at, wr_wr, true_and, and_true, and_self, true_or, or_true, false_or, or_false, ↓reduceIte, Nat.reduceLT, Nat.reduceLeDiff, Nat.reduceEqDiff, lg_cmp_ge, lg_cmp_le, lg_cmp_gt, lg_cmp_lt, lg_cmp_eq, Bool.false_eq_true, reduceCtorEq, mg_i, mg_l, decide_true, beq_self_eq_true, Nat.reduceBEq, st_149, dX9_fences_0, xx_aloadn0, xx_aloadn0N, dX9_fences_1, xx_getf, zz_f, zz_g, zz_v, List.getElem?_cons_zero, List.getElem?_cons_succ, tf_9_35, dX9_fences_4, xx_iconst, kc_0, dX9_fences_5, xx_iald, zz_yi, zz_yx, dX9_fences_6, dX9_fences_7, dX9_fences_10, kc_1, dX9_fences_11, dX9_fences_12, xx_ivS, zz_c0, zz_c3, zz_c1, zz_c2, zz_c5, zz_c8, zz_c6, zz_R, List.length_cons, List.length_nil, List.take_succ_cons, List.take_zero, List.drop_succ_cons, List.drop_zero, List.reverse_cons, List.reverse_nil, List.nil_append, List.cons_append, rb_cat, List.map_cons, List.map_nil, List.sum_cons, List.sum_nil, Value.category, rb_isR, rb_isS, Option.toList_some, Option.toList_none, tv_9_77, dX9_fences_15, xx_istoren1, zz_invi, zz_invr, zz_invz, zz_invn, zz_invl, dX9_fences_16, dX9_fences_17, dX9_fences_20, kc_2, dX9_fences_21, dX9_fences_22, dX9_fences_23, dX9_fences_26, kc_3, dX9_fences_27, dX9_fences_28, dX9_fences_31, xx_istoren2, dX9_fences_32, dX9_fences_33, dX9_fences_34, tf_9_26, dX9_fences_37, xx_iloadn1, dX9_fences_38, dX9_fences_39, xx_ivV, tv_9_73, dX9_fences_42, dX9_fences_43, dX9_fences_44, tf_9_29, dX9_fences_47, xx_iloadn2, dX9_fences_48, dX9_fences_49, dX9_fences_52, dX9_fences_53, dX9_fences_54, dX9_fences_55, dX9_fences_56, tv_9_81, dX9_fences_59, dX9_fences_60, dX9_fences_61, dX9_fences_62, dX9_fences_63, dX9_fences_66, dX9_fences_67, tv_9_84, dX9_fences_70, dX9_fences_71, dX9_fences_72, dX9_fences_73, kc_4, dX9_fences_74, dX9_fences_77, dX9_fences_78, dX9_fences_79, dX9_fences_80, xx_bipush, kb_6, dX9_fences_82, dX9_fences_85, dX9_fences_86, dX9_fences_87, dX9_fences_88, kb_8, dX9_fences_90, dX9_fences_93, dX9_fences_94, dX9_fences_95, dX9_fences_96, kb_10, dX9_fences_98, dX9_fences_101, dX9_fences_102, dX9_fences_103, dX9_fences_105, dX9_fences_107, dX9_fences_109, kb_12, dX9_fences_111, tv_9_87, dX9_fences_114, dX9_fences_115, dX9_fences_117, tv_9_91, dX9_fences_120, xx_ifne, rb_jp, Int.cast_ofNat_Int, Int.reduceAdd, Int.reduceLE, Int.reduceToNat, Int.reduceNeg, dX9_fences_123, dX9_fences_124, xx_iret, xx_zret0, xx_zret1, dX9_fences_125, dX9_fences_126, dX9_fences_128, dX9_fences_129, dX9_fences_131, dX9_fences_132, kb_14, dX9_fences_134, dX9_fences_137, dX9_fences_138, dX9_fences_140, dX9_fences_142, dX9_fences_144, tv_9_95, dX9_fences_147, dX9_fences_148, dX9_fences_149, dX9_fences_151, tv_9_98, dX9_fences_154, dX9_fences_155, dX9_fences_156, dX9_fences_157, dX9_fences_159, dX9_fences_160, kb_16, dX9_fences_162, dX9_fences_165, dX9_fences_166, dX9_fences_168, dX9_fences_170, dX9_fences_172, dX9_fences_175, dX9_fences_176, dX9_fences_177, dX9_fences_179, dX9_fences_182, dX9_fences_183, hM', ml_111, r0, r1, r2, r3, c0, c1, c2, c3, p_middle, e1, e2, e3, e4, e5, e6, e7, e8, e9, ea, eb]
  · rw [if_neg hd] at eb ⊢
    obtain ⟨nz1, nz2⟩ := hnz hd
    have one0 : ((1 : Int32) = 0) = False := eq_false (by decide)
    -- x
    obtain ⟨Wc, ec, vc, tc, kc⟩ := p_cross (d := d + 1) (σ := σ) (W := Wa) (bx := bx) (a := 5) (b := 0) (c := 3) (e := 1) (t := 7) hM (by omega) (by omega) (by omega) (by omega) (by omega)
    rw [ta 5 (by omega) (by omega), ta 0 (by omega) (by omega), ta 3 (by omega) (by omega), ta 1 (by omega) (by omega), x5, x0, x3, x1] at vc
    have c6 : Wc 107 6 = D := by rw [tc 6 (by omega) (by omega), va]
    have ed := p_quot (d := d + 2) (σ := σ) (W := Wc) (bx := bx) (a := 7) (b := 6) (t := 7) hM (by omega) (by omega) (by omega) (by rw [c6]; exact nz1) (by rw [c6]; exact nz2)
    rw [c6, vc, quo_eq (cross_b (pS_b hg hX hY) (pV_b hf bX bY) (pS_b hf hX hY) (pV_b hg bX bY)) hD nz1 nz2] at ed
    obtain ⟨Wd, hWd⟩ : ∃ Wd, Wd = va_up Wc 107 (va_up (Wc 107) 7 (iquot (icross (pS false (sg st) (xb bx) (yb bx)) (pV (sf st) (mid (xb bx)) (mid (yb bx))) (pS false (sf st) (xb bx) (yb bx)) (pV (sg st) (mid (xb bx)) (mid (yb bx)))) D)) := ⟨_, rfl⟩
    rw [← hWd] at ed
    have ee := p_subt (d := d + 4) (σ := σ) (W := Wd) (bx := bx) (u := 7) (f := (fdiv (bx 0 + bx 1).toInt64 2).toInt32) hM (by omega)
    obtain ⟨We, hWe⟩ : ∃ We, We = va_up Wd 107 (va_up (Wd 107) 7 (iless (mid (xb bx)) (Wd 107 7))) := ⟨_, rfl⟩
    rw [mX, ← hWe] at ee
    have te : ∀ u, u ≤ 8 → u ≠ 7 → We 107 u = Wa 107 u := fun u hu h7 => by rw [hWe, va_up_self, va_up_ne _ _ h7, hWd, va_up_self, va_up_ne _ _ h7, tc u hu h7]
    have ve : We 107 7 = fFX (sf st) (sg st) (xb bx) (yb bx) := by
      rw [hWe, va_up_self, va_up_self, hWd, va_up_self, va_up_self]
      unfold fFX
      rw [hDD]
    -- y
    obtain ⟨Wg, eg, vg, tg, kg⟩ := p_cross (d := d + 1) (σ := σ) (W := We) (bx := bx) (a := 2) (b := 1) (c := 4) (e := 0) (t := 8) hM (by omega) (by omega) (by omega) (by omega) (by omega)
    rw [te 2 (by omega) (by omega), te 1 (by omega) (by omega), te 4 (by omega) (by omega), te 0 (by omega) (by omega), ta 2 (by omega) (by omega), ta 1 (by omega) (by omega), ta 4 (by omega) (by omega), ta 0 (by omega) (by omega), x2, x1, x4, x0] at vg
    have g6 : Wg 107 6 = D := by rw [tg 6 (by omega) (by omega), te 6 (by omega) (by omega), va]
    have eh := p_quot (d := d + 2) (σ := σ) (W := Wg) (bx := bx) (a := 8) (b := 6) (t := 8) hM (by omega) (by omega) (by omega) (by rw [g6]; exact nz1) (by rw [g6]; exact nz2)
    rw [g6, vg, quo_eq (cross_b (pS_b hf hX hY) (pV_b hg bX bY) (pS_b hg hX hY) (pV_b hf bX bY)) hD nz1 nz2] at eh
    obtain ⟨Wh, hWh⟩ : ∃ Wh, Wh = va_up Wg 107 (va_up (Wg 107) 8 (iquot (icross (pS true (sf st) (xb bx) (yb bx)) (pV (sg st) (mid (xb bx)) (mid (yb bx))) (pS true (sg st) (xb bx) (yb bx)) (pV (sf st) (mid (xb bx)) (mid (yb bx)))) D)) := ⟨_, rfl⟩
    rw [← hWh] at eh
    have ei := p_subt (d := d + 4) (σ := σ) (W := Wh) (bx := bx) (u := 8) (f := (fdiv (bx 2 + bx 3).toInt64 2).toInt32) hM (by omega)
    obtain ⟨Wi, hWi⟩ : ∃ Wi, Wi = va_up Wh 107 (va_up (Wh 107) 8 (iless (mid (yb bx)) (Wh 107 8))) := ⟨_, rfl⟩
    rw [mY, ← hWi] at ei
    have ti : ∀ u, u ≤ 8 → u ≠ 8 → Wi 107 u = We 107 u := fun u hu h8 => by rw [hWi, va_up_self, va_up_ne _ _ h8, hWh, va_up_self, va_up_ne _ _ h8, tg u hu h8]
    have vi : Wi 107 8 = fFY (sf st) (sg st) (xb bx) (yb bx) := by
      rw [hWi, va_up_self, va_up_self, hWh, va_up_self, va_up_self]
      unfold fFY
      rw [hDD]
    simp only [Nat.reduceMul, ← lit_0, ← lit_1, ← lit_2, ← lit_4, ← lit_6, ← lit_8, ← lit_10, ← lit_12, ← lit_14, ← lit_16] at ec ed ee eg eh ei
    refine ⟨Wi, ?_, ?_, fun _ => ⟨?_, vi⟩⟩
    · rw [en_149 (k := 140) (ls := [some (.ref 102), none, none]) rfl]
      simp only [rb_gg_eq, rb_ct_go, rb_ct_end, rb_ct_ite, Nat.reduceAdd, Nat.zero_add, wr_at, wr_wr, true_and, and_true, and_self, true_or, or_true, false_or, or_false, ↓reduceIte, Nat.reduceLT, Nat.reduceLeDiff, Nat.reduceEqDiff, lg_cmp_ge, lg_cmp_le, lg_cmp_gt, lg_cmp_lt, lg_cmp_eq, Bool.false_eq_true, reduceCtorEq, mg_i, mg_l, decide_true, beq_self_eq_true, Nat.reduceBEq, st_149, dX9_fences_0, xx_aloadn0, xx_aloadn0N, dX9_fences_1, xx_getf, zz_f, zz_g, zz_v, List.getElem?_cons_zero, List.getElem?_cons_succ, tf_9_35, dX9_fences_4, xx_iconst, kc_0, dX9_fences_5, xx_iald, zz_yi, zz_yx, dX9_fences_6, dX9_fences_7, dX9_fences_10, kc_1, dX9_fences_11, dX9_fences_12, xx_ivS, zz_c0, zz_c3, zz_c1, zz_c2, zz_c5, zz_c8, zz_c6, zz_R, List.length_cons, List.length_nil, List.take_succ_cons, List.take_zero, List.drop_succ_cons, List.drop_zero, List.reverse_cons, List.reverse_nil, List.nil_append, List.cons_append, rb_cat, List.map_cons, List.map_nil, List.sum_cons, List.sum_nil, Value.category, rb_isR, rb_isS, Option.toList_some, Option.toList_none, tv_9_77, dX9_fences_15, xx_istoren1, zz_invi, zz_invr, zz_invz, zz_invn, zz_invl, dX9_fences_16, dX9_fences_17, dX9_fences_20, kc_2, dX9_fences_21, dX9_fences_22, dX9_fences_23, dX9_fences_26, kc_3, dX9_fences_27, dX9_fences_28, dX9_fences_31, xx_istoren2, dX9_fences_32, dX9_fences_33, dX9_fences_34, tf_9_26, dX9_fences_37, xx_iloadn1, dX9_fences_38, dX9_fences_39, xx_ivV, tv_9_73, dX9_fences_42, dX9_fences_43, dX9_fences_44, tf_9_29, dX9_fences_47, xx_iloadn2, dX9_fences_48, dX9_fences_49, dX9_fences_52, dX9_fences_53, dX9_fences_54, dX9_fences_55, dX9_fences_56, tv_9_81, dX9_fences_59, dX9_fences_60, dX9_fences_61, dX9_fences_62, dX9_fences_63, dX9_fences_66, dX9_fences_67, tv_9_84, dX9_fences_70, dX9_fences_71, dX9_fences_72, dX9_fences_73, kc_4, dX9_fences_74, dX9_fences_77, dX9_fences_78, dX9_fences_79, dX9_fences_80, xx_bipush, kb_6, dX9_fences_82, dX9_fences_85, dX9_fences_86, dX9_fences_87, dX9_fences_88, kb_8, dX9_fences_90, dX9_fences_93, dX9_fences_94, dX9_fences_95, dX9_fences_96, kb_10, dX9_fences_98, dX9_fences_101, dX9_fences_102, dX9_fences_103, dX9_fences_105, dX9_fences_107, dX9_fences_109, kb_12, dX9_fences_111, tv_9_87, dX9_fences_114, dX9_fences_115, dX9_fences_117, tv_9_91, dX9_fences_120, xx_ifne, rb_jp, Int.cast_ofNat_Int, Int.reduceAdd, Int.reduceLE, Int.reduceToNat, Int.reduceNeg, dX9_fences_123, dX9_fences_124, xx_iret, xx_zret0, xx_zret1, dX9_fences_125, dX9_fences_126, dX9_fences_128, dX9_fences_129, dX9_fences_131, dX9_fences_132, kb_14, dX9_fences_134, dX9_fences_137, dX9_fences_138, dX9_fences_140, dX9_fences_142, dX9_fences_144, tv_9_95, dX9_fences_147, dX9_fences_148, dX9_fences_149, dX9_fences_151, tv_9_98, dX9_fences_154, dX9_fences_155, dX9_fences_156, dX9_fences_157, dX9_fences_159, dX9_fences_160, kb_16, dX9_fences_162, dX9_fences_165, dX9_fences_166, dX9_fences_168, dX9_fences_170, dX9_fences_172, dX9_fences_175, dX9_fences_176, dX9_fences_177, dX9_fences_179, dX9_fences_182, dX9_fences_183, hM', ml_111, r0, r1, r2, r3, c0, c1, c2, c3, p_middle, e1, e2, e3, e4, e5, e6, e7, e8, e9, ea, eb, ec, ed, ee, eg, eh, ei, one0]
    · rw [ti 6 (by omega) (by omega), te 6 (by omega) (by omega), va]
    · rw [ti 7 (by omega) (by omega), ve]
end
