/-! ===== step, steps, first ===== -/
section
variable {d : Nat} {σ τ : rb_S} {P : sP} {l : Int32} {Z : Nat → sI} {L : Nat} {xs : Nat → Int32}
theorem nI_z {n : Nat} (h : n < 2147483648) : (nI n = 0) ↔ n = 0 := by
  rw [lit_0, nI_eq' h (by omega)]
theorem adv1 {tn hn : Nat} {tg hg : Nat → Int32} {kf : Nat → Option Nat} {st : Nat → Int32} (hC : CB τ tn tg hn hg kf) (hR : RS P l st) : ∃ (r : Int32) (P' : sP) (Z' : Nat → sI) (st' : Nat → Int32), rb_R 10 90 [.ref 85, .ref 12] (nw τ P l Z) = some (some (.int r), nw τ P' l Z') ∧ RS P' l st' ∧ ∀ (d : Nat) (σ : rb_S) (W : Nat → Nat → sI) (bx : Nat → Int32) (ih lt ra tl fa ds : Int32), σ.1 102 = some (mo ih lt ra tl fa ds) → σ.1 103 = some (.inl (0, 2911, .inl st)) → ∃ (W' : Nat → Nat → sI) (bx' : Nat → Int32), rb_R (d + 8) 179 [.ref 102] (ml σ W bx) = some (some (.int r), ml (rb_wr σ 103 (.inl (0, 2911, .inl st'))) W' bx') := by
  obtain ⟨hN, hf, hl, ho, hs, hd, he⟩ := id hR
  obtain ⟨n5, n7, n9, n11⟩ := id hN
  by_cases c5 : P.2 5 = 0
  · refine ⟨-1000000004, P, Z, st, n_adv0 (d := 8) c5, hR, fun d σ W bx ih lt ra tl fa ds b1 b2 => ⟨W, bx, ?_⟩⟩
    rw [wr_id b2]
    exact m_step0 (d := d + 7) ((ml_no (by omega)).trans b1) ((ml_no (by omega)).trans b2) (by rw [ho.1, c5]; rfl)
  · by_cases c11 : P.2 11 = 200
    · refine ⟨-1000000005, P, Z, st, n_advF (d := 8) (by omega) hN c11, hR, fun d σ W bx ih lt ra tl fa ds b1 b2 => ⟨W, bx, ?_⟩⟩
      rw [wr_id b2]
      exact m_stepF (d := d + 7) ((ml_no (by omega)).trans b1) ((ml_no (by omega)).trans b2) (by rw [ho.1]; exact fun h => c5 ((nI_z (by omega)).mp h)) (by rw [he.1, c11]; rfl)
    · have h0 : 0 < P.2 5 := by omega
      have hk := wid_lt h0
      obtain ⟨g1, g2, g3, g4⟩ := RS_sf hR
      have hB : okB (fun j => P.1 6 (4 * wid P + j)) := ho.2.2 _ hk
      have st_eq : ∀ j, j < 4 → st (55 + 4 * wid P + j) = P.1 6 (4 * wid P + j) := fun j hj => by rw [Nat.add_assoc]; exact ho.2.1 _ (by omega)
      have hBs : okB (fun j => st (55 + 4 * wid P + j)) := by
        unfold okB at hB ⊢
        dsimp only at hB ⊢
        rw [st_eq 0 (by omega), st_eq 1 (by omega), st_eq 2 (by omega), st_eq 3 (by omega)]
        exact hB
      have hBx : ib 512 (bX (P.1 6) (wid P)) := by
        have := okB_x hB
        exact this
      have hBy : ib 512 (bY (P.1 6) (wid P)) := by
        have := okB_y hB
        exact this
      have hnz : nzD (fD (P.1 2) (P.1 4) (bX (P.1 6) (wid P)) (bY (P.1 6) (wid P))) := fD_nz hf.1 hf.2.1 hBx hBy
      obtain ⟨Z', e1⟩ := n_adv (d := 4) (σ := τ) (l := l) (Z := Z) hnz hC.1 h0 hN (by omega)
      have e0 := st_eq 0 (by omega)
      simp only [Nat.add_zero] at e0
      have mk := fun (d : Nat) (σ : rb_S) (W : Nat → Nat → sI) (bx : Nat → Int32) (ih lt ra tl fa ds : Int32) (b1 : σ.1 102 = some (mo ih lt ra tl fa ds)) (b2 : σ.1 103 = some (.inl (0, 2911, .inl st))) => m_step (d := d) (σ := σ) (W := W) (bx := bx) b1 b2 g1 g2 ho.1 hs.1 hd.1 he.1 h0 n5 (by omega) (by omega) (by omega) (RS_pick hR h0) hk hBs
      rw [e0, st_eq 1 (by omega), st_eq 2 (by omega), st_eq 3 (by omega)] at mk
      have jeq : ∀ bx' : Nat → Int32, xb bx' = ((P.1 6 (4 * wid P)).toInt64, (P.1 6 (4 * wid P + 1)).toInt64) → yb bx' = ((P.1 6 (4 * wid P + 2)).toInt64, (P.1 6 (4 * wid P + 3)).toInt64) → jud (sf st) (sg st) (xb bx') (yb bx') = jw P := fun bx' x1 y1 => by
        rw [x1, y1]; exact (jud_congr g3 g4).symm
      by_cases hp : (jw P = 5 ∧ l < gwid (P.1 6) (wid P)) ∧ P.2 5 = 64
      · rw [if_pos hp] at e1
        refine ⟨-1000000005, P, Z', st, e1, hR, fun d σ W bx ih lt ra tl fa ds b1 b2 => ?_⟩
        obtain ⟨W', bx', x1, y1, v0, v1, v2, v3, -, -, e2⟩ := mk d σ W bx ih lt ra tl fa ds b1 b2
        have hg' : gw bx' 0 = gwid (P.1 6) (wid P) := gw_eq (fun j hj => by
          have hc : j = 0 ∨ j = 1 ∨ j = 2 ∨ j = 3 := by omega
          rcases hc with rfl | rfl | rfl | rfl
          · exact v0
          · exact v1
          · exact v2
          · exact v3)
        rw [jeq bx' x1 y1, hl, hg', if_pos hp] at e2
        exact ⟨W', bx', by rw [wr_id b2]; exact e2⟩
      · rw [if_neg hp] at e1
        obtain ⟨W0, bx0, -⟩ : ∃ (W0 : Nat → Nat → sI) (bx0 : Nat → Int32), True := ⟨fun _ _ => (0, 0), fun _ => 0, trivial⟩
        -- the row that the model leaves does not hang on what else lies there
        obtain ⟨s', hs'⟩ : ∃ s' : Nat → Int32, ∀ (W' : Nat → Nat → sI) (bx' : Nat → Int32), bx' 0 = P.1 6 (4 * wid P) → bx' 1 = P.1 6 (4 * wid P + 1) → bx' 2 = P.1 6 (4 * wid P + 2) → bx' 3 = P.1 6 (4 * wid P + 3) → (jw P = 3 → W' 107 7 = fFX (P.1 2) (P.1 4) (bX (P.1 6) (wid P)) (bY (P.1 6) (wid P)) ∧ W' 107 8 = fFY (P.1 2) (P.1 4) (bX (P.1 6) (wid P)) (bY (P.1 6) (wid P))) → (jw P = 4 → W' 112 0 = ishare (bX (P.1 6) (wid P)) (fFX (P.1 2) (P.1 4) (bX (P.1 6) (wid P)) (bY (P.1 6) (wid P))) ∧ W' 112 1 = ishare (bY (P.1 6) (wid P)) (fFY (P.1 2) (P.1 4) (bX (P.1 6) (wid P)) (bY (P.1 6) (wid P)))) → mSt st (P.2 5) (P.2 7) (P.2 9) (P.2 11) (wid P) (jw P) W' bx' = s' := by
          refine ⟨mSt st (P.2 5) (P.2 7) (P.2 9) (P.2 11) (wid P) (jw P) (fun a b => if a = 107 then (if b = 7 then fFX (P.1 2) (P.1 4) (bX (P.1 6) (wid P)) (bY (P.1 6) (wid P)) else fFY (P.1 2) (P.1 4) (bX (P.1 6) (wid P)) (bY (P.1 6) (wid P))) else (if b = 0 then ishare (bX (P.1 6) (wid P)) (fFX (P.1 2) (P.1 4) (bX (P.1 6) (wid P)) (bY (P.1 6) (wid P))) else ishare (bY (P.1 6) (wid P)) (fFY (P.1 2) (P.1 4) (bX (P.1 6) (wid P)) (bY (P.1 6) (wid P))))) (fun j => P.1 6 (4 * wid P + j)), ?_⟩
          intro W' bx' v0 v1 v2 v3 j3 j4
          unfold mSt mGo mPa gw
          dsimp only
          simp only [Nat.add_zero, Nat.zero_add, v0, v1, v2, v3]
          by_cases c3 : jw P = 3
          · rw [if_pos c3, if_pos c3, (j3 c3).1, (j3 c3).2]; rfl
          · rw [if_neg c3, if_neg c3]
            by_cases c4 : jw P = 4
            · rw [if_pos c4, if_pos c4, (j4 c4).1, (j4 c4).2]; rfl
            · rw [if_neg c4, if_neg c4]
        have hRS : RS (oStep P l) l s' := by
          have := RS_step (W' := fun a b => if a = 107 then (if b = 7 then fFX (P.1 2) (P.1 4) (bX (P.1 6) (wid P)) (bY (P.1 6) (wid P)) else fFY (P.1 2) (P.1 4) (bX (P.1 6) (wid P)) (bY (P.1 6) (wid P))) else (if b = 0 then ishare (bX (P.1 6) (wid P)) (fFX (P.1 2) (P.1 4) (bX (P.1 6) (wid P)) (bY (P.1 6) (wid P))) else ishare (bY (P.1 6) (wid P)) (fFY (P.1 2) (P.1 4) (bX (P.1 6) (wid P)) (bY (P.1 6) (wid P))))) (bx' := fun j => P.1 6 (4 * wid P + j)) hR h0 (by omega) hp rfl rfl rfl rfl (fun _ => ⟨rfl, rfl⟩) (fun _ => ⟨rfl, rfl⟩)
          rw [hs' _ _ rfl rfl rfl rfl (fun _ => ⟨rfl, rfl⟩) (fun _ => ⟨rfl, rfl⟩)] at this
          exact this
        refine ⟨jw P, oStep P l, Z', s', e1, hRS, fun d σ W bx ih lt ra tl fa ds b1 b2 => ?_⟩
        obtain ⟨W', bx', x1, y1, v0, v1, v2, v3, j3, j4, e2⟩ := mk d σ W bx ih lt ra tl fa ds b1 b2
        have hg' : gw bx' 0 = gwid (P.1 6) (wid P) := gw_eq (fun j hj => by
          have hc : j = 0 ∨ j = 1 ∨ j = 2 ∨ j = 3 := by omega
          rcases hc with rfl | rfl | rfl | rfl
          · exact v0
          · exact v1
          · exact v2
          · exact v3)
        rw [jeq bx' x1 y1] at j3 j4 e2
        rw [hl, hg', if_neg hp] at e2
        have x1' : xb bx' = bX (P.1 6) (wid P) := x1
        have y1' : yb bx' = bY (P.1 6) (wid P) := y1
        rw [x1', y1', ← fFX_congr g3 g4, ← fFY_congr g3 g4] at j3 j4
        rw [hs' W' bx' v0 v1 v2 v3 j3 j4] at e2
        exact ⟨W', bx', e2⟩
theorem sim_step (I : Inv L xs τ) : SimOK 115 179 [] L xs τ := by
  refine sim_st I ?_
  intro tn tg hn hg P l kf Z ra tl fa ds st hd hC hR h1 h2 h3
  have h6 : (nw τ P l Z).1 6 = _ := (nw_no (by omega)).trans hC.2.1
  obtain ⟨r, P', Z', st', e1, hR', H2⟩ := adv1 (Z := Z) hC hR
  refine ⟨r, P', l, Z', st', ?_, hR', fun σ W bx b1 b2 b3 => H2 3 σ W bx _ _ _ _ _ _ b1 b2⟩
  rw [en_115 (k := 60) (ls := [some (.ref 6)]) rfl]
  simp only [rb_gg_eq, rb_ct_go, rb_ct_end, rb_ct_ite, Nat.reduceAdd, Nat.zero_add, wr_at, wr_wr, true_and, and_true, and_self, true_or, or_true, false_or, or_false, ↓reduceIte, Nat.reduceLT, Nat.reduceLeDiff, Nat.reduceEqDiff, lg_cmp_ge, lg_cmp_le, lg_cmp_gt, lg_cmp_lt, lg_cmp_eq, Bool.false_eq_true, reduceCtorEq, mg_i, mg_l, decide_true, beq_self_eq_true, Nat.reduceBEq, st_115, dX8_step_0, xx_aloadn0, xx_aloadn0N, dX8_step_1, xx_getf, zz_f, zz_g, zz_v, List.getElem?_cons_zero, List.getElem?_cons_succ, tf_8_35, dX8_step_4, dX8_step_5, tf_8_28, dX8_step_8, xx_ivV, zz_c0, zz_c3, zz_c1, zz_c2, zz_c5, zz_c8, zz_c6, zz_R, List.length_cons, List.length_nil, List.take_succ_cons, List.take_zero, List.drop_succ_cons, List.drop_zero, List.reverse_cons, List.reverse_nil, List.nil_append, List.cons_append, rb_cat, List.map_cons, List.map_nil, List.sum_cons, List.sum_nil, Value.category, rb_isR, rb_isS, Option.toList_some, Option.toList_none, tv_8_168, dX8_step_11, xx_iret, xx_zret0, xx_zret1, h6, nw_85, e1]
theorem l_steps {tn hn n : Nat} {tg hg : Nat → Int32} {kf : Nat → Option Nat} {ih lt ra tl fa ds : Int32} (hC : CB τ tn tg hn hg kf) (hn' : n ≤ 20) : ∀ (r k : Nat) (P : sP) (Z : Nat → sI) (st : Nat → Int32), k + r = n → RS P l st → ∃ (t : Int32) (P' : sP) (Z' : Nat → sI) (st' : Nat → Int32), rb_lim (rb_stp (rb_R 10) rb_m116) (16, [some (.ref 6), some (.int (nI n)), some (.int (nI k))], [], nw τ P l Z) = some (some (.int t), nw τ P' l Z') ∧ RS P' l st' ∧ ∀ (σ : rb_S) (W : Nat → Nat → sI) (bx : Nat → Int32), σ.1 102 = some (mo ih lt ra tl fa ds) → σ.1 103 = some (.inl (0, 2911, .inl st)) → ∃ (W' : Nat → Nat → sI) (bx' : Nat → Int32), rb_lim (rb_stp (rb_R 10) rb_m180) (15, [some (.ref 102), some (.int (nI n)), some (.int (nI k))], [], ml σ W bx) = some (some (.int t), ml (rb_wr σ 103 (.inl (0, 2911, .inl st'))) W' bx') := by
  have h6 : ∀ P Z, (nw τ P l Z).1 6 = _ := fun P Z => (nw_no (by omega)).trans hC.2.1
  intro r
  induction r with
  | zero =>
    intro k P Z st hk hR
    refine ⟨nI k, P, Z, st, ?_, hR, fun σ W bx b1 b2 => ⟨W, bx, ?_⟩⟩
    · rw [rb_ls 16 9999 40]
      simp (disch := omega) only [rb_gs_eq, rb_cs_go, rb_cs_end, rb_cs_ite, Nat.reduceAdd, Nat.zero_add, wr_at, wr_wr, true_and, and_true, and_self, true_or, or_true, false_or, or_false, ↓reduceIte, Nat.reduceLT, Nat.reduceLeDiff, Nat.reduceEqDiff, lg_cmp_ge, lg_cmp_le, lg_cmp_gt, lg_cmp_lt, lg_cmp_eq, Bool.false_eq_true, reduceCtorEq, mg_i, mg_l, decide_true, beq_self_eq_true, Nat.reduceBEq, st_116, dX8_steps_0, xx_iloadn1, dX8_steps_1, xx_iconst, kc_1, dX8_steps_2, xx_iclt, rb_jp, Int.cast_ofNat_Int, Int.reduceAdd, Int.reduceLE, Int.reduceToNat, Int.reduceNeg, dX8_steps_5, dX8_steps_6, xx_bipush, kb_20, dX8_steps_8, xx_icle, dX8_steps_11, xx_ldc, zz_I, zz_S, ti_8_52, dX8_steps_13, xx_iret, xx_zret0, xx_zret1, dX8_steps_14, kc_0, dX8_steps_15, xx_istoren2, zz_invi, zz_invr, zz_invz, zz_invn, zz_invl, dX8_steps_16, xx_iloadn2, dX8_steps_17, dX8_steps_18, xx_icge, dX8_steps_21, xx_aloadn0, xx_aloadn0N, dX8_steps_22, xx_getf, zz_f, zz_g, zz_v, List.getElem?_cons_zero, List.getElem?_cons_succ, tf_8_35, dX8_steps_25, dX8_steps_26, tf_8_28, dX8_steps_29, xx_ivV, zz_c0, zz_c3, zz_c1, zz_c2, zz_c5, zz_c8, zz_c6, zz_R, List.length_cons, List.length_nil, List.take_succ_cons, List.take_zero, List.drop_succ_cons, List.drop_zero, List.reverse_cons, List.reverse_nil, List.nil_append, List.cons_append, rb_cat, List.map_cons, List.map_nil, List.sum_cons, List.sum_nil, Value.category, rb_isR, rb_isS, Option.toList_some, Option.toList_none, tv_8_168, dX8_steps_32, xx_iflt, dX8_steps_35, xx_iinc2, dX8_steps_38, xx_goto, dX8_steps_41, dX8_steps_42, nI_le', if_pos, if_neg]
    · rw [wr_id b2, rb_ls 15 9999 40]
      simp (disch := omega) only [rb_gs_eq, rb_cs_go, rb_cs_end, rb_cs_ite, Nat.reduceAdd, Nat.zero_add, wr_at, wr_wr, true_and, and_true, and_self, true_or, or_true, false_or, or_false, ↓reduceIte, Nat.reduceLT, Nat.reduceLeDiff, Nat.reduceEqDiff, lg_cmp_ge, lg_cmp_le, lg_cmp_gt, lg_cmp_lt, lg_cmp_eq, Bool.false_eq_true, reduceCtorEq, mg_i, mg_l, decide_true, beq_self_eq_true, Nat.reduceBEq, st_180, dX9_steps_0, xx_iloadn1, dX9_steps_1, xx_iconst, kc_1, dX9_steps_2, xx_bipush, kb_20, dX9_steps_4, xx_ivS, zz_c0, zz_c3, zz_c1, zz_c2, zz_c5, zz_c8, zz_c6, zz_R, List.length_cons, List.length_nil, List.take_succ_cons, List.take_zero, List.drop_succ_cons, List.drop_zero, List.reverse_cons, List.reverse_nil, List.nil_append, List.cons_append, rb_cat, List.map_cons, List.map_nil, List.sum_cons, List.sum_nil, Value.category, rb_isR, rb_isS, Option.toList_some, Option.toList_none, tv_9_116, dX9_steps_7, xx_ifne, rb_jp, Int.cast_ofNat_Int, Int.reduceAdd, Int.reduceLE, Int.reduceToNat, Int.reduceNeg, dX9_steps_10, xx_ldc, zz_I, zz_S, ti_9_125, dX9_steps_12, xx_iret, xx_zret0, xx_zret1, dX9_steps_13, kc_0, dX9_steps_14, xx_istoren2, zz_invi, zz_invr, zz_invz, zz_invn, zz_invl, dX9_steps_15, xx_iloadn2, dX9_steps_16, dX9_steps_17, xx_icge, dX9_steps_20, xx_aloadn0, xx_aloadn0N, dX9_steps_21, xx_ivV, tv_9_192, dX9_steps_24, xx_iflt, dX9_steps_27, xx_iinc2, dX9_steps_30, xx_goto, dX9_steps_33, dX9_steps_34, nI_le', if_pos, if_neg]
  | succ r ih =>
    intro k P Z st hk hR
    obtain ⟨v, P1, Z1, st1, e1, hR1, H1⟩ := adv1 (Z := Z) hC hR
    by_cases hv : v < 0
    · refine ⟨nI k, P1, Z1, st1, ?_, hR1, fun σ W bx b1 b2 => ?_⟩
      · rw [rb_ls 16 9999 40]
        simp (disch := omega) only [rb_gs_eq, rb_cs_go, rb_cs_end, rb_cs_ite, Nat.reduceAdd, Nat.zero_add, wr_at, wr_wr, true_and, and_true, and_self, true_or, or_true, false_or, or_false, ↓reduceIte, Nat.reduceLT, Nat.reduceLeDiff, Nat.reduceEqDiff, lg_cmp_ge, lg_cmp_le, lg_cmp_gt, lg_cmp_lt, lg_cmp_eq, Bool.false_eq_true, reduceCtorEq, mg_i, mg_l, decide_true, beq_self_eq_true, Nat.reduceBEq, st_116, dX8_steps_0, xx_iloadn1, dX8_steps_1, xx_iconst, kc_1, dX8_steps_2, xx_iclt, rb_jp, Int.cast_ofNat_Int, Int.reduceAdd, Int.reduceLE, Int.reduceToNat, Int.reduceNeg, dX8_steps_5, dX8_steps_6, xx_bipush, kb_20, dX8_steps_8, xx_icle, dX8_steps_11, xx_ldc, zz_I, zz_S, ti_8_52, dX8_steps_13, xx_iret, xx_zret0, xx_zret1, dX8_steps_14, kc_0, dX8_steps_15, xx_istoren2, zz_invi, zz_invr, zz_invz, zz_invn, zz_invl, dX8_steps_16, xx_iloadn2, dX8_steps_17, dX8_steps_18, xx_icge, dX8_steps_21, xx_aloadn0, xx_aloadn0N, dX8_steps_22, xx_getf, zz_f, zz_g, zz_v, List.getElem?_cons_zero, List.getElem?_cons_succ, tf_8_35, dX8_steps_25, dX8_steps_26, tf_8_28, dX8_steps_29, xx_ivV, zz_c0, zz_c3, zz_c1, zz_c2, zz_c5, zz_c8, zz_c6, zz_R, List.length_cons, List.length_nil, List.take_succ_cons, List.take_zero, List.drop_succ_cons, List.drop_zero, List.reverse_cons, List.reverse_nil, List.nil_append, List.cons_append, rb_cat, List.map_cons, List.map_nil, List.sum_cons, List.sum_nil, Value.category, rb_isR, rb_isS, Option.toList_some, Option.toList_none, tv_8_168, dX8_steps_32, xx_iflt, dX8_steps_35, xx_iinc2, dX8_steps_38, xx_goto, dX8_steps_41, dX8_steps_42, nI_le', if_pos, if_neg, h6, nw_85, e1, hv]
      · obtain ⟨W', bx', e2⟩ := H1 2 σ W bx _ _ _ _ _ _ b1 b2
        have c1 : (ml σ W bx).1 102 = _ := (ml_no (by omega)).trans b1
        refine ⟨W', bx', ?_⟩
        rw [rb_ls 15 9999 40]
        simp (disch := omega) only [rb_gs_eq, rb_cs_go, rb_cs_end, rb_cs_ite, Nat.reduceAdd, Nat.zero_add, wr_at, wr_wr, true_and, and_true, and_self, true_or, or_true, false_or, or_false, ↓reduceIte, Nat.reduceLT, Nat.reduceLeDiff, Nat.reduceEqDiff, lg_cmp_ge, lg_cmp_le, lg_cmp_gt, lg_cmp_lt, lg_cmp_eq, Bool.false_eq_true, reduceCtorEq, mg_i, mg_l, decide_true, beq_self_eq_true, Nat.reduceBEq, st_180, dX9_steps_0, xx_iloadn1, dX9_steps_1, xx_iconst, kc_1, dX9_steps_2, xx_bipush, kb_20, dX9_steps_4, xx_ivS, zz_c0, zz_c3, zz_c1, zz_c2, zz_c5, zz_c8, zz_c6, zz_R, List.length_cons, List.length_nil, List.take_succ_cons, List.take_zero, List.drop_succ_cons, List.drop_zero, List.reverse_cons, List.reverse_nil, List.nil_append, List.cons_append, rb_cat, List.map_cons, List.map_nil, List.sum_cons, List.sum_nil, Value.category, rb_isR, rb_isS, Option.toList_some, Option.toList_none, tv_9_116, dX9_steps_7, xx_ifne, rb_jp, Int.cast_ofNat_Int, Int.reduceAdd, Int.reduceLE, Int.reduceToNat, Int.reduceNeg, dX9_steps_10, xx_ldc, zz_I, zz_S, ti_9_125, dX9_steps_12, xx_iret, xx_zret0, xx_zret1, dX9_steps_13, kc_0, dX9_steps_14, xx_istoren2, zz_invi, zz_invr, zz_invz, zz_invn, zz_invl, dX9_steps_15, xx_iloadn2, dX9_steps_16, dX9_steps_17, xx_icge, dX9_steps_20, xx_aloadn0, xx_aloadn0N, dX9_steps_21, xx_ivV, tv_9_192, dX9_steps_24, xx_iflt, dX9_steps_27, xx_iinc2, dX9_steps_30, xx_goto, dX9_steps_33, dX9_steps_34, nI_le', if_pos, if_neg, c1, e2, hv]
    · obtain ⟨t, P', Z', st', f1, hR', H2⟩ := ih (k + 1) P1 Z1 st1 (by omega) hR1
      refine ⟨t, P', Z', st', ?_, hR', fun σ W bx b1 b2 => ?_⟩
      · rw [rb_ls 16 9999 40]
        simp (disch := omega) only [rb_gs_eq, rb_cs_go, rb_cs_end, rb_cs_ite, Nat.reduceAdd, Nat.zero_add, wr_at, wr_wr, true_and, and_true, and_self, true_or, or_true, false_or, or_false, ↓reduceIte, Nat.reduceLT, Nat.reduceLeDiff, Nat.reduceEqDiff, lg_cmp_ge, lg_cmp_le, lg_cmp_gt, lg_cmp_lt, lg_cmp_eq, Bool.false_eq_true, reduceCtorEq, mg_i, mg_l, decide_true, beq_self_eq_true, Nat.reduceBEq, st_116, dX8_steps_0, xx_iloadn1, dX8_steps_1, xx_iconst, kc_1, dX8_steps_2, xx_iclt, rb_jp, Int.cast_ofNat_Int, Int.reduceAdd, Int.reduceLE, Int.reduceToNat, Int.reduceNeg, dX8_steps_5, dX8_steps_6, xx_bipush, kb_20, dX8_steps_8, xx_icle, dX8_steps_11, xx_ldc, zz_I, zz_S, ti_8_52, dX8_steps_13, xx_iret, xx_zret0, xx_zret1, dX8_steps_14, kc_0, dX8_steps_15, xx_istoren2, zz_invi, zz_invr, zz_invz, zz_invn, zz_invl, dX8_steps_16, xx_iloadn2, dX8_steps_17, dX8_steps_18, xx_icge, dX8_steps_21, xx_aloadn0, xx_aloadn0N, dX8_steps_22, xx_getf, zz_f, zz_g, zz_v, List.getElem?_cons_zero, List.getElem?_cons_succ, tf_8_35, dX8_steps_25, dX8_steps_26, tf_8_28, dX8_steps_29, xx_ivV, zz_c0, zz_c3, zz_c1, zz_c2, zz_c5, zz_c8, zz_c6, zz_R, List.length_cons, List.length_nil, List.take_succ_cons, List.take_zero, List.drop_succ_cons, List.drop_zero, List.reverse_cons, List.reverse_nil, List.nil_append, List.cons_append, rb_cat, List.map_cons, List.map_nil, List.sum_cons, List.sum_nil, Value.category, rb_isR, rb_isS, Option.toList_some, Option.toList_none, tv_8_168, dX8_steps_32, xx_iflt, dX8_steps_35, xx_iinc2, dX8_steps_38, xx_goto, dX8_steps_41, dX8_steps_42, nI_le', if_pos, if_neg, h6, nw_85, e1, hv, nI_1]
        exact f1
      · obtain ⟨W1, bx1, e2⟩ := H1 2 σ W bx _ _ _ _ _ _ b1 b2
        have c1 : (ml σ W bx).1 102 = _ := (ml_no (by omega)).trans b1
        obtain ⟨W', bx', e3⟩ := H2 (rb_wr σ 103 (.inl (0, 2911, .inl st1))) W1 bx1 ((wr_ne (by omega)).trans b1) wr_at
        rw [wr_wr] at e3
        refine ⟨W', bx', ?_⟩
        rw [rb_ls 15 9999 40]
        simp (disch := omega) only [rb_gs_eq, rb_cs_go, rb_cs_end, rb_cs_ite, Nat.reduceAdd, Nat.zero_add, wr_at, wr_wr, true_and, and_true, and_self, true_or, or_true, false_or, or_false, ↓reduceIte, Nat.reduceLT, Nat.reduceLeDiff, Nat.reduceEqDiff, lg_cmp_ge, lg_cmp_le, lg_cmp_gt, lg_cmp_lt, lg_cmp_eq, Bool.false_eq_true, reduceCtorEq, mg_i, mg_l, decide_true, beq_self_eq_true, Nat.reduceBEq, st_180, dX9_steps_0, xx_iloadn1, dX9_steps_1, xx_iconst, kc_1, dX9_steps_2, xx_bipush, kb_20, dX9_steps_4, xx_ivS, zz_c0, zz_c3, zz_c1, zz_c2, zz_c5, zz_c8, zz_c6, zz_R, List.length_cons, List.length_nil, List.take_succ_cons, List.take_zero, List.drop_succ_cons, List.drop_zero, List.reverse_cons, List.reverse_nil, List.nil_append, List.cons_append, rb_cat, List.map_cons, List.map_nil, List.sum_cons, List.sum_nil, Value.category, rb_isR, rb_isS, Option.toList_some, Option.toList_none, tv_9_116, dX9_steps_7, xx_ifne, rb_jp, Int.cast_ofNat_Int, Int.reduceAdd, Int.reduceLE, Int.reduceToNat, Int.reduceNeg, dX9_steps_10, xx_ldc, zz_I, zz_S, ti_9_125, dX9_steps_12, xx_iret, xx_zret0, xx_zret1, dX9_steps_13, kc_0, dX9_steps_14, xx_istoren2, zz_invi, zz_invr, zz_invz, zz_invn, zz_invl, dX9_steps_15, xx_iloadn2, dX9_steps_16, dX9_steps_17, xx_icge, dX9_steps_20, xx_aloadn0, xx_aloadn0N, dX9_steps_21, xx_ivV, tv_9_192, dX9_steps_24, xx_iflt, dX9_steps_27, xx_iinc2, dX9_steps_30, xx_goto, dX9_steps_33, dX9_steps_34, nI_le', if_pos, if_neg, c1, e2, hv, nI_1]
        exact e3
theorem sim_steps (I : Inv L xs τ) {x : Int32} : SimOK 116 180 [.int x] L xs τ := by
  refine sim_st I ?_
  intro tn tg hn hg P l kf Z ra tl fa ds st hd hC hR h1 h2 h3
  have one0 : ((1 : Int32) = 0) = False := eq_false (by decide)
  have refl : ∀ (σ : rb_S), σ.1 103 = some (.inl (0, 2911, .inl st)) → rb_wr σ 103 (.inl (0, 2911, .inl st)) = σ := fun σ h => wr_id h
  by_cases d1 : x < 1
  · refine ⟨-1000000003, P, l, Z, st, ?_, hR, fun σ W bx b1 b2 b3 => ⟨W, bx, ?_⟩⟩
    · rw [en_116 (k := 60) (ls := [some (.ref 6), some (.int x), none]) rfl]
      simp only [rb_gg_eq, rb_ct_go, rb_ct_end, rb_ct_ite, Nat.reduceAdd, Nat.zero_add, wr_at, wr_wr, true_and, and_true, and_self, true_or, or_true, false_or, or_false, ↓reduceIte, Nat.reduceLT, Nat.reduceLeDiff, Nat.reduceEqDiff, lg_cmp_ge, lg_cmp_le, lg_cmp_gt, lg_cmp_lt, lg_cmp_eq, Bool.false_eq_true, reduceCtorEq, mg_i, mg_l, decide_true, beq_self_eq_true, Nat.reduceBEq, st_116, dX8_steps_0, xx_iloadn1, dX8_steps_1, xx_iconst, kc_1, dX8_steps_2, xx_iclt, rb_jp, Int.cast_ofNat_Int, Int.reduceAdd, Int.reduceLE, Int.reduceToNat, Int.reduceNeg, dX8_steps_5, dX8_steps_6, xx_bipush, kb_20, dX8_steps_8, xx_icle, dX8_steps_11, xx_ldc, zz_I, zz_S, ti_8_52, dX8_steps_13, xx_iret, xx_zret0, xx_zret1, dX8_steps_14, kc_0, dX8_steps_15, xx_istoren2, zz_invi, zz_invr, zz_invz, zz_invn, zz_invl, dX8_steps_16, xx_iloadn2, dX8_steps_17, dX8_steps_18, xx_icge, dX8_steps_21, xx_aloadn0, xx_aloadn0N, dX8_steps_22, xx_getf, zz_f, zz_g, zz_v, List.getElem?_cons_zero, List.getElem?_cons_succ, tf_8_35, dX8_steps_25, dX8_steps_26, tf_8_28, dX8_steps_29, xx_ivV, zz_c0, zz_c3, zz_c1, zz_c2, zz_c5, zz_c8, zz_c6, zz_R, List.length_cons, List.length_nil, List.take_succ_cons, List.take_zero, List.drop_succ_cons, List.drop_zero, List.reverse_cons, List.reverse_nil, List.nil_append, List.cons_append, rb_cat, List.map_cons, List.map_nil, List.sum_cons, List.sum_nil, Value.category, rb_isR, rb_isS, Option.toList_some, Option.toList_none, tv_8_168, dX8_steps_32, xx_iflt, dX8_steps_35, xx_iinc2, dX8_steps_38, xx_goto, dX8_steps_41, dX8_steps_42, d1]
    · rw [en_180 (k := 60) (ls := [some (.ref 102), some (.int x), none]) rfl]
      simp only [rb_gg_eq, rb_ct_go, rb_ct_end, rb_ct_ite, Nat.reduceAdd, Nat.zero_add, wr_at, wr_wr, true_and, and_true, and_self, true_or, or_true, false_or, or_false, ↓reduceIte, Nat.reduceLT, Nat.reduceLeDiff, Nat.reduceEqDiff, lg_cmp_ge, lg_cmp_le, lg_cmp_gt, lg_cmp_lt, lg_cmp_eq, Bool.false_eq_true, reduceCtorEq, mg_i, mg_l, decide_true, beq_self_eq_true, Nat.reduceBEq, st_180, dX9_steps_0, xx_iloadn1, dX9_steps_1, xx_iconst, kc_1, dX9_steps_2, xx_bipush, kb_20, dX9_steps_4, xx_ivS, zz_c0, zz_c3, zz_c1, zz_c2, zz_c5, zz_c8, zz_c6, zz_R, List.length_cons, List.length_nil, List.take_succ_cons, List.take_zero, List.drop_succ_cons, List.drop_zero, List.reverse_cons, List.reverse_nil, List.nil_append, List.cons_append, rb_cat, List.map_cons, List.map_nil, List.sum_cons, List.sum_nil, Value.category, rb_isR, rb_isS, Option.toList_some, Option.toList_none, tv_9_116, dX9_steps_7, xx_ifne, rb_jp, Int.cast_ofNat_Int, Int.reduceAdd, Int.reduceLE, Int.reduceToNat, Int.reduceNeg, dX9_steps_10, xx_ldc, zz_I, zz_S, ti_9_125, dX9_steps_12, xx_iret, xx_zret0, xx_zret1, dX9_steps_13, kc_0, dX9_steps_14, xx_istoren2, zz_invi, zz_invr, zz_invz, zz_invn, zz_invl, dX9_steps_15, xx_iloadn2, dX9_steps_16, dX9_steps_17, xx_icge, dX9_steps_20, xx_aloadn0, xx_aloadn0N, dX9_steps_21, xx_ivV, tv_9_192, dX9_steps_24, xx_iflt, dX9_steps_27, xx_iinc2, dX9_steps_30, xx_goto, dX9_steps_33, dX9_steps_34, p_in, d1, refl σ b2]
  · by_cases d2 : 20 < x
    · have d2' : ¬ x ≤ 20 := Int32.not_le.mpr d2
      refine ⟨-1000000003, P, l, Z, st, ?_, hR, fun σ W bx b1 b2 b3 => ⟨W, bx, ?_⟩⟩
      · rw [en_116 (k := 60) (ls := [some (.ref 6), some (.int x), none]) rfl]
        simp only [rb_gg_eq, rb_ct_go, rb_ct_end, rb_ct_ite, Nat.reduceAdd, Nat.zero_add, wr_at, wr_wr, true_and, and_true, and_self, true_or, or_true, false_or, or_false, ↓reduceIte, Nat.reduceLT, Nat.reduceLeDiff, Nat.reduceEqDiff, lg_cmp_ge, lg_cmp_le, lg_cmp_gt, lg_cmp_lt, lg_cmp_eq, Bool.false_eq_true, reduceCtorEq, mg_i, mg_l, decide_true, beq_self_eq_true, Nat.reduceBEq, st_116, dX8_steps_0, xx_iloadn1, dX8_steps_1, xx_iconst, kc_1, dX8_steps_2, xx_iclt, rb_jp, Int.cast_ofNat_Int, Int.reduceAdd, Int.reduceLE, Int.reduceToNat, Int.reduceNeg, dX8_steps_5, dX8_steps_6, xx_bipush, kb_20, dX8_steps_8, xx_icle, dX8_steps_11, xx_ldc, zz_I, zz_S, ti_8_52, dX8_steps_13, xx_iret, xx_zret0, xx_zret1, dX8_steps_14, kc_0, dX8_steps_15, xx_istoren2, zz_invi, zz_invr, zz_invz, zz_invn, zz_invl, dX8_steps_16, xx_iloadn2, dX8_steps_17, dX8_steps_18, xx_icge, dX8_steps_21, xx_aloadn0, xx_aloadn0N, dX8_steps_22, xx_getf, zz_f, zz_g, zz_v, List.getElem?_cons_zero, List.getElem?_cons_succ, tf_8_35, dX8_steps_25, dX8_steps_26, tf_8_28, dX8_steps_29, xx_ivV, zz_c0, zz_c3, zz_c1, zz_c2, zz_c5, zz_c8, zz_c6, zz_R, List.length_cons, List.length_nil, List.take_succ_cons, List.take_zero, List.drop_succ_cons, List.drop_zero, List.reverse_cons, List.reverse_nil, List.nil_append, List.cons_append, rb_cat, List.map_cons, List.map_nil, List.sum_cons, List.sum_nil, Value.category, rb_isR, rb_isS, Option.toList_some, Option.toList_none, tv_8_168, dX8_steps_32, xx_iflt, dX8_steps_35, xx_iinc2, dX8_steps_38, xx_goto, dX8_steps_41, dX8_steps_42, d1, d2']
      · rw [en_180 (k := 60) (ls := [some (.ref 102), some (.int x), none]) rfl]
        simp only [rb_gg_eq, rb_ct_go, rb_ct_end, rb_ct_ite, Nat.reduceAdd, Nat.zero_add, wr_at, wr_wr, true_and, and_true, and_self, true_or, or_true, false_or, or_false, ↓reduceIte, Nat.reduceLT, Nat.reduceLeDiff, Nat.reduceEqDiff, lg_cmp_ge, lg_cmp_le, lg_cmp_gt, lg_cmp_lt, lg_cmp_eq, Bool.false_eq_true, reduceCtorEq, mg_i, mg_l, decide_true, beq_self_eq_true, Nat.reduceBEq, st_180, dX9_steps_0, xx_iloadn1, dX9_steps_1, xx_iconst, kc_1, dX9_steps_2, xx_bipush, kb_20, dX9_steps_4, xx_ivS, zz_c0, zz_c3, zz_c1, zz_c2, zz_c5, zz_c8, zz_c6, zz_R, List.length_cons, List.length_nil, List.take_succ_cons, List.take_zero, List.drop_succ_cons, List.drop_zero, List.reverse_cons, List.reverse_nil, List.nil_append, List.cons_append, rb_cat, List.map_cons, List.map_nil, List.sum_cons, List.sum_nil, Value.category, rb_isR, rb_isS, Option.toList_some, Option.toList_none, tv_9_116, dX9_steps_7, xx_ifne, rb_jp, Int.cast_ofNat_Int, Int.reduceAdd, Int.reduceLE, Int.reduceToNat, Int.reduceNeg, dX9_steps_10, xx_ldc, zz_I, zz_S, ti_9_125, dX9_steps_12, xx_iret, xx_zret0, xx_zret1, dX9_steps_13, kc_0, dX9_steps_14, xx_istoren2, zz_invi, zz_invr, zz_invz, zz_invn, zz_invl, dX9_steps_15, xx_iloadn2, dX9_steps_16, dX9_steps_17, xx_icge, dX9_steps_20, xx_aloadn0, xx_aloadn0N, dX9_steps_21, xx_ivV, tv_9_192, dX9_steps_24, xx_iflt, dX9_steps_27, xx_iinc2, dX9_steps_30, xx_goto, dX9_steps_33, dX9_steps_34, p_in, d1, d2, refl σ b2]
    · have d2' : x ≤ 20 := Int32.not_lt.mp d2
      have hx : ¬ x < 0 := by
        rw [i_lt] at d1 ⊢
        have z0 : (0 : Int32).toInt = 0 := rfl
        have z1 : (1 : Int32).toInt = 1 := rfl
        omega
      obtain ⟨n, hn31, rfl⟩ := nI_of hx
      have hn20 : n ≤ 20 := by rw [lit_20, nI_le' (by omega) (by omega)] at d2'; exact d2'
      obtain ⟨t, P', Z', st', e1, hR', H2⟩ := l_steps (ih := nI hn) (lt := nI tn) (ra := ra) (tl := tl) (fa := fa) (ds := ds) hC hn20 n 0 P Z st (by omega) hR
      refine ⟨t, P', l, Z', st', ?_, hR', fun σ W bx b1 b2 b3 => ?_⟩
      · rw [en_116 (k := 60) (ls := [some (.ref 6), some (.int (nI n)), none]) rfl, rb_gg, rb_ls 16 9999 40]
        simp (disch := omega) only [rb_gs_eq, rb_cs_go, rb_cs_end, rb_cs_ite, Nat.reduceAdd, Nat.zero_add, wr_at, wr_wr, true_and, and_true, and_self, true_or, or_true, false_or, or_false, ↓reduceIte, Nat.reduceLT, Nat.reduceLeDiff, Nat.reduceEqDiff, lg_cmp_ge, lg_cmp_le, lg_cmp_gt, lg_cmp_lt, lg_cmp_eq, Bool.false_eq_true, reduceCtorEq, mg_i, mg_l, decide_true, beq_self_eq_true, Nat.reduceBEq, st_116, dX8_steps_0, xx_iloadn1, dX8_steps_1, xx_iconst, kc_1, dX8_steps_2, xx_iclt, rb_jp, Int.cast_ofNat_Int, Int.reduceAdd, Int.reduceLE, Int.reduceToNat, Int.reduceNeg, dX8_steps_5, dX8_steps_6, xx_bipush, kb_20, dX8_steps_8, xx_icle, dX8_steps_11, xx_ldc, zz_I, zz_S, ti_8_52, dX8_steps_13, xx_iret, xx_zret0, xx_zret1, dX8_steps_14, kc_0, dX8_steps_15, xx_istoren2, zz_invi, zz_invr, zz_invz, zz_invn, zz_invl, dX8_steps_16, xx_iloadn2, dX8_steps_17, dX8_steps_18, xx_icge, dX8_steps_21, xx_aloadn0, xx_aloadn0N, dX8_steps_22, xx_getf, zz_f, zz_g, zz_v, List.getElem?_cons_zero, List.getElem?_cons_succ, tf_8_35, dX8_steps_25, dX8_steps_26, tf_8_28, dX8_steps_29, xx_ivV, zz_c0, zz_c3, zz_c1, zz_c2, zz_c5, zz_c8, zz_c6, zz_R, List.length_cons, List.length_nil, List.take_succ_cons, List.take_zero, List.drop_succ_cons, List.drop_zero, List.reverse_cons, List.reverse_nil, List.nil_append, List.cons_append, rb_cat, List.map_cons, List.map_nil, List.sum_cons, List.sum_nil, Value.category, rb_isR, rb_isS, Option.toList_some, Option.toList_none, tv_8_168, dX8_steps_32, xx_iflt, dX8_steps_35, xx_iinc2, dX8_steps_38, xx_goto, dX8_steps_41, dX8_steps_42, d1, d2']
        exact e1
      · obtain ⟨W', bx', e2⟩ := H2 σ W bx b1 b2
        refine ⟨W', bx', ?_⟩
        rw [en_180 (k := 60) (ls := [some (.ref 102), some (.int (nI n)), none]) rfl, rb_gg, rb_ls 15 9999 40]
        simp (disch := omega) only [rb_gs_eq, rb_cs_go, rb_cs_end, rb_cs_ite, Nat.reduceAdd, Nat.zero_add, wr_at, wr_wr, true_and, and_true, and_self, true_or, or_true, false_or, or_false, ↓reduceIte, Nat.reduceLT, Nat.reduceLeDiff, Nat.reduceEqDiff, lg_cmp_ge, lg_cmp_le, lg_cmp_gt, lg_cmp_lt, lg_cmp_eq, Bool.false_eq_true, reduceCtorEq, mg_i, mg_l, decide_true, beq_self_eq_true, Nat.reduceBEq, st_180, dX9_steps_0, xx_iloadn1, dX9_steps_1, xx_iconst, kc_1, dX9_steps_2, xx_bipush, kb_20, dX9_steps_4, xx_ivS, zz_c0, zz_c3, zz_c1, zz_c2, zz_c5, zz_c8, zz_c6, zz_R, List.length_cons, List.length_nil, List.take_succ_cons, List.take_zero, List.drop_succ_cons, List.drop_zero, List.reverse_cons, List.reverse_nil, List.nil_append, List.cons_append, rb_cat, List.map_cons, List.map_nil, List.sum_cons, List.sum_nil, Value.category, rb_isR, rb_isS, Option.toList_some, Option.toList_none, tv_9_116, dX9_steps_7, xx_ifne, rb_jp, Int.cast_ofNat_Int, Int.reduceAdd, Int.reduceLE, Int.reduceToNat, Int.reduceNeg, dX9_steps_10, xx_ldc, zz_I, zz_S, ti_9_125, dX9_steps_12, xx_iret, xx_zret0, xx_zret1, dX9_steps_13, kc_0, dX9_steps_14, xx_istoren2, zz_invi, zz_invr, zz_invz, zz_invn, zz_invl, dX9_steps_15, xx_iloadn2, dX9_steps_16, dX9_steps_17, xx_icge, dX9_steps_20, xx_aloadn0, xx_aloadn0N, dX9_steps_21, xx_ivV, tv_9_192, dX9_steps_24, xx_iflt, dX9_steps_27, xx_iinc2, dX9_steps_30, xx_goto, dX9_steps_33, dX9_steps_34, p_in, d1, d2, one0]
        exact e2
/-- what names an end -/
theorem end_c (x : Int32) : (∃ j : Nat, j < 4 ∧ x = nI j ∧ (if x < 0 then (0 : Int32) else if 4 ≤ x then 0 else 1) = 1 ∧ (if x < 0 then (0 : Int32) else if 3 < x then 0 else 1) = 1) ∨ ((if x < 0 then (0 : Int32) else if 4 ≤ x then 0 else 1) = 0 ∧ (if x < 0 then (0 : Int32) else if 3 < x then 0 else 1) = 0) := by
  by_cases h0 : x < 0
  · exact Or.inr ⟨by rw [if_pos h0], by rw [if_pos h0]⟩
  · obtain ⟨j, hj, rfl⟩ := nI_of h0
    by_cases h4 : 4 ≤ nI j
    · refine Or.inr ⟨by rw [if_neg h0, if_pos h4], ?_⟩
      rw [if_neg h0, if_pos]
      rw [lit_4, nI_le' (by omega) (by omega)] at h4
      rw [lit_3, nI_lt' (by omega) (by omega)]
      omega
    · have h4' := h4
      rw [lit_4, nI_le' (by omega) (by omega)] at h4'
      refine Or.inl ⟨j, by omega, rfl, by rw [if_neg h0, if_neg h4], ?_⟩
      rw [if_neg h0, if_neg]
      rw [lit_3, nI_lt' (by omega) (by omega)]
      omega
theorem sim_first (I : Inv L xs τ) {x : Int32} : SimOK 117 181 [.int x] L xs τ := by
  refine sim_ro I ?_
  intro tn tg hn hg P l kf Z ra tl fa ds st hd hC hR h1 h2 h3
  have h6 : (nw τ P l Z).1 6 = _ := (nw_no (by omega)).trans hC.2.1
  have one0 : ((1 : Int32) = 0) = False := eq_false (by decide)
  obtain ⟨hN, hf, hl, ho, hs, hd', he⟩ := id hR
  obtain ⟨n5, n7, n9, n11⟩ := id hN
  have e0 := q_isEmpty (d := 9) (σ := nw τ P l Z) nw_90
  rcases end_c x with ⟨j, hj, rfl, q1, q2⟩ | ⟨q1, q2⟩
  · by_cases c5 : P.2 5 = 0
    · rw [if_pos ((nI_z (by omega)).mpr c5)] at e0
      have s51 : st 51 = 0 := by rw [ho.1, c5]; rfl
      refine ⟨-1000000004, Z, ?_, fun σ W bx b1 b2 b3 => ⟨W, bx, ?_⟩⟩
      · rw [en_117 (k := 60) (ls := [some (.ref 6), some (.int (nI j)), none]) rfl]
        simp only [rb_gg_eq, rb_ct_go, rb_ct_end, rb_ct_ite, Nat.reduceAdd, Nat.zero_add, wr_at, wr_wr, true_and, and_true, and_self, true_or, or_true, false_or, or_false, ↓reduceIte, Nat.reduceLT, Nat.reduceLeDiff, Nat.reduceEqDiff, lg_cmp_ge, lg_cmp_le, lg_cmp_gt, lg_cmp_lt, lg_cmp_eq, Bool.false_eq_true, reduceCtorEq, mg_i, mg_l, decide_true, beq_self_eq_true, Nat.reduceBEq, st_117, dX8_first_0, xx_iloadn1, dX8_first_1, xx_ivS, zz_c0, zz_c3, zz_c1, zz_c2, zz_c5, zz_c8, zz_c6, zz_R, List.length_cons, List.length_nil, List.take_succ_cons, List.take_zero, List.drop_succ_cons, List.drop_zero, List.reverse_cons, List.reverse_nil, List.nil_append, List.cons_append, rb_cat, List.map_cons, List.map_nil, List.sum_cons, List.sum_nil, Value.category, rb_isR, rb_isS, Option.toList_some, Option.toList_none, tv_8_172, dX8_first_4, xx_ifne, rb_jp, Int.cast_ofNat_Int, Int.reduceAdd, Int.reduceLE, Int.reduceToNat, Int.reduceNeg, dX8_first_7, xx_ldc, zz_I, zz_S, ti_8_52, dX8_first_9, xx_iret, xx_zret0, xx_zret1, dX8_first_10, xx_aloadn0, xx_aloadn0N, dX8_first_11, xx_getf, zz_f, zz_g, zz_v, List.getElem?_cons_zero, List.getElem?_cons_succ, tf_8_35, dX8_first_14, xx_ivV, tv_8_175, dX8_first_17, xx_astoren2, zz_invi, zz_invr, zz_invz, zz_invn, zz_invl, dX8_first_18, xx_aloadn2, xx_aloadn2N, dX8_first_19, tv_8_115, dX8_first_22, xx_ifeq, dX8_first_25, ti_8_69, dX8_first_27, xx_goto, dX8_first_30, dX8_first_31, dX8_first_32, tv_8_179, dX8_first_35, dX8_first_36, tv_8_182, dX8_first_39, q_isEndN, q1, one0, h6, nw_85, nw_90, n_open, e0]
      · have c1 : (ml σ W bx).1 102 = _ := (ml_no (by omega)).trans b1
        have c2 : (ml σ W bx).1 103 = _ := (ml_no (by omega)).trans b2
        rw [en_181 (k := 60) (ls := [some (.ref 102), some (.int (nI j))]) rfl]
        simp only [rb_gg_eq, rb_ct_go, rb_ct_end, rb_ct_ite, Nat.reduceAdd, Nat.zero_add, wr_at, wr_wr, true_and, and_true, and_self, true_or, or_true, false_or, or_false, ↓reduceIte, Nat.reduceLT, Nat.reduceLeDiff, Nat.reduceEqDiff, lg_cmp_ge, lg_cmp_le, lg_cmp_gt, lg_cmp_lt, lg_cmp_eq, Bool.false_eq_true, reduceCtorEq, mg_i, mg_l, decide_true, beq_self_eq_true, Nat.reduceBEq, st_181, dX9_first_0, xx_iloadn1, dX9_first_1, xx_iconst, kc_0, dX9_first_2, kc_3, dX9_first_3, xx_ivS, zz_c0, zz_c3, zz_c1, zz_c2, zz_c5, zz_c8, zz_c6, zz_R, List.length_cons, List.length_nil, List.take_succ_cons, List.take_zero, List.drop_succ_cons, List.drop_zero, List.reverse_cons, List.reverse_nil, List.nil_append, List.cons_append, rb_cat, List.map_cons, List.map_nil, List.sum_cons, List.sum_nil, Value.category, rb_isR, rb_isS, Option.toList_some, Option.toList_none, tv_9_116, dX9_first_6, xx_ifne, rb_jp, Int.cast_ofNat_Int, Int.reduceAdd, Int.reduceLE, Int.reduceToNat, Int.reduceNeg, dX9_first_9, xx_ldc, zz_I, zz_S, ti_9_125, dX9_first_11, xx_iret, xx_zret0, xx_zret1, dX9_first_12, xx_aloadn0, xx_aloadn0N, dX9_first_13, xx_getf, zz_f, zz_g, zz_v, List.getElem?_cons_zero, List.getElem?_cons_succ, tf_9_7, dX9_first_16, xx_bipush, kb_51, dX9_first_18, xx_iald, zz_yi, zz_yx, dX9_first_19, dX9_first_22, ti_9_149, dX9_first_24, xx_goto, dX9_first_27, dX9_first_28, dX9_first_31, dX9_first_32, xx_ivV, tv_9_182, dX9_first_35, dX9_first_36, xx_iadd, dX9_first_37, dX9_first_38, p_in, q2, one0, c1, c2, stl, s51]
    · have h0 : 0 < P.2 5 := by omega
      have hk := wid_lt h0
      have nz : ¬ nI (P.2 5) = 0 := fun h => c5 ((nI_z (by omega)).mp h)
      rw [if_neg nz] at e0
      have e1 : rb_R (6 + 4) 13 [.ref 90] (nw τ P l Z) = some (some (.int (nI (wid P))), nw τ P l Z) := q_widest nw_90 nw_91 n5 (by omega) h0
      have e2 := q_end (d := 8) (σ := nw τ P l Z) (k := wid P) (j := j) nw_90 nw_91 n5 (by omega) hk hj
      refine ⟨P.1 6 (4 * wid P + j), Z, ?_, fun σ W bx b1 b2 b3 => ⟨W, bx, ?_⟩⟩
      · rw [en_117 (k := 60) (ls := [some (.ref 6), some (.int (nI j)), none]) rfl]
        simp only [rb_gg_eq, rb_ct_go, rb_ct_end, rb_ct_ite, Nat.reduceAdd, Nat.zero_add, wr_at, wr_wr, true_and, and_true, and_self, true_or, or_true, false_or, or_false, ↓reduceIte, Nat.reduceLT, Nat.reduceLeDiff, Nat.reduceEqDiff, lg_cmp_ge, lg_cmp_le, lg_cmp_gt, lg_cmp_lt, lg_cmp_eq, Bool.false_eq_true, reduceCtorEq, mg_i, mg_l, decide_true, beq_self_eq_true, Nat.reduceBEq, st_117, dX8_first_0, xx_iloadn1, dX8_first_1, xx_ivS, zz_c0, zz_c3, zz_c1, zz_c2, zz_c5, zz_c8, zz_c6, zz_R, List.length_cons, List.length_nil, List.take_succ_cons, List.take_zero, List.drop_succ_cons, List.drop_zero, List.reverse_cons, List.reverse_nil, List.nil_append, List.cons_append, rb_cat, List.map_cons, List.map_nil, List.sum_cons, List.sum_nil, Value.category, rb_isR, rb_isS, Option.toList_some, Option.toList_none, tv_8_172, dX8_first_4, xx_ifne, rb_jp, Int.cast_ofNat_Int, Int.reduceAdd, Int.reduceLE, Int.reduceToNat, Int.reduceNeg, dX8_first_7, xx_ldc, zz_I, zz_S, ti_8_52, dX8_first_9, xx_iret, xx_zret0, xx_zret1, dX8_first_10, xx_aloadn0, xx_aloadn0N, dX8_first_11, xx_getf, zz_f, zz_g, zz_v, List.getElem?_cons_zero, List.getElem?_cons_succ, tf_8_35, dX8_first_14, xx_ivV, tv_8_175, dX8_first_17, xx_astoren2, zz_invi, zz_invr, zz_invz, zz_invn, zz_invl, dX8_first_18, xx_aloadn2, xx_aloadn2N, dX8_first_19, tv_8_115, dX8_first_22, xx_ifeq, dX8_first_25, ti_8_69, dX8_first_27, xx_goto, dX8_first_30, dX8_first_31, dX8_first_32, tv_8_179, dX8_first_35, dX8_first_36, tv_8_182, dX8_first_39, q_isEndN, q1, one0, h6, nw_85, nw_90, n_open, e0, e1, e2]
      · have c1 : (ml σ W bx).1 102 = _ := (ml_no (by omega)).trans b1
        have c2 : (ml σ W bx).1 103 = _ := (ml_no (by omega)).trans b2
        have e3 := m_firstAt (d := 8) c1 c2 ho.1 n5 h0
        rw [RS_pick hR h0] at e3
        have f1 : nI (55 + 4 * wid P) + nI j = nI (55 + (4 * wid P + j)) := by rw [nI_add]; congr 1; omega
        have r1 : rb_in (nI (55 + (4 * wid P + j))) 2911 = true := by rw [rb_in' (by omega)]; exact decide_eq_true (by omega)
        have k1 : (nI (55 + (4 * wid P + j))).toNatClampNeg = 55 + (4 * wid P + j) := nI_cl (by omega)
        have v1 := ho.2.1 (4 * wid P + j) (by omega)
        rw [en_181 (k := 60) (ls := [some (.ref 102), some (.int (nI j))]) rfl]
        simp only [rb_gg_eq, rb_ct_go, rb_ct_end, rb_ct_ite, Nat.reduceAdd, Nat.zero_add, wr_at, wr_wr, true_and, and_true, and_self, true_or, or_true, false_or, or_false, ↓reduceIte, Nat.reduceLT, Nat.reduceLeDiff, Nat.reduceEqDiff, lg_cmp_ge, lg_cmp_le, lg_cmp_gt, lg_cmp_lt, lg_cmp_eq, Bool.false_eq_true, reduceCtorEq, mg_i, mg_l, decide_true, beq_self_eq_true, Nat.reduceBEq, st_181, dX9_first_0, xx_iloadn1, dX9_first_1, xx_iconst, kc_0, dX9_first_2, kc_3, dX9_first_3, xx_ivS, zz_c0, zz_c3, zz_c1, zz_c2, zz_c5, zz_c8, zz_c6, zz_R, List.length_cons, List.length_nil, List.take_succ_cons, List.take_zero, List.drop_succ_cons, List.drop_zero, List.reverse_cons, List.reverse_nil, List.nil_append, List.cons_append, rb_cat, List.map_cons, List.map_nil, List.sum_cons, List.sum_nil, Value.category, rb_isR, rb_isS, Option.toList_some, Option.toList_none, tv_9_116, dX9_first_6, xx_ifne, rb_jp, Int.cast_ofNat_Int, Int.reduceAdd, Int.reduceLE, Int.reduceToNat, Int.reduceNeg, dX9_first_9, xx_ldc, zz_I, zz_S, ti_9_125, dX9_first_11, xx_iret, xx_zret0, xx_zret1, dX9_first_12, xx_aloadn0, xx_aloadn0N, dX9_first_13, xx_getf, zz_f, zz_g, zz_v, List.getElem?_cons_zero, List.getElem?_cons_succ, tf_9_7, dX9_first_16, xx_bipush, kb_51, dX9_first_18, xx_iald, zz_yi, zz_yx, dX9_first_19, dX9_first_22, ti_9_149, dX9_first_24, xx_goto, dX9_first_27, dX9_first_28, dX9_first_31, dX9_first_32, xx_ivV, tv_9_182, dX9_first_35, dX9_first_36, xx_iadd, dX9_first_37, dX9_first_38, p_in, q2, one0, c1, c2, stl, ho.1, nz, e3, f1, r1, k1, v1]
  · refine ⟨-1000000003, Z, ?_, fun σ W bx b1 b2 b3 => ⟨W, bx, ?_⟩⟩
    · rw [en_117 (k := 60) (ls := [some (.ref 6), some (.int x), none]) rfl]
      simp only [rb_gg_eq, rb_ct_go, rb_ct_end, rb_ct_ite, Nat.reduceAdd, Nat.zero_add, wr_at, wr_wr, true_and, and_true, and_self, true_or, or_true, false_or, or_false, ↓reduceIte, Nat.reduceLT, Nat.reduceLeDiff, Nat.reduceEqDiff, lg_cmp_ge, lg_cmp_le, lg_cmp_gt, lg_cmp_lt, lg_cmp_eq, Bool.false_eq_true, reduceCtorEq, mg_i, mg_l, decide_true, beq_self_eq_true, Nat.reduceBEq, st_117, dX8_first_0, xx_iloadn1, dX8_first_1, xx_ivS, zz_c0, zz_c3, zz_c1, zz_c2, zz_c5, zz_c8, zz_c6, zz_R, List.length_cons, List.length_nil, List.take_succ_cons, List.take_zero, List.drop_succ_cons, List.drop_zero, List.reverse_cons, List.reverse_nil, List.nil_append, List.cons_append, rb_cat, List.map_cons, List.map_nil, List.sum_cons, List.sum_nil, Value.category, rb_isR, rb_isS, Option.toList_some, Option.toList_none, tv_8_172, dX8_first_4, xx_ifne, rb_jp, Int.cast_ofNat_Int, Int.reduceAdd, Int.reduceLE, Int.reduceToNat, Int.reduceNeg, dX8_first_7, xx_ldc, zz_I, zz_S, ti_8_52, dX8_first_9, xx_iret, xx_zret0, xx_zret1, dX8_first_10, xx_aloadn0, xx_aloadn0N, dX8_first_11, xx_getf, zz_f, zz_g, zz_v, List.getElem?_cons_zero, List.getElem?_cons_succ, tf_8_35, dX8_first_14, xx_ivV, tv_8_175, dX8_first_17, xx_astoren2, zz_invi, zz_invr, zz_invz, zz_invn, zz_invl, dX8_first_18, xx_aloadn2, xx_aloadn2N, dX8_first_19, tv_8_115, dX8_first_22, xx_ifeq, dX8_first_25, ti_8_69, dX8_first_27, xx_goto, dX8_first_30, dX8_first_31, dX8_first_32, tv_8_179, dX8_first_35, dX8_first_36, tv_8_182, dX8_first_39, q_isEndN, q1]
    · rw [en_181 (k := 60) (ls := [some (.ref 102), some (.int x)]) rfl]
      simp only [rb_gg_eq, rb_ct_go, rb_ct_end, rb_ct_ite, Nat.reduceAdd, Nat.zero_add, wr_at, wr_wr, true_and, and_true, and_self, true_or, or_true, false_or, or_false, ↓reduceIte, Nat.reduceLT, Nat.reduceLeDiff, Nat.reduceEqDiff, lg_cmp_ge, lg_cmp_le, lg_cmp_gt, lg_cmp_lt, lg_cmp_eq, Bool.false_eq_true, reduceCtorEq, mg_i, mg_l, decide_true, beq_self_eq_true, Nat.reduceBEq, st_181, dX9_first_0, xx_iloadn1, dX9_first_1, xx_iconst, kc_0, dX9_first_2, kc_3, dX9_first_3, xx_ivS, zz_c0, zz_c3, zz_c1, zz_c2, zz_c5, zz_c8, zz_c6, zz_R, List.length_cons, List.length_nil, List.take_succ_cons, List.take_zero, List.drop_succ_cons, List.drop_zero, List.reverse_cons, List.reverse_nil, List.nil_append, List.cons_append, rb_cat, List.map_cons, List.map_nil, List.sum_cons, List.sum_nil, Value.category, rb_isR, rb_isS, Option.toList_some, Option.toList_none, tv_9_116, dX9_first_6, xx_ifne, rb_jp, Int.cast_ofNat_Int, Int.reduceAdd, Int.reduceLE, Int.reduceToNat, Int.reduceNeg, dX9_first_9, xx_ldc, zz_I, zz_S, ti_9_125, dX9_first_11, xx_iret, xx_zret0, xx_zret1, dX9_first_12, xx_aloadn0, xx_aloadn0N, dX9_first_13, xx_getf, zz_f, zz_g, zz_v, List.getElem?_cons_zero, List.getElem?_cons_succ, tf_9_7, dX9_first_16, xx_bipush, kb_51, dX9_first_18, xx_iald, zz_yi, zz_yx, dX9_first_19, dX9_first_22, ti_9_149, dX9_first_24, xx_goto, dX9_first_27, dX9_first_28, dX9_first_31, dX9_first_32, xx_ivV, tv_9_182, dX9_first_35, dX9_first_36, xx_iadd, dX9_first_37, dX9_first_38, p_in, q2]
end
