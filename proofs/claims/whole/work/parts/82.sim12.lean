section
variable {d : Nat} {σ τ : rb_S} {P : sP} {l : Int32} {L : Nat} {xs : Nat → Int32} {ih lt ra tl fa ds : Int32} {st kp ik : Nat → Int32}
/-- the class keeps its State: the kept one is like it -/
theorem keepC {tn : Nat} {tg : Nat → Int32} {hn : Nat} {hg : Nat → Int32} {K : sK} {kf : Nat → Option Nat} (hC : CI τ tn tg hn hg P l K kf) (hN : okN P) {q : Nat} (hq : q ≤ 1) : ∃ (τ1 : rb_S) (Q' : sP) (kf' : Nat → Option Nat), rb_R 11 123 [.ref 6, .int (nI q)] τ = some (some (.int (nI (P.2 11))), τ1) ∧ CI τ1 tn tg hn hg P l (va_up K q (some (Q', l))) kf' ∧ eqS Q' P ∧ ∀ k, k < 114 → k ≠ 99 → τ1.1 k = τ.1 k := by
  obtain ⟨⟨hJ, h6, h7, h8, hrd, h99, h100, h101⟩, hS, hZ, hK, hD, r1, r2, r3, r4, r5⟩ := id hC
  have c0 : ¬ nI q < 0 := nI_pos (by omega)
  have c2 : nI q < nI 2 := by rw [nI_lt' (by omega) (by omega)]; omega
  have q1 : rb_in (nI q) 2 = true := by rw [rb_in' (by omega)]; exact decide_eq_true (by omega)
  have q2 : (nI q).toNatClampNeg = q := nI_cl (by omega)
  have f85 : τ.1 85 = some (.inr (6, [.ref 86, .ref 88, .ref 90, .ref 92, .ref 94, .ref 96, .ref 98, .int l])) := hS 0 (by omega)
  have f96 : τ.1 96 = some (brw 97 (nI 200) (nI (P.2 11))) := hS 11 (by omega)
  rcases hK q (by omega) with ⟨k1, k2⟩ | ⟨B, Q, m, k1, k2, k3, k4, k5⟩
  · obtain ⟨B, hB⟩ : ∃ B, τ.2.1 = B := ⟨_, rfl⟩
    have hB4 : 114 ≤ B := by omega
    obtain ⟨τa, hτa⟩ : ∃ s, s = rb_mk τ (.inr (6, [.null, .null, .null, .null, .null, .null, .null, .int 0])) 8 := ⟨_, rfl⟩
    have fa : τa.1 B = some (.inr (6, [.null, .null, .null, .null, .null, .null, .null, .int 0])) := by rw [hτa]; exact mk_at hB.symm
    have fa2 : τa.2.1 = B + 1 := by rw [hτa, mk_2, hB]
    have fa22 : τa.2.2 = τ.2.2 + 8 := by rw [hτa, mk_22]
    have fao : ∀ k, k < B → τa.1 k = τ.1 k := fun k hk => by rw [hτa]; exact mk_ne (by omega)
    obtain ⟨τb, e1, b1, b2, b3, b4⟩ := i_state (d := 7) fa2 fa
    have fbo : ∀ k, k < B → τb.1 k = τ.1 k := fun k hk => (b2 k hk).trans (fao k hk)
    have b99 : τb.1 99 = some (.inl (3, 2, .inr (.inr (.inr (.inr kf))))) := (fbo 99 (by omega)).trans h99
    have bB : τb.1 B = _ := b1 0 (by omega)
    obtain ⟨τc, hτc⟩ : ∃ s, s = rb_wr τb 99 (.inl (3, 2, .inr (.inr (.inr (.inr (va_up kf q (some B))))))) := ⟨_, rfl⟩
    have fco : ∀ k, k ≠ 99 → τc.1 k = τb.1 k := fun k hk => by rw [hτc, wr_ne hk]
    have c99 : τc.1 99 = some (.inl (3, 2, .inr (.inr (.inr (.inr (va_up kf q (some B))))))) := by rw [hτc, wr_at]
    have cB : StAt τc B (fun _ _ => 0, fun _ => 0) 4 := fun o ho => (fco _ (by omega)).trans (b1 o ho)
    have cS : StAt τc 85 P l := fun o ho => (fco _ (by omega)).trans ((fbo _ (by omega)).trans (hS o ho))
    have e2 := s_copy (d := 8) (σ := τc) (B := B) (B2 := 85) (P := (fun _ _ => 0, fun _ => 0)) (l := 4) (Or.inr (by omega)) cS hN
    rw [so_self cB] at e2
    obtain ⟨τ1, hτ1⟩ : ∃ s, s = so τc B (cpP P (fun _ _ => 0, fun _ => 0)) l := ⟨_, rfl⟩
    rw [← hτ1] at e2
    have f1o : ∀ k, k < B → τ1.1 k = τc.1 k := fun k hk => by rw [hτ1, so_no (by omega)]
    have f1t : ∀ k, k < B → k ≠ 99 → τ1.1 k = τ.1 k := fun k hk h9 => (f1o k hk).trans ((fco k h9).trans (fbo k hk))
    have g85 := (f1t 85 (by omega) (by omega)).trans f85
    have g96 := (f1t 96 (by omega) (by omega)).trans f96
    have g6 : τ1.1 6 = some cO := (f1t 6 (by omega) (by omega)).trans h6
    have t6 : τ.1 6 = some cO := h6
    have b6 : τb.1 6 = some cO := (fbo 6 (by omega)).trans h6
    have c6 : τc.1 6 = some cO := (fco 6 (by omega)).trans b6
    have a6 : τa.1 6 = some cO := (fao 6 (by omega)).trans h6
    have a99 : τa.1 99 = some (.inl (3, 2, .inr (.inr (.inr (.inr kf))))) := (fao 99 (by omega)).trans h99
    have cBr : τc.1 B = _ := cB 0 (by omega)
    have c85 : τc.1 85 = _ := cS 0 (by omega)
    have e3 := g_entries (d := 9) g85
    have e4 := q_size (d := 9) g96
    have u1 : va_up kf q (some B) q = some B := va_up_self _ _ _
    have as := fun (o pc : Nat) (ini : Bool) (ret : Option FieldType) (ls : rb_L) (st : List Value) => xx_aast3 (C := rb_R 10) (o := o) (ini := ini) (ret := ret) (pc := pc) (ls := ls) (st := st) (x := B) (i := nI q) b99 bB q1
    have hmk : rb_mk τ (.inr (6, [.null, .null, .null, .null, .null, .null, .null, .int 0])) 8 = τa := hτa.symm
    have hwr : rb_wr τb 99 (.inl (3, 2, .inr (.inr (.inr (.inr (va_up kf q (some B))))))) = τc := hτc.symm
    refine ⟨τ1, cpP P (fun _ _ => 0, fun _ => 0), va_up kf q (some B), ?_, ?_, eqS_cp _ _, fun k hk h9 => f1t k (by omega) h9⟩
    · rw [en_123 (k := 80) (ls := [some (.ref 6), some (.int (nI q))]) rfl]
      simp only [rb_gg_eq, rb_ct_go, rb_ct_end, rb_ct_ite, Nat.reduceAdd, Nat.zero_add, wr_at, wr_wr, true_and, and_true, and_self, true_or, or_true, false_or, or_false, ↓reduceIte, Nat.reduceLT, Nat.reduceLeDiff, Nat.reduceEqDiff, lg_cmp_ge, lg_cmp_le, lg_cmp_gt, lg_cmp_lt, lg_cmp_eq, Bool.false_eq_true, reduceCtorEq, mg_i, mg_l, decide_true, beq_self_eq_true, Nat.reduceBEq, st_123, dX8_keep_0, xx_iloadn1, dX8_keep_1, xx_iflt, rb_jp, Int.cast_ofNat_Int, Int.reduceAdd, Int.reduceLE, Int.reduceToNat, Int.reduceNeg, dX8_keep_4, dX8_keep_5, xx_aloadn0, xx_aloadn0N, dX8_keep_6, xx_getf, zz_f, zz_g, zz_v, List.getElem?_cons_zero, List.getElem?_cons_succ, tf_8_39, dX8_keep_9, xx_alen, zz_vi, zz_va, dX8_keep_10, xx_iclt, dX8_keep_13, xx_ldc, zz_I, zz_S, ti_8_52, dX8_keep_15, xx_iret, xx_zret0, xx_zret1, dX8_keep_16, dX8_keep_17, dX8_keep_20, dX8_keep_21, xx_aald, zz_ya, dX8_keep_22, xx_ifnonnullR, xx_ifnonnullN, dX8_keep_25, dX8_keep_26, dX8_keep_29, dX8_keep_30, xx_new, zz_un, tn_8_32, dX8_keep_33, xx_dupi, xx_dupr, xx_dupz, dX8_keep_34, xx_ivP, zz_c0, zz_c3, zz_c1, zz_c2, zz_c5, zz_c8, zz_c6, zz_R, List.length_cons, List.length_nil, List.take_succ_cons, List.take_zero, List.drop_succ_cons, List.drop_zero, List.reverse_cons, List.reverse_nil, List.nil_append, List.cons_append, rb_cat, List.map_cons, List.map_nil, List.sum_cons, List.sum_nil, Value.category, rb_isR, rb_isS, Option.toList_some, Option.toList_none, tv_8_34, dX8_keep_37, dX8_keep_38, dX8_keep_39, dX8_keep_42, dX8_keep_43, dX8_keep_44, dX8_keep_45, tf_8_35, dX8_keep_48, xx_ivV, tv_8_213, dX8_keep_51, dX8_keep_52, dX8_keep_55, tv_8_195, dX8_keep_58, tv_8_204, dX8_keep_61, nI_ofn, c0, c2, t6, h99, q1, q2, k2, va_rf, df_6, hB, hmk, a6, a99, fa, e1, as, hwr, c6, c99, u1, cBr, sc, c85, e2, g6, g85, g96, e3, e4]
    · refine CI_kp hC (fun k hk h9 => f1t k (by omega) h9) ((f1o 99 (by omega)).trans c99) (fun k hk => ?_) ?_ ?_ ?_ ?_
      · by_cases e : k = q
        · subst e
          refine Or.inr ⟨B, _, _, va_up_self _ _ _, u1, fun o ho => ?_, hB4, ?_⟩
          · rw [hτ1]; exact so_at ho
          · rw [hτ1]; show B + 14 ≤ τc.2.1; rw [hτc]; show B + 14 ≤ τb.2.1; omega
        · rcases hK k hk with ⟨m1, m2⟩ | ⟨B', Q', m', m1, m2, m3, m4, m5⟩
          · exact Or.inl ⟨(va_up_ne _ _ e).trans m1, (va_up_ne _ _ e).trans m2⟩
          · refine Or.inr ⟨B', Q', m', (va_up_ne _ _ e).trans m1, (va_up_ne _ _ e).trans m2, fun o ho => ?_, m4, ?_⟩
            · exact (f1t (B' + o) (by omega) (by omega)).trans (m3 o ho)
            · rw [hτ1]; show B' + 14 ≤ τc.2.1; rw [hτc]; show B' + 14 ≤ τb.2.1; omega
      · intro B0 B1 z0 z1
        by_cases e : q = 0
        · subst e
          rw [u1] at z0
          rw [va_up_ne _ _ (by omega)] at z1
          have z0 := Option.some.inj z0
          rcases hK 1 (by omega) with ⟨m1, m2⟩ | ⟨B', Q', m', m1, m2, m3, m4, m5⟩
          · rw [m2] at z1; cases z1
          · rw [m2] at z1
            have z1 := Option.some.inj z1
            right
            omega
        · have e1 : q = 1 := by omega
          subst e1
          rw [u1] at z1
          rw [va_up_ne _ _ (by omega)] at z0
          have z1 := Option.some.inj z1
          rcases hK 0 (by omega) with ⟨m1, m2⟩ | ⟨B', Q', m', m1, m2, m3, m4, m5⟩
          · rw [m2] at z0; cases z0
          · rw [m2] at z0
            have z0 := Option.some.inj z0
            left
            omega
      · rw [hτ1]; show 114 ≤ τc.2.1; rw [hτc]; show 114 ≤ τb.2.1; omega
      · rw [nk_new (by omega) k1, hτ1]; show τc.2.1 ≤ _; rw [hτc]; show τb.2.1 ≤ _; omega
      · rw [nk_new (by omega) k1, hτ1]; show τc.2.2 ≤ _; rw [hτc]; show τb.2.2 ≤ _; omega
  · have e2 := s_copy (d := 8) (σ := τ) (B := B) (B2 := 85) (P := Q) (l := m) (Or.inr (by omega)) hS hN
    rw [so_self k3] at e2
    obtain ⟨τ1, hτ1⟩ : ∃ s, s = so τ B (cpP P Q) l := ⟨_, rfl⟩
    rw [← hτ1] at e2
    have f1o : ∀ k, ¬ (B ≤ k ∧ k < B + 14) → τ1.1 k = τ.1 k := fun k hk => by rw [hτ1, so_no hk]
    have g85 := (f1o 85 (by omega)).trans f85
    have g96 := (f1o 96 (by omega)).trans f96
    have g6 : τ1.1 6 = some cO := (f1o 6 (by omega)).trans h6
    have t6 : τ.1 6 = some cO := h6
    have cBr : τ.1 B = _ := k3 0 (by omega)
    have e3 := g_entries (d := 9) g85
    have e4 := q_size (d := 9) g96
    have u1 : va_up K q (some (cpP P Q, l)) q = some (cpP P Q, l) := va_up_self _ _ _
    refine ⟨τ1, cpP P Q, kf, ?_, ?_, eqS_cp _ _, fun k hk h9 => f1o k (by omega)⟩
    · rw [en_123 (k := 80) (ls := [some (.ref 6), some (.int (nI q))]) rfl]
      simp only [rb_gg_eq, rb_ct_go, rb_ct_end, rb_ct_ite, Nat.reduceAdd, Nat.zero_add, wr_at, wr_wr, true_and, and_true, and_self, true_or, or_true, false_or, or_false, ↓reduceIte, Nat.reduceLT, Nat.reduceLeDiff, Nat.reduceEqDiff, lg_cmp_ge, lg_cmp_le, lg_cmp_gt, lg_cmp_lt, lg_cmp_eq, Bool.false_eq_true, reduceCtorEq, mg_i, mg_l, decide_true, beq_self_eq_true, Nat.reduceBEq, st_123, dX8_keep_0, xx_iloadn1, dX8_keep_1, xx_iflt, rb_jp, Int.cast_ofNat_Int, Int.reduceAdd, Int.reduceLE, Int.reduceToNat, Int.reduceNeg, dX8_keep_4, dX8_keep_5, xx_aloadn0, xx_aloadn0N, dX8_keep_6, xx_getf, zz_f, zz_g, zz_v, List.getElem?_cons_zero, List.getElem?_cons_succ, tf_8_39, dX8_keep_9, xx_alen, zz_vi, zz_va, dX8_keep_10, xx_iclt, dX8_keep_13, xx_ldc, zz_I, zz_S, ti_8_52, dX8_keep_15, xx_iret, xx_zret0, xx_zret1, dX8_keep_16, dX8_keep_17, dX8_keep_20, dX8_keep_21, xx_aald, zz_ya, dX8_keep_22, xx_ifnonnullR, xx_ifnonnullN, dX8_keep_25, dX8_keep_26, dX8_keep_29, dX8_keep_30, xx_new, zz_un, tn_8_32, dX8_keep_33, xx_dupi, xx_dupr, xx_dupz, dX8_keep_34, xx_ivP, zz_c0, zz_c3, zz_c1, zz_c2, zz_c5, zz_c8, zz_c6, zz_R, List.length_cons, List.length_nil, List.take_succ_cons, List.take_zero, List.drop_succ_cons, List.drop_zero, List.reverse_cons, List.reverse_nil, List.nil_append, List.cons_append, rb_cat, List.map_cons, List.map_nil, List.sum_cons, List.sum_nil, Value.category, rb_isR, rb_isS, Option.toList_some, Option.toList_none, tv_8_34, dX8_keep_37, dX8_keep_38, dX8_keep_39, dX8_keep_42, dX8_keep_43, dX8_keep_44, dX8_keep_45, tf_8_35, dX8_keep_48, xx_ivV, tv_8_213, dX8_keep_51, dX8_keep_52, dX8_keep_55, tv_8_195, dX8_keep_58, tv_8_204, dX8_keep_61, nI_ofn, c0, c2, t6, h99, q1, q2, k2, va_rf, cBr, sc, f85, e2, g6, g85, g96, e3, e4]
    · refine CI_kp hC (fun k hk h9 => f1o k (by omega)) ((f1o 99 (by omega)).trans h99) (fun k hk => ?_) hD ?_ ?_ ?_
      · by_cases e : k = q
        · subst e
          refine Or.inr ⟨B, _, _, u1, k2, fun o ho => ?_, k4, ?_⟩
          · rw [hτ1]; exact so_at ho
          · rw [hτ1]; exact k5
        · rcases hK k hk with ⟨m1, m2⟩ | ⟨B', Q', m', m1, m2, m3, m4, m5⟩
          · exact Or.inl ⟨(va_up_ne _ _ e).trans m1, m2⟩
          · refine Or.inr ⟨B', Q', m', (va_up_ne _ _ e).trans m1, m2, fun o ho => ?_, m4, by rw [hτ1]; exact m5⟩
            have dj : B + 14 ≤ B' ∨ B' + 14 ≤ B := by
              have hc : (q = 0 ∧ k = 1) ∨ (q = 1 ∧ k = 0) := by omega
              rcases hc with ⟨rfl, rfl⟩ | ⟨rfl, rfl⟩
              · exact hD B B' k2 m2
              · exact (hD B' B m2 k2).symm
            exact (f1o (B' + o) (by omega)).trans (m3 o ho)
      · rw [hτ1]; exact r3
      · rw [nk_old (by omega) k1, hτ1]; exact r4
      · rw [nk_old (by omega) k1, hτ1]; exact r5
theorem sim_keep (I : Inv L xs τ) {x : Int32} : SimOK 123 190 [.int x] L xs τ := by
  obtain ⟨tn, tg, hn, hg, P, l, K, kf, ra, tl, fa, ds, st, kp, ik, hd, hC, hM, hR, hK, hH, h0⟩ := id I
  have h6 : τ.1 6 = some cO := hC.1.2.1
  have h99 := hC.1.2.2.2.2.2.1
  obtain ⟨a1, a2, a3, a4, a5, a6, W, bx, a7, a8⟩ := id hM
  rcases k2_c x with x0 | ⟨x0, x2, x1⟩ | ⟨q, hq, rfl⟩
  · refine ⟨-1000000003, τ, τ, ?_, ?_, isR_of h6, isR_of a1, rfl, I⟩
    · rw [en_123 (k := 60) (ls := [some (.ref 6), some (.int x)]) rfl]
      simp only [rb_gg_eq, rb_ct_go, rb_ct_end, rb_ct_ite, Nat.reduceAdd, Nat.zero_add, wr_at, wr_wr, true_and, and_true, and_self, true_or, or_true, false_or, or_false, ↓reduceIte, Nat.reduceLT, Nat.reduceLeDiff, Nat.reduceEqDiff, lg_cmp_ge, lg_cmp_le, lg_cmp_gt, lg_cmp_lt, lg_cmp_eq, Bool.false_eq_true, reduceCtorEq, mg_i, mg_l, decide_true, beq_self_eq_true, Nat.reduceBEq, st_123, dX8_keep_0, xx_iloadn1, dX8_keep_1, xx_iflt, rb_jp, Int.cast_ofNat_Int, Int.reduceAdd, Int.reduceLE, Int.reduceToNat, Int.reduceNeg, dX8_keep_4, dX8_keep_5, xx_aloadn0, xx_aloadn0N, dX8_keep_6, xx_getf, zz_f, zz_g, zz_v, List.getElem?_cons_zero, List.getElem?_cons_succ, tf_8_39, dX8_keep_9, xx_alen, zz_vi, zz_va, dX8_keep_10, xx_iclt, dX8_keep_13, xx_ldc, zz_I, zz_S, ti_8_52, dX8_keep_15, xx_iret, xx_zret0, xx_zret1, dX8_keep_16, dX8_keep_17, dX8_keep_20, dX8_keep_21, xx_aald, zz_ya, dX8_keep_22, xx_ifnonnullR, xx_ifnonnullN, dX8_keep_25, dX8_keep_26, dX8_keep_29, dX8_keep_30, xx_new, zz_un, tn_8_32, dX8_keep_33, xx_dupi, xx_dupr, xx_dupz, dX8_keep_34, xx_ivP, zz_c0, zz_c3, zz_c1, zz_c2, zz_c5, zz_c8, zz_c6, zz_R, List.length_cons, List.length_nil, List.take_succ_cons, List.take_zero, List.drop_succ_cons, List.drop_zero, List.reverse_cons, List.reverse_nil, List.nil_append, List.cons_append, rb_cat, List.map_cons, List.map_nil, List.sum_cons, List.sum_nil, Value.category, rb_isR, rb_isS, Option.toList_some, Option.toList_none, tv_8_34, dX8_keep_37, dX8_keep_38, dX8_keep_39, dX8_keep_42, dX8_keep_43, dX8_keep_44, dX8_keep_45, tf_8_35, dX8_keep_48, xx_ivV, tv_8_213, dX8_keep_51, dX8_keep_52, dX8_keep_55, tv_8_195, dX8_keep_58, tv_8_204, dX8_keep_61, x0]
    · rw [en_190 (k := 60) (ls := [some (.ref 102), some (.int x), none]) rfl]
      simp only [rb_gg_eq, rb_ct_go, rb_ct_end, rb_ct_ite, Nat.reduceAdd, Nat.zero_add, wr_at, wr_wr, true_and, and_true, and_self, true_or, or_true, false_or, or_false, ↓reduceIte, Nat.reduceLT, Nat.reduceLeDiff, Nat.reduceEqDiff, lg_cmp_ge, lg_cmp_le, lg_cmp_gt, lg_cmp_lt, lg_cmp_eq, Bool.false_eq_true, reduceCtorEq, mg_i, mg_l, decide_true, beq_self_eq_true, Nat.reduceBEq, st_190, dX9_keep_0, xx_iloadn1, dX9_keep_1, xx_iconst, kc_0, dX9_keep_2, kc_1, dX9_keep_3, xx_ivS, zz_c0, zz_c3, zz_c1, zz_c2, zz_c5, zz_c8, zz_c6, zz_R, List.length_cons, List.length_nil, List.take_succ_cons, List.take_zero, List.drop_succ_cons, List.drop_zero, List.reverse_cons, List.reverse_nil, List.nil_append, List.cons_append, rb_cat, List.map_cons, List.map_nil, List.sum_cons, List.sum_nil, Value.category, rb_isR, rb_isS, Option.toList_some, Option.toList_none, tv_9_116, dX9_keep_6, xx_ifne, rb_jp, Int.cast_ofNat_Int, Int.reduceAdd, Int.reduceLE, Int.reduceToNat, Int.reduceNeg, dX9_keep_9, xx_ldc, zz_I, zz_S, ti_9_125, dX9_keep_11, xx_iret, xx_zret0, xx_zret1, dX9_keep_12, dX9_keep_13, xx_istoren2, zz_invi, zz_invr, zz_invz, zz_invn, zz_invl, dX9_keep_14, xx_iloadn2, dX9_keep_15, xx_sipush, ks_2911, dX9_keep_18, xx_icge, dX9_keep_21, xx_aloadn0, xx_aloadn0N, dX9_keep_22, xx_getf, zz_f, zz_g, zz_v, List.getElem?_cons_zero, List.getElem?_cons_succ, tf_9_13, dX9_keep_25, dX9_keep_28, dX9_keep_29, xx_imul, dX9_keep_30, dX9_keep_31, xx_iadd, dX9_keep_32, dX9_keep_33, tf_9_7, dX9_keep_36, dX9_keep_37, xx_iald, zz_yi, zz_yx, dX9_keep_38, xx_iast, zz_wi, dX9_keep_39, xx_iinc2, dX9_keep_42, xx_goto, dX9_keep_45, dX9_keep_46, tf_9_16, dX9_keep_49, dX9_keep_50, dX9_keep_51, dX9_keep_52, dX9_keep_53, dX9_keep_56, xx_bipush, kb_54, dX9_keep_58, dX9_keep_59, p_in, x0]
  · refine ⟨-1000000003, τ, τ, ?_, ?_, isR_of h6, isR_of a1, rfl, I⟩
    · rw [en_123 (k := 60) (ls := [some (.ref 6), some (.int x)]) rfl]
      simp only [rb_gg_eq, rb_ct_go, rb_ct_end, rb_ct_ite, Nat.reduceAdd, Nat.zero_add, wr_at, wr_wr, true_and, and_true, and_self, true_or, or_true, false_or, or_false, ↓reduceIte, Nat.reduceLT, Nat.reduceLeDiff, Nat.reduceEqDiff, lg_cmp_ge, lg_cmp_le, lg_cmp_gt, lg_cmp_lt, lg_cmp_eq, Bool.false_eq_true, reduceCtorEq, mg_i, mg_l, decide_true, beq_self_eq_true, Nat.reduceBEq, st_123, dX8_keep_0, xx_iloadn1, dX8_keep_1, xx_iflt, rb_jp, Int.cast_ofNat_Int, Int.reduceAdd, Int.reduceLE, Int.reduceToNat, Int.reduceNeg, dX8_keep_4, dX8_keep_5, xx_aloadn0, xx_aloadn0N, dX8_keep_6, xx_getf, zz_f, zz_g, zz_v, List.getElem?_cons_zero, List.getElem?_cons_succ, tf_8_39, dX8_keep_9, xx_alen, zz_vi, zz_va, dX8_keep_10, xx_iclt, dX8_keep_13, xx_ldc, zz_I, zz_S, ti_8_52, dX8_keep_15, xx_iret, xx_zret0, xx_zret1, dX8_keep_16, dX8_keep_17, dX8_keep_20, dX8_keep_21, xx_aald, zz_ya, dX8_keep_22, xx_ifnonnullR, xx_ifnonnullN, dX8_keep_25, dX8_keep_26, dX8_keep_29, dX8_keep_30, xx_new, zz_un, tn_8_32, dX8_keep_33, xx_dupi, xx_dupr, xx_dupz, dX8_keep_34, xx_ivP, zz_c0, zz_c3, zz_c1, zz_c2, zz_c5, zz_c8, zz_c6, zz_R, List.length_cons, List.length_nil, List.take_succ_cons, List.take_zero, List.drop_succ_cons, List.drop_zero, List.reverse_cons, List.reverse_nil, List.nil_append, List.cons_append, rb_cat, List.map_cons, List.map_nil, List.sum_cons, List.sum_nil, Value.category, rb_isR, rb_isS, Option.toList_some, Option.toList_none, tv_8_34, dX8_keep_37, dX8_keep_38, dX8_keep_39, dX8_keep_42, dX8_keep_43, dX8_keep_44, dX8_keep_45, tf_8_35, dX8_keep_48, xx_ivV, tv_8_213, dX8_keep_51, dX8_keep_52, dX8_keep_55, tv_8_195, dX8_keep_58, tv_8_204, dX8_keep_61, x0, h6, h99, nI_ofn, x2]
    · rw [en_190 (k := 60) (ls := [some (.ref 102), some (.int x), none]) rfl]
      simp only [rb_gg_eq, rb_ct_go, rb_ct_end, rb_ct_ite, Nat.reduceAdd, Nat.zero_add, wr_at, wr_wr, true_and, and_true, and_self, true_or, or_true, false_or, or_false, ↓reduceIte, Nat.reduceLT, Nat.reduceLeDiff, Nat.reduceEqDiff, lg_cmp_ge, lg_cmp_le, lg_cmp_gt, lg_cmp_lt, lg_cmp_eq, Bool.false_eq_true, reduceCtorEq, mg_i, mg_l, decide_true, beq_self_eq_true, Nat.reduceBEq, st_190, dX9_keep_0, xx_iloadn1, dX9_keep_1, xx_iconst, kc_0, dX9_keep_2, kc_1, dX9_keep_3, xx_ivS, zz_c0, zz_c3, zz_c1, zz_c2, zz_c5, zz_c8, zz_c6, zz_R, List.length_cons, List.length_nil, List.take_succ_cons, List.take_zero, List.drop_succ_cons, List.drop_zero, List.reverse_cons, List.reverse_nil, List.nil_append, List.cons_append, rb_cat, List.map_cons, List.map_nil, List.sum_cons, List.sum_nil, Value.category, rb_isR, rb_isS, Option.toList_some, Option.toList_none, tv_9_116, dX9_keep_6, xx_ifne, rb_jp, Int.cast_ofNat_Int, Int.reduceAdd, Int.reduceLE, Int.reduceToNat, Int.reduceNeg, dX9_keep_9, xx_ldc, zz_I, zz_S, ti_9_125, dX9_keep_11, xx_iret, xx_zret0, xx_zret1, dX9_keep_12, dX9_keep_13, xx_istoren2, zz_invi, zz_invr, zz_invz, zz_invn, zz_invl, dX9_keep_14, xx_iloadn2, dX9_keep_15, xx_sipush, ks_2911, dX9_keep_18, xx_icge, dX9_keep_21, xx_aloadn0, xx_aloadn0N, dX9_keep_22, xx_getf, zz_f, zz_g, zz_v, List.getElem?_cons_zero, List.getElem?_cons_succ, tf_9_13, dX9_keep_25, dX9_keep_28, dX9_keep_29, xx_imul, dX9_keep_30, dX9_keep_31, xx_iadd, dX9_keep_32, dX9_keep_33, tf_9_7, dX9_keep_36, dX9_keep_37, xx_iald, zz_yi, zz_yx, dX9_keep_38, xx_iast, zz_wi, dX9_keep_39, xx_iinc2, dX9_keep_42, xx_goto, dX9_keep_45, dX9_keep_46, tf_9_16, dX9_keep_49, dX9_keep_50, dX9_keep_51, dX9_keep_52, dX9_keep_53, dX9_keep_56, xx_bipush, kb_54, dX9_keep_58, dX9_keep_59, p_in, x0, x1]
  · obtain ⟨τ1, Q', kf', e1, hC1, hE, fo⟩ := keepC hC hR.1 hq
    have hM1 : MB τ1 (nI hn) (nI tn) ra tl fa ds st kp ik hd tg := MB_fr hM (fun k k1 k2 => fo k (by omega) (by omega))
    obtain ⟨b1, b2, b3, b4, b5, b6, W', bx', b7, b8⟩ := id hM1
    have e2 := m_keep (d := 9) (q := q) hq b1 b2 b3 b4
    have h54 : st 54 = nI (P.2 11) := hR.2.2.2.2.2.2.1
    rw [h54] at e2
    refine ⟨nI (P.2 11), τ1, _, e1, e2, isR_of h6, isR_of b1, fo 0 (by omega) (by omega), tn, tg, hn, hg, P, l, va_up K q (some (Q', l)), kf', ra, tl, fa, ds, st, kpU q st kp 2911, upd ik q 1, hd, ?_, ?_, hR, fun k hk => ?_, hH, ?_⟩
    · exact CI_fr hC1 (fun k hk => by rw [wr_ne (by omega), wr_ne (by omega)]) rfl
    · refine ⟨?_, ?_, ?_, ?_, ?_, ?_, W', bx', fun a ha => ?_, ?_⟩
      · rw [wr_ne (by omega), wr_ne (by omega)]; exact b1
      · rw [wr_ne (by omega), wr_ne (by omega)]; exact b2
      · rw [wr_ne (by omega), wr_at]
      · rw [wr_at]
      · rw [wr_ne (by omega), wr_ne (by omega)]; exact b5
      · rw [wr_ne (by omega), wr_ne (by omega)]; exact b6
      · rw [wr_ne (by omega), wr_ne (by omega)]; exact b7 a ha
      · rw [wr_ne (by omega), wr_ne (by omega)]; exact b8
    · by_cases e : k = q
      · subst e
        refine Or.inr ⟨Q', l, va_up_self _ _ _, pk_us, RS_ext (RS_eq hE hR) (fun t ht => ?_)⟩
        show kpU k st kp 2911 (2911 * k + t) = st t
        unfold kpU
        rw [if_pos (by omega), Nat.add_sub_cancel_left]
      · rcases hK k hk with ⟨m1, m2⟩ | ⟨Q2, m, m1, m2, m3⟩
        · exact Or.inl ⟨(va_up_ne _ _ e).trans m1, (pk_un e).trans m2⟩
        · refine Or.inr ⟨Q2, m, (va_up_ne _ _ e).trans m1, (pk_un e).trans m2, RS_ext m3 (fun t ht => ?_)⟩
          show kpU q st kp 2911 (2911 * k + t) = kp (2911 * k + t)
          unfold kpU
          have hc : (q = 0 ∧ k = 1) ∨ (q = 1 ∧ k = 0) := by omega
          rw [if_neg (by omega)]
    · rw [wr_ne (by omega), wr_ne (by omega)]; exact (fo 0 (by omega) (by omega)).trans h0
theorem so_nw {Z : Nat → sI} (hZ : ∀ k, spK k → τ.1 k = some (sp (Z k).1 (Z k).2)) : so τ 85 P l = nw τ P l Z := by
  unfold nw
  refine Prod.ext ?_ rfl
  funext k
  by_cases hk : spK k
  · rw [js_at hk, so_no (by omega), hZ k hk]
  · rw [js_no hk]
theorem sim_back (I : Inv L xs τ) {x : Int32} : SimOK 124 191 [.int x] L xs τ := by
  obtain ⟨tn, tg, hn, hg, P, l, K, kf, ra, tl, fa, ds, st, kp, ik, hd, hC, hM, hR, hK, hH, h0⟩ := id I
  have h6 : τ.1 6 = some cO := hC.1.2.1
  have h99 := hC.1.2.2.2.2.2.1
  obtain ⟨a1, a2, a3, a4, a5, a6, W, bx, a7, a8⟩ := id hM
  rcases k2_c x with x0 | ⟨x0, x2, x1⟩ | ⟨q, hq, rfl⟩
  · refine ⟨-1000000003, τ, τ, ?_, ?_, isR_of h6, isR_of a1, rfl, I⟩
    · rw [en_124 (k := 60) (ls := [some (.ref 6), some (.int x)]) rfl]
      simp only [rb_gg_eq, rb_ct_go, rb_ct_end, rb_ct_ite, Nat.reduceAdd, Nat.zero_add, wr_at, wr_wr, true_and, and_true, and_self, true_or, or_true, false_or, or_false, ↓reduceIte, Nat.reduceLT, Nat.reduceLeDiff, Nat.reduceEqDiff, lg_cmp_ge, lg_cmp_le, lg_cmp_gt, lg_cmp_lt, lg_cmp_eq, Bool.false_eq_true, reduceCtorEq, mg_i, mg_l, decide_true, beq_self_eq_true, Nat.reduceBEq, st_124, dX8_back_0, xx_iloadn1, dX8_back_1, xx_iflt, rb_jp, Int.cast_ofNat_Int, Int.reduceAdd, Int.reduceLE, Int.reduceToNat, Int.reduceNeg, dX8_back_4, dX8_back_5, xx_aloadn0, xx_aloadn0N, dX8_back_6, xx_getf, zz_f, zz_g, zz_v, List.getElem?_cons_zero, List.getElem?_cons_succ, tf_8_39, dX8_back_9, xx_alen, zz_vi, zz_va, dX8_back_10, xx_iclt, dX8_back_13, xx_ldc, zz_I, zz_S, ti_8_52, dX8_back_15, xx_iret, xx_zret0, xx_zret1, dX8_back_16, dX8_back_17, dX8_back_20, dX8_back_21, xx_aald, zz_ya, dX8_back_22, xx_ifnonnullR, xx_ifnonnullN, dX8_back_25, ti_8_69, dX8_back_27, dX8_back_28, dX8_back_29, tf_8_35, dX8_back_32, dX8_back_33, dX8_back_36, dX8_back_37, dX8_back_38, xx_ivV, zz_c0, zz_c3, zz_c1, zz_c2, zz_c5, zz_c8, zz_c6, zz_R, List.length_cons, List.length_nil, List.take_succ_cons, List.take_zero, List.drop_succ_cons, List.drop_zero, List.reverse_cons, List.reverse_nil, List.nil_append, List.cons_append, rb_cat, List.map_cons, List.map_nil, List.sum_cons, List.sum_nil, Value.category, rb_isR, rb_isS, Option.toList_some, Option.toList_none, tv_8_213, dX8_back_41, dX8_back_42, dX8_back_45, tv_8_195, dX8_back_48, tv_8_204, dX8_back_51, x0]
    · rw [en_191 (k := 60) (ls := [some (.ref 102), some (.int x), none]) rfl]
      simp only [rb_gg_eq, rb_ct_go, rb_ct_end, rb_ct_ite, Nat.reduceAdd, Nat.zero_add, wr_at, wr_wr, true_and, and_true, and_self, true_or, or_true, false_or, or_false, ↓reduceIte, Nat.reduceLT, Nat.reduceLeDiff, Nat.reduceEqDiff, lg_cmp_ge, lg_cmp_le, lg_cmp_gt, lg_cmp_lt, lg_cmp_eq, Bool.false_eq_true, reduceCtorEq, mg_i, mg_l, decide_true, beq_self_eq_true, Nat.reduceBEq, st_191, dX9_back_0, xx_iloadn1, dX9_back_1, xx_iconst, kc_0, dX9_back_2, kc_1, dX9_back_3, xx_ivS, zz_c0, zz_c3, zz_c1, zz_c2, zz_c5, zz_c8, zz_c6, zz_R, List.length_cons, List.length_nil, List.take_succ_cons, List.take_zero, List.drop_succ_cons, List.drop_zero, List.reverse_cons, List.reverse_nil, List.nil_append, List.cons_append, rb_cat, List.map_cons, List.map_nil, List.sum_cons, List.sum_nil, Value.category, rb_isR, rb_isS, Option.toList_some, Option.toList_none, tv_9_116, dX9_back_6, xx_ifne, rb_jp, Int.cast_ofNat_Int, Int.reduceAdd, Int.reduceLE, Int.reduceToNat, Int.reduceNeg, dX9_back_9, xx_ldc, zz_I, zz_S, ti_9_125, dX9_back_11, xx_iret, xx_zret0, xx_zret1, dX9_back_12, xx_aloadn0, xx_aloadn0N, dX9_back_13, xx_getf, zz_f, zz_g, zz_v, List.getElem?_cons_zero, List.getElem?_cons_succ, tf_9_16, dX9_back_16, dX9_back_17, xx_iald, zz_yi, zz_yx, dX9_back_18, dX9_back_21, ti_9_149, dX9_back_23, dX9_back_24, dX9_back_25, xx_istoren2, zz_invi, zz_invr, zz_invz, zz_invn, zz_invl, dX9_back_26, xx_iloadn2, dX9_back_27, xx_sipush, ks_2911, dX9_back_30, xx_icge, dX9_back_33, dX9_back_34, tf_9_7, dX9_back_37, dX9_back_38, dX9_back_39, tf_9_13, dX9_back_42, dX9_back_45, dX9_back_46, xx_imul, dX9_back_47, dX9_back_48, xx_iadd, dX9_back_49, dX9_back_50, xx_iast, zz_wi, dX9_back_51, xx_iinc2, dX9_back_54, xx_goto, dX9_back_57, dX9_back_58, dX9_back_61, xx_bipush, kb_54, dX9_back_63, dX9_back_64, p_in, x0]
  · refine ⟨-1000000003, τ, τ, ?_, ?_, isR_of h6, isR_of a1, rfl, I⟩
    · rw [en_124 (k := 60) (ls := [some (.ref 6), some (.int x)]) rfl]
      simp only [rb_gg_eq, rb_ct_go, rb_ct_end, rb_ct_ite, Nat.reduceAdd, Nat.zero_add, wr_at, wr_wr, true_and, and_true, and_self, true_or, or_true, false_or, or_false, ↓reduceIte, Nat.reduceLT, Nat.reduceLeDiff, Nat.reduceEqDiff, lg_cmp_ge, lg_cmp_le, lg_cmp_gt, lg_cmp_lt, lg_cmp_eq, Bool.false_eq_true, reduceCtorEq, mg_i, mg_l, decide_true, beq_self_eq_true, Nat.reduceBEq, st_124, dX8_back_0, xx_iloadn1, dX8_back_1, xx_iflt, rb_jp, Int.cast_ofNat_Int, Int.reduceAdd, Int.reduceLE, Int.reduceToNat, Int.reduceNeg, dX8_back_4, dX8_back_5, xx_aloadn0, xx_aloadn0N, dX8_back_6, xx_getf, zz_f, zz_g, zz_v, List.getElem?_cons_zero, List.getElem?_cons_succ, tf_8_39, dX8_back_9, xx_alen, zz_vi, zz_va, dX8_back_10, xx_iclt, dX8_back_13, xx_ldc, zz_I, zz_S, ti_8_52, dX8_back_15, xx_iret, xx_zret0, xx_zret1, dX8_back_16, dX8_back_17, dX8_back_20, dX8_back_21, xx_aald, zz_ya, dX8_back_22, xx_ifnonnullR, xx_ifnonnullN, dX8_back_25, ti_8_69, dX8_back_27, dX8_back_28, dX8_back_29, tf_8_35, dX8_back_32, dX8_back_33, dX8_back_36, dX8_back_37, dX8_back_38, xx_ivV, zz_c0, zz_c3, zz_c1, zz_c2, zz_c5, zz_c8, zz_c6, zz_R, List.length_cons, List.length_nil, List.take_succ_cons, List.take_zero, List.drop_succ_cons, List.drop_zero, List.reverse_cons, List.reverse_nil, List.nil_append, List.cons_append, rb_cat, List.map_cons, List.map_nil, List.sum_cons, List.sum_nil, Value.category, rb_isR, rb_isS, Option.toList_some, Option.toList_none, tv_8_213, dX8_back_41, dX8_back_42, dX8_back_45, tv_8_195, dX8_back_48, tv_8_204, dX8_back_51, x0, h6, h99, nI_ofn, x2]
    · rw [en_191 (k := 60) (ls := [some (.ref 102), some (.int x), none]) rfl]
      simp only [rb_gg_eq, rb_ct_go, rb_ct_end, rb_ct_ite, Nat.reduceAdd, Nat.zero_add, wr_at, wr_wr, true_and, and_true, and_self, true_or, or_true, false_or, or_false, ↓reduceIte, Nat.reduceLT, Nat.reduceLeDiff, Nat.reduceEqDiff, lg_cmp_ge, lg_cmp_le, lg_cmp_gt, lg_cmp_lt, lg_cmp_eq, Bool.false_eq_true, reduceCtorEq, mg_i, mg_l, decide_true, beq_self_eq_true, Nat.reduceBEq, st_191, dX9_back_0, xx_iloadn1, dX9_back_1, xx_iconst, kc_0, dX9_back_2, kc_1, dX9_back_3, xx_ivS, zz_c0, zz_c3, zz_c1, zz_c2, zz_c5, zz_c8, zz_c6, zz_R, List.length_cons, List.length_nil, List.take_succ_cons, List.take_zero, List.drop_succ_cons, List.drop_zero, List.reverse_cons, List.reverse_nil, List.nil_append, List.cons_append, rb_cat, List.map_cons, List.map_nil, List.sum_cons, List.sum_nil, Value.category, rb_isR, rb_isS, Option.toList_some, Option.toList_none, tv_9_116, dX9_back_6, xx_ifne, rb_jp, Int.cast_ofNat_Int, Int.reduceAdd, Int.reduceLE, Int.reduceToNat, Int.reduceNeg, dX9_back_9, xx_ldc, zz_I, zz_S, ti_9_125, dX9_back_11, xx_iret, xx_zret0, xx_zret1, dX9_back_12, xx_aloadn0, xx_aloadn0N, dX9_back_13, xx_getf, zz_f, zz_g, zz_v, List.getElem?_cons_zero, List.getElem?_cons_succ, tf_9_16, dX9_back_16, dX9_back_17, xx_iald, zz_yi, zz_yx, dX9_back_18, dX9_back_21, ti_9_149, dX9_back_23, dX9_back_24, dX9_back_25, xx_istoren2, zz_invi, zz_invr, zz_invz, zz_invn, zz_invl, dX9_back_26, xx_iloadn2, dX9_back_27, xx_sipush, ks_2911, dX9_back_30, xx_icge, dX9_back_33, dX9_back_34, tf_9_7, dX9_back_37, dX9_back_38, dX9_back_39, tf_9_13, dX9_back_42, dX9_back_45, dX9_back_46, xx_imul, dX9_back_47, dX9_back_48, xx_iadd, dX9_back_49, dX9_back_50, xx_iast, zz_wi, dX9_back_51, xx_iinc2, dX9_back_54, xx_goto, dX9_back_57, dX9_back_58, dX9_back_61, xx_bipush, kb_54, dX9_back_63, dX9_back_64, p_in, x0, x1]
  · obtain ⟨-, hS, ⟨Z, hZ⟩, hKK, hD, r1, r2, r3, r4, r5⟩ := id hC
    have c0 : ¬ nI q < 0 := nI_pos (by omega)
    have c2 : nI q < nI 2 := by rw [nI_lt' (by omega) (by omega)]; omega
    have q1 : rb_in (nI q) 2 = true := by rw [rb_in' (by omega)]; exact decide_eq_true (by omega)
    have q2 : (nI q).toNatClampNeg = q := nI_cl (by omega)
    have f85 : τ.1 85 = some (.inr (6, [.ref 86, .ref 88, .ref 90, .ref 92, .ref 94, .ref 96, .ref 98, .int l])) := hS 0 (by omega)
    rcases hKK q (by omega) with ⟨k1, k2⟩ | ⟨B, Q, m, k1, k2, k3, k4, k5⟩
    · have hik : ik q = 0 := by
        rcases hK q (by omega) with ⟨m1, m2⟩ | ⟨Q2, m, m1, m2, m3⟩
        · exact m2
        · rw [k1] at m1; cases m1
      refine ⟨-1000000004, τ, τ, ?_, m_backN (d := 9) hq a1 a4 hik, isR_of h6, isR_of a1, rfl, I⟩
      rw [en_124 (k := 60) (ls := [some (.ref 6), some (.int (nI q))]) rfl]
      simp only [rb_gg_eq, rb_ct_go, rb_ct_end, rb_ct_ite, Nat.reduceAdd, Nat.zero_add, wr_at, wr_wr, true_and, and_true, and_self, true_or, or_true, false_or, or_false, ↓reduceIte, Nat.reduceLT, Nat.reduceLeDiff, Nat.reduceEqDiff, lg_cmp_ge, lg_cmp_le, lg_cmp_gt, lg_cmp_lt, lg_cmp_eq, Bool.false_eq_true, reduceCtorEq, mg_i, mg_l, decide_true, beq_self_eq_true, Nat.reduceBEq, st_124, dX8_back_0, xx_iloadn1, dX8_back_1, xx_iflt, rb_jp, Int.cast_ofNat_Int, Int.reduceAdd, Int.reduceLE, Int.reduceToNat, Int.reduceNeg, dX8_back_4, dX8_back_5, xx_aloadn0, xx_aloadn0N, dX8_back_6, xx_getf, zz_f, zz_g, zz_v, List.getElem?_cons_zero, List.getElem?_cons_succ, tf_8_39, dX8_back_9, xx_alen, zz_vi, zz_va, dX8_back_10, xx_iclt, dX8_back_13, xx_ldc, zz_I, zz_S, ti_8_52, dX8_back_15, xx_iret, xx_zret0, xx_zret1, dX8_back_16, dX8_back_17, dX8_back_20, dX8_back_21, xx_aald, zz_ya, dX8_back_22, xx_ifnonnullR, xx_ifnonnullN, dX8_back_25, ti_8_69, dX8_back_27, dX8_back_28, dX8_back_29, tf_8_35, dX8_back_32, dX8_back_33, dX8_back_36, dX8_back_37, dX8_back_38, xx_ivV, zz_c0, zz_c3, zz_c1, zz_c2, zz_c5, zz_c8, zz_c6, zz_R, List.length_cons, List.length_nil, List.take_succ_cons, List.take_zero, List.drop_succ_cons, List.drop_zero, List.reverse_cons, List.reverse_nil, List.nil_append, List.cons_append, rb_cat, List.map_cons, List.map_nil, List.sum_cons, List.sum_nil, Value.category, rb_isR, rb_isS, Option.toList_some, Option.toList_none, tv_8_213, dX8_back_41, dX8_back_42, dX8_back_45, tv_8_195, dX8_back_48, tv_8_204, dX8_back_51, nI_ofn, c0, c2, h6, h99, q1, q2, k2, va_rf]
    · obtain ⟨hik, hRQ⟩ : ik q = 1 ∧ RS Q m (fun i => kp (2911 * q + i)) := by
        rcases hK q (by omega) with ⟨m1, m2⟩ | ⟨Q2, m', m1, m2, m3⟩
        · rw [k1] at m1; cases m1
        · rw [k1] at m1
          have := Option.some.inj m1
          cases this
          exact ⟨m2, m3⟩
      have e2 := s_copy (d := 8) (σ := τ) (B := 85) (B2 := B) (P := P) (l := l) (Or.inl (by omega)) k3 hRQ.1
      rw [so_self hS, so_nw hZ] at e2
      obtain ⟨τ1, hτ1⟩ : ∃ s, s = nw τ (cpP Q P) m Z := ⟨_, rfl⟩
      rw [← hτ1] at e2
      have hC1 : CI τ1 tn tg hn hg (cpP Q P) m K kf := by rw [hτ1]; exact CI_nw hC
      have g85 : τ1.1 85 = some (.inr (6, [.ref 86, .ref 88, .ref 90, .ref 92, .ref 94, .ref 96, .ref 98, .int m])) := by rw [hτ1]; exact nw_85
      have g96 : τ1.1 96 = some (brw 97 (nI 200) (nI (Q.2 11))) := by rw [hτ1]; exact nw_96
      have g6 : τ1.1 6 = some cO := hC1.1.2.1
      have cBr : τ.1 B = _ := k3 0 (by omega)
      have e3 := g_entries (d := 9) g85
      have e4 := q_size (d := 9) g96
      have fo : ∀ k, 102 ≤ k → k ≤ 113 → τ1.1 k = τ.1 k := fun k z1 z2 => by rw [hτ1]; exact nw_no (by omega)
      have hM1 : MB τ1 (nI hn) (nI tn) ra tl fa ds st kp ik hd tg := MB_fr hM fo
      obtain ⟨b1, b2, b3, b4, b5, b6, W', bx', b7, b8⟩ := id hM1
      have e5 := m_back (d := 9) (q := q) hq b1 b2 b3 b4 hik
      have h54 : kp (2911 * q + 54) = nI (Q.2 11) := hRQ.2.2.2.2.2.2.1
      rw [h54] at e5
      refine ⟨nI (Q.2 11), τ1, _, ?_, e5, isR_of h6, isR_of b1, by rw [hτ1]; exact nw_no (by omega), tn, tg, hn, hg, cpP Q P, m, K, kf, ra, tl, fa, ds, cpyN (fun t => kp (2911 * q + t)) st 2911, kp, ik, hd, ?_, ?_, RS_ext (RS_eq (eqS_cp Q P) hRQ) (fun t ht => cpyN_at ht), hK, hH, ?_⟩
      · rw [en_124 (k := 60) (ls := [some (.ref 6), some (.int (nI q))]) rfl]
        simp only [rb_gg_eq, rb_ct_go, rb_ct_end, rb_ct_ite, Nat.reduceAdd, Nat.zero_add, wr_at, wr_wr, true_and, and_true, and_self, true_or, or_true, false_or, or_false, ↓reduceIte, Nat.reduceLT, Nat.reduceLeDiff, Nat.reduceEqDiff, lg_cmp_ge, lg_cmp_le, lg_cmp_gt, lg_cmp_lt, lg_cmp_eq, Bool.false_eq_true, reduceCtorEq, mg_i, mg_l, decide_true, beq_self_eq_true, Nat.reduceBEq, st_124, dX8_back_0, xx_iloadn1, dX8_back_1, xx_iflt, rb_jp, Int.cast_ofNat_Int, Int.reduceAdd, Int.reduceLE, Int.reduceToNat, Int.reduceNeg, dX8_back_4, dX8_back_5, xx_aloadn0, xx_aloadn0N, dX8_back_6, xx_getf, zz_f, zz_g, zz_v, List.getElem?_cons_zero, List.getElem?_cons_succ, tf_8_39, dX8_back_9, xx_alen, zz_vi, zz_va, dX8_back_10, xx_iclt, dX8_back_13, xx_ldc, zz_I, zz_S, ti_8_52, dX8_back_15, xx_iret, xx_zret0, xx_zret1, dX8_back_16, dX8_back_17, dX8_back_20, dX8_back_21, xx_aald, zz_ya, dX8_back_22, xx_ifnonnullR, xx_ifnonnullN, dX8_back_25, ti_8_69, dX8_back_27, dX8_back_28, dX8_back_29, tf_8_35, dX8_back_32, dX8_back_33, dX8_back_36, dX8_back_37, dX8_back_38, xx_ivV, zz_c0, zz_c3, zz_c1, zz_c2, zz_c5, zz_c8, zz_c6, zz_R, List.length_cons, List.length_nil, List.take_succ_cons, List.take_zero, List.drop_succ_cons, List.drop_zero, List.reverse_cons, List.reverse_nil, List.nil_append, List.cons_append, rb_cat, List.map_cons, List.map_nil, List.sum_cons, List.sum_nil, Value.category, rb_isR, rb_isS, Option.toList_some, Option.toList_none, tv_8_213, dX8_back_41, dX8_back_42, dX8_back_45, tv_8_195, dX8_back_48, tv_8_204, dX8_back_51, nI_ofn, c0, c2, h6, h99, q1, q2, k2, va_rf, f85, cBr, sc, e2, g6, g85, g96, e3, e4]
      · exact CI_fr hC1 (fun k hk => by rw [wr_ne (by omega)]) rfl
      · refine ⟨?_, ?_, ?_, ?_, ?_, ?_, W', bx', fun a ha => ?_, ?_⟩
        · rw [wr_ne (by omega)]; exact b1
        · rw [wr_at]
        · rw [wr_ne (by omega)]; exact b3
        · rw [wr_ne (by omega)]; exact b4
        · rw [wr_ne (by omega)]; exact b5
        · rw [wr_ne (by omega)]; exact b6
        · rw [wr_ne (by omega)]; exact b7 a ha
        · rw [wr_ne (by omega)]; exact b8
      · rw [wr_ne (by omega), hτ1, nw_no (by omega)]; exact h0
end
