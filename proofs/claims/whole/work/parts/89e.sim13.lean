/-! ===== fault, tell ===== -/
theorem nw_cong {σ τ : rb_S} {P : sP} {l : Int32} {Z : Nat → sI} {k : Nat} (h : σ.1 k = τ.1 k) : (nw σ P l Z).1 k = (nw τ P l Z).1 k := by
  unfold nw
  by_cases h1 : spK k
  · rw [js_at h1, js_at h1]
  · rw [js_no h1, js_no h1]
    by_cases h2 : 85 ≤ k ∧ k < 85 + 14
    · obtain ⟨o, rfl⟩ : ∃ o, k = 85 + o := ⟨k - 85, by omega⟩
      rw [so_at (by omega), so_at (by omega)]
    · rw [so_no h2, so_no h2, h]
section
variable {d : Nat} {σ τ : rb_S} {L : Nat} {xs : Nat → Int32}
theorem c_count {c t s e : Int32} {x y z : Nat} (h9 : σ.1 9 = some (.inr (4, [.ref x, .ref y, .ref z, .int c, .int t, .int s, .int e]))) : rb_R (d + 1) 47 [.ref 9] σ = some (some (.int c), σ) := by
  rw [en_47 (k := 60) (ls := [some (.ref 9)]) rfl]
  simp only [rb_gg_eq, rb_ct_go, rb_ct_end, rb_ct_ite, Nat.reduceAdd, Nat.zero_add, wr_at, wr_wr, true_and, and_true, and_self, true_or, or_true, false_or, or_false, ↓reduceIte, Nat.reduceLT, Nat.reduceLeDiff, Nat.reduceEqDiff, lg_cmp_ge, lg_cmp_le, lg_cmp_gt, lg_cmp_lt, lg_cmp_eq, Bool.false_eq_true, reduceCtorEq, mg_i, mg_l, decide_true, beq_self_eq_true, Nat.reduceBEq, st_47, dX4_clauseCount_0, xx_aloadn0, xx_aloadn0N, dX4_clauseCount_1, xx_getf, zz_f, zz_g, zz_v, List.getElem?_cons_zero, List.getElem?_cons_succ, tf_4_22, dX4_clauseCount_4, xx_iret, xx_zret0, xx_zret1, h9]
/-- only what the readings note has changed -/
theorem fin_fault {tn hn : Nat} {tg hg : Nat → Int32} {P : sP} {l : Int32} {K : sK} {kf : Nat → Option Nat} {ra tl fa ds : Int32} {st kp ik hd : Nat → Int32} (hC : CI τ tn tg hn hg P l K kf) (hM : MB τ (nI hn) (nI tn) ra tl fa ds st kp ik hd tg) (hR : RS P l st) (hK : RK K ik kp) (hH : RH hn hg hd) (h0 : τ.1 0 = some (.inl (9, L, .inl xs))) (kd nb : Nat → Int32) (c t s e ra' tl' fa' ds' : Int32) : Inv L xs (lx_mr (lx_ro τ kd nb c t s e) (nI hn) (nI tn) ra' tl' fa' ds' st) := by
  obtain ⟨hJ, h6, h7, h8, hrd, h99, h100, h101⟩ := id hC.1
  obtain ⟨a1, a2, a3, a4, a5, a6, W, bx, a7, a8⟩ := id hM
  have fo : ∀ k, ¬ (9 ≤ k ∧ k ≤ 11) → k ≠ 102 → k ≠ 103 → (lx_mr (lx_ro τ kd nb c t s e) (nI hn) (nI tn) ra' tl' fa' ds' st).1 k = τ.1 k := fun k k1 k2 k3 => (mr_no k2 k3).trans (ro_no (by omega))
  refine ⟨tn, tg, hn, hg, P, l, K, kf, ra', tl', fa', ds', st, kp, ik, hd, ?_, ?_, hR, hK, hH, (fo 0 (by omega) (by omega) (by omega)).trans h0⟩
  · refine CI_upd hC (fun k k1 k2 => fo k (by omega) (by omega) (by omega)) rfl ((fo 7 (by omega) (by omega) (by omega)).trans h7) ((fo 8 (by omega) (by omega) (by omega)).trans h8) ⟨kd, nb, c, t, s, e, ?_, ?_, ?_⟩ ((fo 100 (by omega) (by omega) (by omega)).trans h100) ((fo 101 (by omega) (by omega) (by omega)).trans h101) hC.2.2.2.2.2.1 hC.2.2.2.2.2.2.1
    · rw [mr_no (by omega) (by omega)]; rfl
    · rw [mr_no (by omega) (by omega)]; rfl
    · rw [mr_no (by omega) (by omega)]; rfl
  · exact MB_upd hM (fun k k1 k2 k3 => fo k (by omega) (by omega) (by omega)) rfl rfl ((fo 106 (by omega) (by omega) (by omega)).trans a5) ((fo 113 (by omega) (by omega) (by omega)).trans a6)
theorem sim_fault (I : Inv L xs τ) : SimOK 103 206 [] L xs τ := by
  obtain ⟨tn, tg, hn, hg, P, l, K, kf, ra, tl, fa, ds, st, kp, ik, hd, hC, hM, hR, hK, hH, h0⟩ := id I
  obtain ⟨hJ, h6, h7, h8, hrd, h99, h100, h101⟩ := id hC.1
  obtain ⟨kd, nb, c, t, s, e, r9, r10, r11⟩ := hrd
  obtain ⟨a1, a2, a3, a4, a5, a6, W, bx, a7, a8⟩ := id hM
  have ht := hC.2.2.2.2.2.1
  have hT : TX τ tn tg := ⟨h7, h8, ht.1⟩
  have hsf : lx_ro τ kd nb c t s e = τ := ro_self r9 r10 r11
  have t6 : τ.1 6 = some cO := h6
  have one0 : ((1 : Int32) = 0) = False := eq_false (by decide)
  have cls : ∀ (r : Int32) (τ1 : rb_S), rb_R 10 50 [.ref 9] τ = some (some (.int r), τ1) → rb_R 11 103 [.ref 6] τ = some (some (.int r), τ1) := fun r τ1 hr => by
    rw [en_103 (k := 60) (ls := [some (.ref 6)]) rfl]
    simp only [rb_gg_eq, rb_ct_go, rb_ct_end, rb_ct_ite, Nat.reduceAdd, Nat.zero_add, wr_at, wr_wr, true_and, and_true, and_self, true_or, or_true, false_or, or_false, ↓reduceIte, Nat.reduceLT, Nat.reduceLeDiff, Nat.reduceEqDiff, lg_cmp_ge, lg_cmp_le, lg_cmp_gt, lg_cmp_lt, lg_cmp_eq, Bool.false_eq_true, reduceCtorEq, mg_i, mg_l, decide_true, beq_self_eq_true, Nat.reduceBEq, st_103, dX8_fault_0, xx_aloadn0, xx_aloadn0N, dX8_fault_1, xx_getf, zz_f, zz_g, zz_v, List.getElem?_cons_zero, List.getElem?_cons_succ, tf_8_21, dX8_fault_4, xx_ivV, zz_c0, zz_c3, zz_c1, zz_c2, zz_c5, zz_c8, zz_c6, zz_R, List.length_cons, List.length_nil, List.take_succ_cons, List.take_zero, List.drop_succ_cons, List.drop_zero, List.reverse_cons, List.reverse_nil, List.nil_append, List.cons_append, rb_cat, List.map_cons, List.map_nil, List.sum_cons, List.sum_nil, Value.category, rb_isR, rb_isS, Option.toList_some, Option.toList_none, tv_8_65, dX8_fault_7, xx_iret, xx_zret0, xx_zret1, t6, r9, hr]
  rcases rd_all (g := tg) (n := tn) 23 (lx_ws tg tn 0) (ws_b (Nat.zero_le tn)).2 with ⟨cs, hcs⟩ | ⟨q, hq, hno⟩
  · obtain ⟨kd', nb', t', s', e', e1, -, -⟩ := c_readOK (d := 1) (kd := kd) (nb := nb) (c := c) (t := t) (s := s) (e := e) hT hcs
    rw [hsf] at e1
    have b1 : (lx_ro τ kd' nb' (nI cs.length) t' s' e').1 102 = some (mo (nI hn) (nI tn) ra tl fa ds) := (ro_no (by omega)).trans a1
    have b2 : (lx_ro τ kd' nb' (nI cs.length) t' s' e').1 103 = some (.inl (0, 2911, .inl st)) := (ro_no (by omega)).trans a2
    have hX : MX (lx_ro τ kd' nb' (nI cs.length) t' s' e') tn tg := ⟨(ro_no (by omega)).trans a6, ht.1⟩
    obtain ⟨p', l', e2⟩ := m_reads0 (d := 2) (ih := nI hn) (ra := ra) (tl := tl) (fa := fa) (ds := ds) (st := st) hX ht.2 hcs
    rw [mr_self b1 b2] at e2
    refine ⟨-1000000001, _, _, cls _ _ e1, ?_, isR_of h6, isR_of b1, ro_no (by omega), fin_fault hC hM hR hK hH h0 kd' nb' (nI cs.length) t' s' e' (nI p') (nI l') 0 0⟩
    rw [en_206 (k := 60) (ls := [some (.ref 102)]) rfl]
    simp only [rb_gg_eq, rb_ct_go, rb_ct_end, rb_ct_ite, Nat.reduceAdd, Nat.zero_add, wr_at, wr_wr, true_and, and_true, and_self, true_or, or_true, false_or, or_false, ↓reduceIte, Nat.reduceLT, Nat.reduceLeDiff, Nat.reduceEqDiff, lg_cmp_ge, lg_cmp_le, lg_cmp_gt, lg_cmp_lt, lg_cmp_eq, Bool.false_eq_true, reduceCtorEq, mg_i, mg_l, decide_true, beq_self_eq_true, Nat.reduceBEq, st_206, dX9_fault_0, xx_aloadn0, xx_aloadn0N, dX9_fault_1, xx_iconst, kc_0, dX9_fault_2, xx_ivV, zz_c0, zz_c3, zz_c1, zz_c2, zz_c5, zz_c8, zz_c6, zz_R, List.length_cons, List.length_nil, List.take_succ_cons, List.take_zero, List.drop_succ_cons, List.drop_zero, List.reverse_cons, List.reverse_nil, List.nil_append, List.cons_append, rb_cat, List.map_cons, List.map_nil, List.sum_cons, List.sum_nil, Value.category, rb_isR, rb_isS, Option.toList_some, Option.toList_none, tv_9_257, dX9_fault_5, xx_popi, xx_popr, xx_popz, dX9_fault_6, dX9_fault_7, xx_getf, zz_f, zz_g, zz_v, List.getElem?_cons_zero, List.getElem?_cons_succ, tf_9_221, dX9_fault_10, xx_ifeq, rb_jp, Int.cast_ofNat_Int, Int.reduceAdd, Int.reduceLE, Int.reduceToNat, Int.reduceNeg, dX9_fault_13, dX9_fault_14, tf_9_209, dX9_fault_17, xx_goto, dX9_fault_20, xx_ldc, zz_I, zz_S, ti_9_164, dX9_fault_22, xx_iret, xx_zret0, xx_zret1, b1, e2, mr_102]
  · obtain ⟨kd', nb', c', t', s', e', e1⟩ := c_readNo (d := 1) (kd := kd) (nb := nb) (c := c) (t := t) (s := s) (e := e) hT hno
    rw [hsf] at e1
    have b1 : (lx_ro τ kd' nb' c' t' s' e').1 102 = some (mo (nI hn) (nI tn) ra tl fa ds) := (ro_no (by omega)).trans a1
    have b2 : (lx_ro τ kd' nb' c' t' s' e').1 103 = some (.inl (0, 2911, .inl st)) := (ro_no (by omega)).trans a2
    have hX : MX (lx_ro τ kd' nb' c' t' s' e') tn tg := ⟨(ro_no (by omega)).trans a6, ht.1⟩
    obtain ⟨x', l', e2⟩ := m_readsN (d := 2) (ih := nI hn) (ra := ra) (tl := tl) (fa := fa) (ds := ds) (st := st) hX ht.2 hno
    rw [mr_self b1 b2] at e2
    refine ⟨nI q, _, _, cls _ _ e1, ?_, isR_of h6, isR_of b1, ro_no (by omega), fin_fault hC hM hR hK hH h0 kd' nb' c' t' s' e' (nI q) (nI l') 1 0⟩
    rw [en_206 (k := 60) (ls := [some (.ref 102)]) rfl]
    simp only [rb_gg_eq, rb_ct_go, rb_ct_end, rb_ct_ite, Nat.reduceAdd, Nat.zero_add, wr_at, wr_wr, true_and, and_true, and_self, true_or, or_true, false_or, or_false, ↓reduceIte, Nat.reduceLT, Nat.reduceLeDiff, Nat.reduceEqDiff, lg_cmp_ge, lg_cmp_le, lg_cmp_gt, lg_cmp_lt, lg_cmp_eq, Bool.false_eq_true, reduceCtorEq, mg_i, mg_l, decide_true, beq_self_eq_true, Nat.reduceBEq, st_206, dX9_fault_0, xx_aloadn0, xx_aloadn0N, dX9_fault_1, xx_iconst, kc_0, dX9_fault_2, xx_ivV, zz_c0, zz_c3, zz_c1, zz_c2, zz_c5, zz_c8, zz_c6, zz_R, List.length_cons, List.length_nil, List.take_succ_cons, List.take_zero, List.drop_succ_cons, List.drop_zero, List.reverse_cons, List.reverse_nil, List.nil_append, List.cons_append, rb_cat, List.map_cons, List.map_nil, List.sum_cons, List.sum_nil, Value.category, rb_isR, rb_isS, Option.toList_some, Option.toList_none, tv_9_257, dX9_fault_5, xx_popi, xx_popr, xx_popz, dX9_fault_6, dX9_fault_7, xx_getf, zz_f, zz_g, zz_v, List.getElem?_cons_zero, List.getElem?_cons_succ, tf_9_221, dX9_fault_10, xx_ifeq, rb_jp, Int.cast_ofNat_Int, Int.reduceAdd, Int.reduceLE, Int.reduceToNat, Int.reduceNeg, dX9_fault_13, dX9_fault_14, tf_9_209, dX9_fault_17, xx_goto, dX9_fault_20, xx_ldc, zz_I, zz_S, ti_9_164, dX9_fault_22, xx_iret, xx_zret0, xx_zret1, b1, e2, mr_102, one0]
theorem sim_tell (I : Inv L xs τ) : SimOK 104 207 [] L xs τ := by
  obtain ⟨tn, tg, hn, hg, P, l, K, kf, ra, tl, fa, ds, st, kp, ik, hd, hC, hM, hR, hK, hH, h0⟩ := id I
  obtain ⟨hJ, h6, h7, h8, hrd, h99, h100, h101⟩ := id hC.1
  obtain ⟨kd, nb, c, t, s, e, r9, r10, r11⟩ := hrd
  obtain ⟨a1, a2, a3, a4, a5, a6, W, bx, a7, a8⟩ := id hM
  obtain ⟨Z, hZ⟩ := hC.2.2.1
  have ht := hC.2.2.2.2.2.1
  have hT : TX τ tn tg := ⟨h7, h8, ht.1⟩
  have hsf : lx_ro τ kd nb c t s e = τ := ro_self r9 r10 r11
  have t6 : τ.1 6 = some cO := h6
  have one0 : ((1 : Int32) = 0) = False := eq_false (by decide)
  rcases rd_all (g := tg) (n := tn) 23 (lx_ws tg tn 0) (ws_b (Nat.zero_le tn)).2 with ⟨cs, hcs⟩ | ⟨q, hq, hno⟩
  · obtain ⟨kd', nb', t', s', e', e1, hA, hN⟩ := c_readOK (d := 1) (kd := kd) (nb := nb) (c := c) (t := t) (s := s) (e := e) hT hcs
    rw [hsf] at e1
    obtain ⟨τ1, hτ1⟩ : ∃ x, x = lx_ro τ kd' nb' (nI cs.length) t' s' e' := ⟨_, rfl⟩
    rw [← hτ1] at e1
    have f1 : ∀ k, ¬ (9 ≤ k ∧ k ≤ 11) → τ1.1 k = τ.1 k := fun k hk => by rw [hτ1]; exact ro_no (by omega)
    have g6 : τ1.1 6 = some cO := (f1 6 (by omega)).trans h6
    have g9 : τ1.1 9 = some (.inr (4, [.ref 7, .ref 10, .ref 11, .int (nI cs.length), .int t', .int s', .int e'])) := by rw [hτ1]; rfl
    have g10 : τ1.1 10 = some (.inl (0, 24, .inl kd')) := by rw [hτ1]; rfl
    have g11 : τ1.1 11 = some (.inl (0, 96, .inl nb')) := by rw [hτ1]; rfl
    have g100 : τ1.1 100 = some (brw 101 (nI 1) (nI hn)) := (f1 100 (by omega)).trans h100
    have hw1 : hw τ1 hn = τ1 := wr_id g100
    have hS1 : StAt τ1 85 P l := fun o ho => (f1 (85 + o) (by omega)).trans (hC.2.1 o ho)
    have hnw : nw (hw τ1 hn) P l Z = τ1 := by
      rw [hw1]
      exact nw_self hS1 (fun k hk => (f1 k (by omega)).trans (hZ k hk))
    have hok := rd_cls _ _ _ hcs
    obtain ⟨E1, E2, E3⟩ := RS_effs (g := tg) (n := tn) cs P l st hn hok hR
    have eL := l_tell (d := 5) (g := tg) (n := tn) (Z := Z) g6 g9 g10 g11 hN cs 0 P l hn (by omega) hA hok
    rw [hnw] at eL
    obtain ⟨x, hx⟩ : ∃ x, eCs tg tn cs (P, l, hn) = x := ⟨_, rfl⟩
    obtain ⟨y, hy⟩ : ∃ y, eMs tg tn cs (st, hn) = y := ⟨_, rfl⟩
    rw [hx, hy] at E1 E2
    rw [hx] at E3 eL
    obtain ⟨P', l', hn'⟩ := x
    obtain ⟨st', hm⟩ := y
    dsimp only at E1 E2 E3 eL
    obtain ⟨τ2, hτ2⟩ : ∃ x, x = rb_wr (nw (hw τ1 hn') P' l' Z) 7 (.inr (7, [.ref 8, .int 0])) := ⟨_, rfl⟩
    have k6 : (nw (hw τ1 hn') P' l' Z).1 6 = some cO := (nw_no (by omega)).trans ((hw_no (by omega)).trans g6)
    have k7 : (nw (hw τ1 hn') P' l' Z).1 7 = some (.inr (7, [.ref 8, .int (nI tn)])) := (nw_no (by omega)).trans ((hw_no (by omega)).trans ((f1 7 (by omega)).trans h7))
    have eT := q_tclear (d := 9) k7
    rw [← hτ2] at eT
    have eN := c_count (d := 9) g9
    have f2 : ∀ k, ¬ (7 ≤ k ∧ k ≤ 11) → k ≠ 100 → τ2.1 k = (nw τ P' l' Z).1 k := fun k k1 k2 => by
      rw [hτ2, wr_ne (by omega)]
      exact nw_cong ((hw_no k2).trans (f1 k (by omega)))
    have f3 : ∀ k, 101 ≤ k → τ2.1 k = τ.1 k := fun k k1 => (f2 k (by omega) (by omega)).trans (nw_no (by omega))
    have b1 : τ2.1 102 = some (mo (nI hn) (nI tn) ra tl fa ds) := (f3 102 (by omega)).trans a1
    have b2 : τ2.1 103 = some (.inl (0, 2911, .inl st)) := (f3 103 (by omega)).trans a2
    have hX : MX τ2 tn tg := ⟨(f3 113 (by omega)).trans a6, ht.1⟩
    obtain ⟨p1, l1, m1⟩ := m_reads0 (d := 2) (ih := nI hn) (ra := ra) (tl := tl) (fa := fa) (ds := ds) (st := st) hX ht.2 hcs
    rw [mr_self b1 b2] at m1
    obtain ⟨p2, l2, m2⟩ := m_reads1 (d := 2) (hn := hn) (ra := nI p1) (tl := nI l1) (fa := 0) (ds := 0) (st := st) hX ht.2 hcs
    rw [hy] at m2
    dsimp only at m2
    have hn1 : hn' ≤ 1 := by
      have := hC.2.2.2.2.2.2.1
      omega
    subst E2
    refine ⟨nI cs.length, τ2, lx_mr τ2 (nI hn') (nI 0) (nI p2) (nI l2) 0 1 st', ?_, ?_, isR_of h6, isR_of b1, (f2 0 (by omega) (by omega)).trans (nw_no (by omega)), 0, tg, hn', hg, P', l', K, kf, nI p2, nI l2, 0, 1, st', kp, ik, hd, ?_, ?_, E1, hK, ?_, ?_⟩
    · rw [en_104 (k := 60) (ls := [some (.ref 6), none, none]) rfl, rb_gg, rb_ls 25 9999 60]
      simp only [rb_gs_eq, rb_cs_go, rb_cs_end, rb_cs_ite, Nat.reduceAdd, Nat.zero_add, wr_at, wr_wr, true_and, and_true, and_self, true_or, or_true, false_or, or_false, ↓reduceIte, Nat.reduceLT, Nat.reduceLeDiff, Nat.reduceEqDiff, lg_cmp_ge, lg_cmp_le, lg_cmp_gt, lg_cmp_lt, lg_cmp_eq, Bool.false_eq_true, reduceCtorEq, mg_i, mg_l, decide_true, beq_self_eq_true, Nat.reduceBEq, st_104, dX8_tell_0, xx_aloadn0, xx_aloadn0N, dX8_tell_1, xx_getf, zz_f, zz_g, zz_v, List.getElem?_cons_zero, List.getElem?_cons_succ, tf_8_21, dX8_tell_4, xx_ivV, zz_c0, zz_c3, zz_c1, zz_c2, zz_c5, zz_c8, zz_c6, zz_R, List.length_cons, List.length_nil, List.take_succ_cons, List.take_zero, List.drop_succ_cons, List.drop_zero, List.reverse_cons, List.reverse_nil, List.nil_append, List.cons_append, rb_cat, List.map_cons, List.map_nil, List.sum_cons, List.sum_nil, Value.category, rb_isR, rb_isS, Option.toList_some, Option.toList_none, tv_8_65, dX8_tell_7, xx_ldc, zz_I, zz_S, ti_8_68, dX8_tell_9, xx_iceq, rb_jp, Int.cast_ofNat_Int, Int.reduceAdd, Int.reduceLE, Int.reduceToNat, Int.reduceNeg, dX8_tell_12, ti_8_69, dX8_tell_14, xx_iret, xx_zret0, xx_zret1, dX8_tell_15, dX8_tell_16, dX8_tell_19, tv_8_70, dX8_tell_22, xx_istoren1, zz_invi, zz_invr, zz_invz, zz_invn, zz_invl, dX8_tell_23, xx_iconst, kc_0, dX8_tell_24, xx_istoren2, dX8_tell_25, xx_iloadn2, dX8_tell_26, xx_iloadn1, dX8_tell_27, xx_icge, dX8_tell_30, dX8_tell_31, xx_bipush, kb_24, dX8_tell_33, dX8_tell_36, dX8_tell_37, dX8_tell_38, tv_8_73, dX8_tell_41, xx_iinc2, kc_1, dX8_tell_44, xx_goto, dX8_tell_47, dX8_tell_48, tf_8_12, dX8_tell_51, tv_8_62, dX8_tell_54, dX8_tell_55, t6, r9, e1, g6, g9, eN, ne_eq, not_false_eq_true, Nat.reduceEqDiff]
      refine Eq.trans eL ?_
      rw [rb_ls 9998 9999 60]
      simp only [rb_gs_eq, rb_cs_go, rb_cs_end, rb_cs_ite, Nat.reduceAdd, Nat.zero_add, wr_at, wr_wr, true_and, and_true, and_self, true_or, or_true, false_or, or_false, ↓reduceIte, Nat.reduceLT, Nat.reduceLeDiff, Nat.reduceEqDiff, lg_cmp_ge, lg_cmp_le, lg_cmp_gt, lg_cmp_lt, lg_cmp_eq, Bool.false_eq_true, reduceCtorEq, mg_i, mg_l, decide_true, beq_self_eq_true, Nat.reduceBEq, st_104, dX8_tell_0, xx_aloadn0, xx_aloadn0N, dX8_tell_1, xx_getf, zz_f, zz_g, zz_v, List.getElem?_cons_zero, List.getElem?_cons_succ, tf_8_21, dX8_tell_4, xx_ivV, zz_c0, zz_c3, zz_c1, zz_c2, zz_c5, zz_c8, zz_c6, zz_R, List.length_cons, List.length_nil, List.take_succ_cons, List.take_zero, List.drop_succ_cons, List.drop_zero, List.reverse_cons, List.reverse_nil, List.nil_append, List.cons_append, rb_cat, List.map_cons, List.map_nil, List.sum_cons, List.sum_nil, Value.category, rb_isR, rb_isS, Option.toList_some, Option.toList_none, tv_8_65, dX8_tell_7, xx_ldc, zz_I, zz_S, ti_8_68, dX8_tell_9, xx_iceq, rb_jp, Int.cast_ofNat_Int, Int.reduceAdd, Int.reduceLE, Int.reduceToNat, Int.reduceNeg, dX8_tell_12, ti_8_69, dX8_tell_14, xx_iret, xx_zret0, xx_zret1, dX8_tell_15, dX8_tell_16, dX8_tell_19, tv_8_70, dX8_tell_22, xx_istoren1, zz_invi, zz_invr, zz_invz, zz_invn, zz_invl, dX8_tell_23, xx_iconst, kc_0, dX8_tell_24, xx_istoren2, dX8_tell_25, xx_iloadn2, dX8_tell_26, xx_iloadn1, dX8_tell_27, xx_icge, dX8_tell_30, dX8_tell_31, xx_bipush, kb_24, dX8_tell_33, dX8_tell_36, dX8_tell_37, dX8_tell_38, tv_8_73, dX8_tell_41, xx_iinc2, kc_1, dX8_tell_44, xx_goto, dX8_tell_47, dX8_tell_48, tf_8_12, dX8_tell_51, tv_8_62, dX8_tell_54, dX8_tell_55, k6, k7, eT, ne_eq, not_false_eq_true, Nat.reduceEqDiff]
    · rw [en_207 (k := 60) (ls := [some (.ref 102), none]) rfl]
      simp only [rb_gg_eq, rb_ct_go, rb_ct_end, rb_ct_ite, Nat.reduceAdd, Nat.zero_add, wr_at, wr_wr, true_and, and_true, and_self, true_or, or_true, false_or, or_false, ↓reduceIte, Nat.reduceLT, Nat.reduceLeDiff, Nat.reduceEqDiff, lg_cmp_ge, lg_cmp_le, lg_cmp_gt, lg_cmp_lt, lg_cmp_eq, Bool.false_eq_true, reduceCtorEq, mg_i, mg_l, decide_true, beq_self_eq_true, Nat.reduceBEq, st_207, dX9_tell_0, xx_aloadn0, xx_aloadn0N, dX9_tell_1, xx_iconst, kc_0, dX9_tell_2, xx_ivV, zz_c0, zz_c3, zz_c1, zz_c2, zz_c5, zz_c8, zz_c6, zz_R, List.length_cons, List.length_nil, List.take_succ_cons, List.take_zero, List.drop_succ_cons, List.drop_zero, List.reverse_cons, List.reverse_nil, List.nil_append, List.cons_append, rb_cat, List.map_cons, List.map_nil, List.sum_cons, List.sum_nil, Value.category, rb_isR, rb_isS, Option.toList_some, Option.toList_none, tv_9_257, dX9_tell_5, xx_popi, xx_popr, xx_popz, dX9_tell_6, dX9_tell_7, xx_getf, zz_f, zz_g, zz_v, List.getElem?_cons_zero, List.getElem?_cons_succ, tf_9_221, dX9_tell_10, xx_ifeq, rb_jp, Int.cast_ofNat_Int, Int.reduceAdd, Int.reduceLE, Int.reduceToNat, Int.reduceNeg, dX9_tell_13, xx_ldc, zz_I, zz_S, ti_9_149, dX9_tell_15, xx_iret, xx_zret0, xx_zret1, dX9_tell_16, dX9_tell_17, kc_1, dX9_tell_18, dX9_tell_21, xx_istoren1, zz_invi, zz_invr, zz_invz, zz_invn, zz_invl, dX9_tell_22, dX9_tell_23, dX9_tell_24, xx_putf, zz_q, zz_p, zz_ti, zz_tl, zz_t0, zz_t1, zz_to, zz_ta, List.set_cons_zero, List.set_cons_succ, tf_9_205, dX9_tell_27, xx_iloadn1, dX9_tell_28, b1, m1, mr_102, m2, mr_w102]
      rfl
    · have hC2 : CI (nw τ P' l' Z) tn tg hn hg P' l' K kf := CI_nw hC
      have fo : ∀ k, ¬ (7 ≤ k ∧ k ≤ 11) → ¬ (100 ≤ k ∧ k ≤ 113) → (lx_mr τ2 (nI hn') (nI 0) (nI p2) (nI l2) 0 1 st').1 k = (nw τ P' l' Z).1 k := fun k k1 k2 => (mr_no (by omega) (by omega)).trans (f2 k k1 (by omega))
      refine CI_upd hC2 fo ?_ ?_ ?_ ⟨kd', nb', nI cs.length, t', s', e', ?_, ?_, ?_⟩ ?_ ?_ ⟨by omega, fun k hk => absurd hk (Nat.not_lt_zero k)⟩ hn1
      · show τ2.2 = τ.2
        rw [hτ2]
        show (nw (hw τ1 hn') P' l' Z).2 = τ.2
        rw [hτ1]
        rfl
      · rw [mr_no (by omega) (by omega), hτ2, wr_at]; rfl
      · rw [mr_no (by omega) (by omega), hτ2, wr_ne (by omega), nw_no (by omega), hw_no (by omega), f1 8 (by omega)]; exact h8
      · rw [mr_no (by omega) (by omega), hτ2, wr_ne (by omega), nw_no (by omega), hw_no (by omega)]; exact g9
      · rw [mr_no (by omega) (by omega), hτ2, wr_ne (by omega), nw_no (by omega), hw_no (by omega)]; exact g10
      · rw [mr_no (by omega) (by omega), hτ2, wr_ne (by omega), nw_no (by omega), hw_no (by omega)]; exact g11
      · rw [mr_no (by omega) (by omega), hτ2, wr_ne (by omega), nw_no (by omega)]; exact hw_100
      · rw [mr_no (by omega) (by omega)]; exact (f3 101 (by omega)).trans h101
    · exact MB_upd hM (fun k k1 k2 k3 => (mr_no (by omega) (by omega)).trans (f3 k (by omega))) rfl rfl ((mr_no (by omega) (by omega)).trans ((f3 106 (by omega)).trans a5)) ((mr_no (by omega) (by omega)).trans ((f3 113 (by omega)).trans a6))
    · intro hh1
      rcases E3 with E3 | E3
      · exact hH (E3.symm.trans hh1)
      · rw [E3] at hh1; exact absurd hh1 (by omega)
    · rw [mr_no (by omega) (by omega)]
      exact ((f2 0 (by omega) (by omega)).trans (nw_no (by omega))).trans h0
  · obtain ⟨kd', nb', c', t', s', e', e1⟩ := c_readNo (d := 1) (kd := kd) (nb := nb) (c := c) (t := t) (s := s) (e := e) hT hno
    rw [hsf] at e1
    have b1 : (lx_ro τ kd' nb' c' t' s' e').1 102 = some (mo (nI hn) (nI tn) ra tl fa ds) := (ro_no (by omega)).trans a1
    have b2 : (lx_ro τ kd' nb' c' t' s' e').1 103 = some (.inl (0, 2911, .inl st)) := (ro_no (by omega)).trans a2
    have hX : MX (lx_ro τ kd' nb' c' t' s' e') tn tg := ⟨(ro_no (by omega)).trans a6, ht.1⟩
    obtain ⟨x', l', e2⟩ := m_readsN (d := 2) (ih := nI hn) (ra := ra) (tl := tl) (fa := fa) (ds := ds) (st := st) hX ht.2 hno
    rw [mr_self b1 b2] at e2
    have nq : (nI q = -1000000001) = False := eq_false (fun hx => by
      rw [i_inj, i_nI (by omega)] at hx
      have z : (-1000000001 : Int32).toInt = -1000000001 := rfl
      omega)
    refine ⟨-1000000004, _, _, ?_, ?_, isR_of h6, isR_of b1, ro_no (by omega), fin_fault hC hM hR hK hH h0 kd' nb' c' t' s' e' (nI q) (nI l') 1 0⟩
    · rw [en_104 (k := 60) (ls := [some (.ref 6), none, none]) rfl]
      simp only [rb_gg_eq, rb_ct_go, rb_ct_end, rb_ct_ite, Nat.reduceAdd, Nat.zero_add, wr_at, wr_wr, true_and, and_true, and_self, true_or, or_true, false_or, or_false, ↓reduceIte, Nat.reduceLT, Nat.reduceLeDiff, Nat.reduceEqDiff, lg_cmp_ge, lg_cmp_le, lg_cmp_gt, lg_cmp_lt, lg_cmp_eq, Bool.false_eq_true, reduceCtorEq, mg_i, mg_l, decide_true, beq_self_eq_true, Nat.reduceBEq, st_104, dX8_tell_0, xx_aloadn0, xx_aloadn0N, dX8_tell_1, xx_getf, zz_f, zz_g, zz_v, List.getElem?_cons_zero, List.getElem?_cons_succ, tf_8_21, dX8_tell_4, xx_ivV, zz_c0, zz_c3, zz_c1, zz_c2, zz_c5, zz_c8, zz_c6, zz_R, List.length_cons, List.length_nil, List.take_succ_cons, List.take_zero, List.drop_succ_cons, List.drop_zero, List.reverse_cons, List.reverse_nil, List.nil_append, List.cons_append, rb_cat, List.map_cons, List.map_nil, List.sum_cons, List.sum_nil, Value.category, rb_isR, rb_isS, Option.toList_some, Option.toList_none, tv_8_65, dX8_tell_7, xx_ldc, zz_I, zz_S, ti_8_68, dX8_tell_9, xx_iceq, rb_jp, Int.cast_ofNat_Int, Int.reduceAdd, Int.reduceLE, Int.reduceToNat, Int.reduceNeg, dX8_tell_12, ti_8_69, dX8_tell_14, xx_iret, xx_zret0, xx_zret1, dX8_tell_15, dX8_tell_16, dX8_tell_19, tv_8_70, dX8_tell_22, xx_istoren1, zz_invi, zz_invr, zz_invz, zz_invn, zz_invl, dX8_tell_23, xx_iconst, kc_0, dX8_tell_24, xx_istoren2, dX8_tell_25, xx_iloadn2, dX8_tell_26, xx_iloadn1, dX8_tell_27, xx_icge, dX8_tell_30, dX8_tell_31, xx_bipush, kb_24, dX8_tell_33, dX8_tell_36, dX8_tell_37, dX8_tell_38, tv_8_73, dX8_tell_41, xx_iinc2, kc_1, dX8_tell_44, xx_goto, dX8_tell_47, dX8_tell_48, tf_8_12, dX8_tell_51, tv_8_62, dX8_tell_54, dX8_tell_55, t6, r9, e1, nq]
    · rw [en_207 (k := 60) (ls := [some (.ref 102), none]) rfl]
      simp only [rb_gg_eq, rb_ct_go, rb_ct_end, rb_ct_ite, Nat.reduceAdd, Nat.zero_add, wr_at, wr_wr, true_and, and_true, and_self, true_or, or_true, false_or, or_false, ↓reduceIte, Nat.reduceLT, Nat.reduceLeDiff, Nat.reduceEqDiff, lg_cmp_ge, lg_cmp_le, lg_cmp_gt, lg_cmp_lt, lg_cmp_eq, Bool.false_eq_true, reduceCtorEq, mg_i, mg_l, decide_true, beq_self_eq_true, Nat.reduceBEq, st_207, dX9_tell_0, xx_aloadn0, xx_aloadn0N, dX9_tell_1, xx_iconst, kc_0, dX9_tell_2, xx_ivV, zz_c0, zz_c3, zz_c1, zz_c2, zz_c5, zz_c8, zz_c6, zz_R, List.length_cons, List.length_nil, List.take_succ_cons, List.take_zero, List.drop_succ_cons, List.drop_zero, List.reverse_cons, List.reverse_nil, List.nil_append, List.cons_append, rb_cat, List.map_cons, List.map_nil, List.sum_cons, List.sum_nil, Value.category, rb_isR, rb_isS, Option.toList_some, Option.toList_none, tv_9_257, dX9_tell_5, xx_popi, xx_popr, xx_popz, dX9_tell_6, dX9_tell_7, xx_getf, zz_f, zz_g, zz_v, List.getElem?_cons_zero, List.getElem?_cons_succ, tf_9_221, dX9_tell_10, xx_ifeq, rb_jp, Int.cast_ofNat_Int, Int.reduceAdd, Int.reduceLE, Int.reduceToNat, Int.reduceNeg, dX9_tell_13, xx_ldc, zz_I, zz_S, ti_9_149, dX9_tell_15, xx_iret, xx_zret0, xx_zret1, dX9_tell_16, dX9_tell_17, kc_1, dX9_tell_18, dX9_tell_21, xx_istoren1, zz_invi, zz_invr, zz_invz, zz_invn, zz_invl, dX9_tell_22, dX9_tell_23, dX9_tell_24, xx_putf, zz_q, zz_p, zz_ti, zz_tl, zz_t0, zz_t1, zz_to, zz_ta, List.set_cons_zero, List.set_cons_succ, tf_9_205, dX9_tell_27, xx_iloadn1, dX9_tell_28, b1, e2, mr_102, one0]
end
