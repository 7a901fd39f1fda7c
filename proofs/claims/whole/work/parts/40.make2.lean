/-! ===== grids, the judge, the class, the model are made ===== -/
theorem xx_aast2 {C : rb_C} {o : Nat} {ini : Bool} {ret : Option FieldType} {pc : Nat} {ls : rb_L} {st : List Value} {σ : rb_S} {x a n : Nat} {i : Int32} {g : Nat → Option Nat} {fs : List Value} (ha : σ.1 a = some (.inl (2, n, .inr (.inr (.inr (.inr g)))))) (hx : σ.1 x = some (.inr (5, fs))) (hi : rb_in i n = true) : rb_nxt C o ini ret (.ok (.aastore, 1)) pc ls (.ref x :: .int i :: .ref a :: st) σ = some (.inl (pc + 1, ls, st, rb_wr σ a (.inl (2, n, .inr (.inr (.inr (.inr (va_up g i.toNatClampNeg (some x))))))))) := by
  show (rb_arA σ a fun tg n g => rb_obj σ x (rb_elt tg) fun _ => if (tg = 2 ∨ tg = 3) ∧ rb_in i n = true then rb_go 1 1 pc ls st (rb_wr σ a (.inl (tg, n, .inr (.inr (.inr (.inr (va_up g i.toNatClampNeg (some x)))))))) else none) = _
  unfold rb_arA
  rw [ha]
  dsimp only
  unfold rb_obj
  rw [hx]
  dsimp only
  rw [if_pos (show 5 = rb_elt 2 from rfl), if_pos ⟨Or.inl rfl, hi⟩]
  rfl
theorem xx_aast3 {C : rb_C} {o : Nat} {ini : Bool} {ret : Option FieldType} {pc : Nat} {ls : rb_L} {st : List Value} {σ : rb_S} {x a n : Nat} {i : Int32} {g : Nat → Option Nat} {fs : List Value} (ha : σ.1 a = some (.inl (3, n, .inr (.inr (.inr (.inr g)))))) (hx : σ.1 x = some (.inr (6, fs))) (hi : rb_in i n = true) : rb_nxt C o ini ret (.ok (.aastore, 1)) pc ls (.ref x :: .int i :: .ref a :: st) σ = some (.inl (pc + 1, ls, st, rb_wr σ a (.inl (3, n, .inr (.inr (.inr (.inr (va_up g i.toNatClampNeg (some x))))))))) := by
  show (rb_arA σ a fun tg n g => rb_obj σ x (rb_elt tg) fun _ => if (tg = 2 ∨ tg = 3) ∧ rb_in i n = true then rb_go 1 1 pc ls st (rb_wr σ a (.inl (tg, n, .inr (.inr (.inr (.inr (va_up g i.toNatClampNeg (some x)))))))) else none) = _
  unfold rb_arA
  rw [ha]
  dsimp only
  unfold rb_obj
  rw [hx]
  dsimp only
  rw [if_pos (show 6 = rb_elt 3 from rfl), if_pos ⟨Or.inr rfl, hi⟩]
  rfl
section
variable {d a n : Nat} {σ : rb_S}
theorem l_grid {s : Nat} : ∀ (r k : Nat) (τ : rb_S) (g : Nat → Option Nat), k + r = 25 → τ.1 a = some (.inr (1, [.ref (a + 1)])) → τ.1 (a + 1) = some (.inl (2, 25, .inr (.inr (.inr (.inr g))))) → (∀ j, j < k → g j = some (a + 2 + j) ∧ τ.1 (a + 2 + j) = some (sp 0 0)) → τ.2.1 = a + 2 + k → τ.2.2 = s + 2 * k → (∀ k, k < a → τ.1 k = σ.1 k) →
    ∃ σ', rb_lim (rb_stp (rb_R (d + 1)) rb_m19) (15, [some (.ref a), some (.int (nI k))], [], τ) = some (none, σ') ∧ σ'.1 a = some (.inr (1, [.ref (a + 1)])) ∧ (∃ g : Nat → Option Nat, σ'.1 (a + 1) = some (.inl (2, 25, .inr (.inr (.inr (.inr g))))) ∧ ∀ j, j < 25 → g j = some (a + 2 + j)) ∧ (∀ j, j < 25 → σ'.1 (a + 2 + j) = some (sp 0 0)) ∧ (∀ k, k < a → σ'.1 k = σ.1 k) ∧ σ'.2.1 = a + 27 ∧ σ'.2.2 = s + 50 := by
  intro r
  induction r with
  | zero =>
    intro k τ g hk h1 h2 h3 h4 h5 h6
    have hk' : k = 25 := by omega
    subst hk'
    refine ⟨τ, ?_, h1, ⟨g, h2, fun j hj => (h3 j hj).1⟩, fun j hj => (h3 j hj).2, h6, by omega, by omega⟩
    rw [rb_ls 15 9999 40]
    simp (disch := omega) only [rb_gs_eq, rb_cs_go, rb_cs_end, rb_cs_ite, Nat.reduceAdd, Nat.zero_add, wr_at, wr_wr, true_and, and_true, and_self, true_or, or_true, false_or, or_false, ↓reduceIte, Nat.reduceLT, Nat.reduceLeDiff, Nat.reduceEqDiff, lg_cmp_ge, lg_cmp_le, lg_cmp_gt, lg_cmp_lt, lg_cmp_eq, Bool.false_eq_true, reduceCtorEq, mg_i, mg_l, decide_true, beq_self_eq_true, Nat.reduceBEq, st_19, dX1_init_0, xx_aloadn0, xx_aloadn0N, dX1_init_1, xx_ivP, zz_c0, zz_c3, zz_c1, zz_c2, zz_c5, zz_c8, zz_c6, zz_R, List.length_cons, List.length_nil, List.take_succ_cons, List.take_zero, List.drop_succ_cons, List.drop_zero, List.reverse_cons, List.reverse_nil, List.nil_append, List.cons_append, rb_cat, List.map_cons, List.map_nil, List.sum_cons, List.sum_nil, Value.category, rb_isR, rb_isS, Option.toList_some, Option.toList_none, tv_1_3, dX1_init_4, dX1_init_5, xx_bipush, kb_25, dX1_init_7, xx_anew, zz_ua, ta_1_9, dX1_init_10, xx_putf, zz_q, zz_p, zz_ti, zz_tl, zz_t0, zz_t1, zz_to, zz_ta, List.getElem?_cons_zero, List.getElem?_cons_succ, List.set_cons_zero, List.set_cons_succ, tf_1_11, dX1_init_13, xx_iconst, kc_0, dX1_init_14, xx_istoren1, zz_invi, zz_invr, zz_invz, zz_invn, zz_invl, dX1_init_15, xx_iloadn1, dX1_init_16, dX1_init_17, xx_getf, zz_f, zz_g, zz_v, dX1_init_20, xx_alen, zz_vi, zz_va, dX1_init_21, xx_icge, rb_jp, Int.cast_ofNat_Int, Int.reduceAdd, Int.reduceLE, Int.reduceToNat, Int.reduceNeg, dX1_init_24, dX1_init_25, dX1_init_28, dX1_init_29, xx_new, zz_un, tn_1_9, dX1_init_32, xx_dupi, xx_dupr, xx_dupz, dX1_init_33, tv_1_17, dX1_init_36, dX1_init_37, xx_iinc1, kc_1, dX1_init_40, xx_goto, dX1_init_43, xx_vret, h1, h2, nI_ofn, nI_le', if_pos, if_neg]
  | succ r ih =>
    intro k τ g hk h1 h2 h3 h4 h5 h6
    obtain ⟨τ1, hτ1⟩ : ∃ τ1, τ1 = rb_mk τ (.inr (5, [.long 0, .long 0])) 2 := ⟨_, rfl⟩
    have m1 : τ1.1 (a + 2 + k) = some (.inr (5, [.long 0, .long 0])) := by rw [hτ1]; exact mk_at h4.symm
    have m2 : ∀ j, j < a + 2 + k → τ1.1 j = τ.1 j := fun j hj => by rw [hτ1]; exact mk_ne (by omega)
    have m3 : τ1.1 (a + 1) = some (.inl (2, 25, .inr (.inr (.inr (.inr g))))) := by rw [m2 _ (by omega), h2]
    have z := fun (C : rb_C) (o : Nat) (ini : Bool) (ret : Option FieldType) (pc : Nat) (ls : rb_L) (st : List Value) => xx_aast2 (C := C) (o := o) (ini := ini) (ret := ret) (pc := pc) (ls := ls) (st := st) (i := nI k) m3 m1 (by rw [rb_in' (by omega)]; exact decide_eq_true (by omega))
    have e0 := i_span (d := d) (a := a + 2 + k) (σ := τ1)
    have ck : (nI k).toNatClampNeg = k := nI_cl (by omega)
    rw [hτ1] at z e0
    rw [rb_ls 15 9999 40]
    simp (disch := omega) only [rb_gs_eq, rb_cs_go, rb_cs_end, rb_cs_ite, Nat.reduceAdd, Nat.zero_add, wr_at, wr_wr, true_and, and_true, and_self, true_or, or_true, false_or, or_false, ↓reduceIte, Nat.reduceLT, Nat.reduceLeDiff, Nat.reduceEqDiff, lg_cmp_ge, lg_cmp_le, lg_cmp_gt, lg_cmp_lt, lg_cmp_eq, Bool.false_eq_true, reduceCtorEq, mg_i, mg_l, decide_true, beq_self_eq_true, Nat.reduceBEq, st_19, dX1_init_0, xx_aloadn0, xx_aloadn0N, dX1_init_1, xx_ivP, zz_c0, zz_c3, zz_c1, zz_c2, zz_c5, zz_c8, zz_c6, zz_R, List.length_cons, List.length_nil, List.take_succ_cons, List.take_zero, List.drop_succ_cons, List.drop_zero, List.reverse_cons, List.reverse_nil, List.nil_append, List.cons_append, rb_cat, List.map_cons, List.map_nil, List.sum_cons, List.sum_nil, Value.category, rb_isR, rb_isS, Option.toList_some, Option.toList_none, tv_1_3, dX1_init_4, dX1_init_5, xx_bipush, kb_25, dX1_init_7, xx_anew, zz_ua, ta_1_9, dX1_init_10, xx_putf, zz_q, zz_p, zz_ti, zz_tl, zz_t0, zz_t1, zz_to, zz_ta, List.getElem?_cons_zero, List.getElem?_cons_succ, List.set_cons_zero, List.set_cons_succ, tf_1_11, dX1_init_13, xx_iconst, kc_0, dX1_init_14, xx_istoren1, zz_invi, zz_invr, zz_invz, zz_invn, zz_invl, dX1_init_15, xx_iloadn1, dX1_init_16, dX1_init_17, xx_getf, zz_f, zz_g, zz_v, dX1_init_20, xx_alen, zz_vi, zz_va, dX1_init_21, xx_icge, rb_jp, Int.cast_ofNat_Int, Int.reduceAdd, Int.reduceLE, Int.reduceToNat, Int.reduceNeg, dX1_init_24, dX1_init_25, dX1_init_28, dX1_init_29, xx_new, zz_un, tn_1_9, dX1_init_32, xx_dupi, xx_dupr, xx_dupz, dX1_init_33, tv_1_17, dX1_init_36, dX1_init_37, xx_iinc1, kc_1, dX1_init_40, xx_goto, dX1_init_43, xx_vret, h1, h2, h4, df_5, nI_ofn, nI_le', nI_1, e0, z, ck, if_pos, if_neg, mk_at h4.symm]
    rw [← hτ1]
    refine ih (k + 1) _ (va_up g k (some (a + 2 + k))) (by omega) ?_ wr_at (fun j hj => ?_) ?_ ?_ (fun j hj => ?_)
    · rw [wr_ne (by omega), m2 _ (by omega), h1]
    · by_cases hjk : j = k
      · rw [hjk, va_up_self, wr_ne (by omega), m1]
        exact ⟨rfl, rfl⟩
      · rw [va_up_ne _ _ hjk, wr_ne (by omega), m2 _ (by omega)]
        exact h3 j (by omega)
    · rw [wr_21, hτ1, mk_2, h4]; omega
    · rw [wr_22, hτ1, mk_22, h5]; omega
    · rw [wr_ne (by omega), m2 _ (by omega)]
      exact h6 j hj
theorem i_grid (hσ : σ.2.1 = a + 1) (h : σ.1 a = some (.inr (1, [.null]))) : ∃ σ', rb_R (d + 2) 19 [.ref a] σ = some (none, σ') ∧ σ'.1 a = some (.inr (1, [.ref (a + 1)])) ∧ (∃ g : Nat → Option Nat, σ'.1 (a + 1) = some (.inl (2, 25, .inr (.inr (.inr (.inr g))))) ∧ ∀ j, j < 25 → g j = some (a + 2 + j)) ∧ (∀ j, j < 25 → σ'.1 (a + 2 + j) = some (sp 0 0)) ∧ (∀ k, k < a → σ'.1 k = σ.1 k) ∧ σ'.2.1 = a + 27 ∧ σ'.2.2 = σ.2.2 + 75 := by
  have ha : a ≠ σ.2.1 := by omega
  obtain ⟨τ, hτ⟩ : ∃ τ, τ = rb_mk (rb_wr σ a (.inr (1, [.ref (a + 1)]))) (.inl (2, 25, .inr (.inr (.inr (.inr fun _ => none))))) 25 := ⟨_, rfl⟩
  have h1 : τ.1 a = some (.inr (1, [.ref (a + 1)])) := by rw [hτ, mk_ne (by rw [wr_21]; omega), wr_at]
  have key := l_grid (d := d) (a := a) (σ := σ) (s := σ.2.2 + 25) 25 0 τ (fun _ => none) (by omega) h1 (by rw [hτ]; exact mk_at (by rw [wr_21]; omega)) (fun j hj => absurd hj (by omega)) (by rw [hτ, mk_2, wr_21, hσ]) (by rw [hτ, mk_22, wr_22]) (fun k hk => by rw [hτ, mk_ne (by rw [wr_21]; omega), wr_ne (by omega)])
  obtain ⟨σ', k1, k2, k3, k4, k5, k6, k7⟩ := key
  refine ⟨σ', ?_, k2, k3, k4, k5, k6, by omega⟩
  rw [en_19 (k := 40) (ls := [some (.ref a), none]) rfl, rb_gg, rb_ls 15 9999 40]
  simp (disch := omega) only [rb_gs_eq, rb_cs_go, rb_cs_end, rb_cs_ite, Nat.reduceAdd, Nat.zero_add, wr_at, wr_wr, true_and, and_true, and_self, true_or, or_true, false_or, or_false, ↓reduceIte, Nat.reduceLT, Nat.reduceLeDiff, Nat.reduceEqDiff, lg_cmp_ge, lg_cmp_le, lg_cmp_gt, lg_cmp_lt, lg_cmp_eq, Bool.false_eq_true, reduceCtorEq, mg_i, mg_l, decide_true, beq_self_eq_true, Nat.reduceBEq, st_19, dX1_init_0, xx_aloadn0, xx_aloadn0N, dX1_init_1, xx_ivP, zz_c0, zz_c3, zz_c1, zz_c2, zz_c5, zz_c8, zz_c6, zz_R, List.length_cons, List.length_nil, List.take_succ_cons, List.take_zero, List.drop_succ_cons, List.drop_zero, List.reverse_cons, List.reverse_nil, List.nil_append, List.cons_append, rb_cat, List.map_cons, List.map_nil, List.sum_cons, List.sum_nil, Value.category, rb_isR, rb_isS, Option.toList_some, Option.toList_none, tv_1_3, dX1_init_4, dX1_init_5, xx_bipush, kb_25, dX1_init_7, xx_anew, zz_ua, ta_1_9, dX1_init_10, xx_putf, zz_q, zz_p, zz_ti, zz_tl, zz_t0, zz_t1, zz_to, zz_ta, List.getElem?_cons_zero, List.getElem?_cons_succ, List.set_cons_zero, List.set_cons_succ, tf_1_11, dX1_init_13, xx_iconst, kc_0, dX1_init_14, xx_istoren1, zz_invi, zz_invr, zz_invz, zz_invn, zz_invl, dX1_init_15, xx_iloadn1, dX1_init_16, dX1_init_17, xx_getf, zz_f, zz_g, zz_v, dX1_init_20, xx_alen, zz_vi, zz_va, dX1_init_21, xx_icge, rb_jp, Int.cast_ofNat_Int, Int.reduceAdd, Int.reduceLE, Int.reduceToNat, Int.reduceNeg, dX1_init_24, dX1_init_25, dX1_init_28, dX1_init_29, xx_new, zz_un, tn_1_9, dX1_init_32, xx_dupi, xx_dupr, xx_dupz, dX1_init_33, tv_1_17, dX1_init_36, dX1_init_37, xx_iinc1, kc_1, dX1_init_40, xx_goto, dX1_init_43, xx_vret, mk_ne ha, h, hσ, cl_lit, nn_lit, not_false_eq_true, wr_mk ha]
  rw [← hτ]
  exact k1
theorem m_reader {L : List va_E} {s i t : Nat} (hi : L[i]? = some (.inr (4, [.null, .null, .null, .int 0, .int 0, .int 0, .int 0]))) : rb_R (d + 1) 46 [.ref (n + i), .ref t] (mm σ n L s) = some (none, mm σ n (L.set i (.inr (4, [.ref t, .ref (n + L.length), .ref (n + L.length + 1), .int 0, .int 0, .int 0, .int 0])) ++ [.inl (0, 24, .inl fun _ => 0), .inl (0, 96, .inl fun _ => 0)]) (s + 120)) := by
  have hl : i < L.length := (List.getElem?_eq_some_iff.mp hi).1
  have h0 : (mm σ n L s).1 (n + i) = _ := mm_at (c := .inr (4, [.null, .null, .null, .int 0, .int 0, .int 0, .int 0])) (by omega) (by rw [Nat.add_sub_cancel_left]; exact hi)
  have ha : n + i ≠ (mm σ n L s).2.1 := by rw [mm_2]; omega
  have hb : ∀ c k, n + i ≠ (rb_mk (mm σ n L s) c k).2.1 := fun c k => by rw [mk_2, mm_2]; omega
  have hc : ∀ e c k, n + i ≠ (rb_mk (rb_wr (mm σ n L s) (n + i) e) c k).2.1 := fun e c k => by rw [mk_2, wr_21, mm_2]; omega
  have hd : ∀ e, n + i ≠ (rb_wr (mm σ n L s) (n + i) e).2.1 := fun e => by rw [wr_21, mm_2]; omega
  rw [en_46 (k := 60) (ls := [some (.ref (n + i)), some (.ref t)]) rfl]
  simp only [rb_gg_eq, rb_ct_go, rb_ct_end, rb_ct_ite, Nat.reduceAdd, Nat.zero_add, wr_at, wr_wr, true_and, and_true, and_self, true_or, or_true, false_or, or_false, ↓reduceIte, Nat.reduceLT, Nat.reduceLeDiff, Nat.reduceEqDiff, lg_cmp_ge, lg_cmp_le, lg_cmp_gt, lg_cmp_lt, lg_cmp_eq, Bool.false_eq_true, reduceCtorEq, mg_i, mg_l, decide_true, beq_self_eq_true, Nat.reduceBEq, st_46, dX4_init_0, xx_aloadn0, xx_aloadn0N, dX4_init_1, xx_ivP, zz_c0, zz_c3, zz_c1, zz_c2, zz_c5, zz_c8, zz_c6, zz_R, List.length_cons, List.length_nil, List.take_succ_cons, List.take_zero, List.drop_succ_cons, List.drop_zero, List.reverse_cons, List.reverse_nil, List.nil_append, List.cons_append, rb_cat, List.map_cons, List.map_nil, List.sum_cons, List.sum_nil, Value.category, rb_isR, rb_isS, Option.toList_some, Option.toList_none, tv_4_3, dX4_init_4, dX4_init_5, xx_bipush, kb_24, dX4_init_7, xx_newI, xx_newJ, dX4_init_9, xx_putf, zz_q, zz_p, zz_ti, zz_tl, zz_t0, zz_t1, zz_to, zz_ta, List.getElem?_cons_zero, List.getElem?_cons_succ, List.set_cons_zero, List.set_cons_succ, tf_4_9, dX4_init_12, dX4_init_13, kb_96, dX4_init_15, dX4_init_17, tf_4_15, dX4_init_20, dX4_init_21, xx_aloadn1, xx_aloadn1N, dX4_init_22, tf_4_18, dX4_init_25, xx_vret, mk_ne ha, mk_ne (hb _ _), mk_ne (hc _ _ _), mk_ne (hd _), h0, cl_lit, nn_lit, not_false_eq_true, wr_mk ha, wr_mk (hd _), wr_mk (hc _ _ _), mk_2, wr_21, mm_2]
  rw [mm_wr (by omega) (by omega), mm_mk, mm_mk, Nat.add_sub_cancel_left, List.append_assoc, Nat.add_assoc s]
  rfl
theorem m_text {L : List va_E} {s i : Nat} (hi : L[i]? = some (.inr (7, [.null, .int 0]))) : rb_R (d + 1) 95 [.ref (n + i)] (mm σ n L s) = some (none, mm σ n (L.set i (.inr (7, [.ref (n + L.length), .int 0])) ++ [.inl (0, 200, .inl fun _ => 0)]) (s + 200)) := by
  have hl : i < L.length := (List.getElem?_eq_some_iff.mp hi).1
  rw [i_text (mm_at (c := .inr (7, [.null, .int 0])) (by omega) (by rw [Nat.add_sub_cancel_left]; exact hi)) (by rw [mm_2]; omega), mm_wr (by omega) (by omega), mm_mk, Nat.add_sub_cancel_left, mm_2]
end
