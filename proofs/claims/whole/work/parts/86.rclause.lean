/-! ===== the class's Reader: a clause, the whole text ===== -/
section
variable {C : rb_C} {o pc : Nat} {ini : Bool} {ret : Option FieldType} {ls : rb_L} {st : List Value} {σ : rb_S}
theorem sw_n : rb_nxt C o ini ret (.ok (.tableswitch 37 1 4 #[31, 31, 33, 35], 31)) pc ls (.int 0 :: st) σ = rb_jp pc 37 ls st σ ∧ rb_nxt C o ini ret (.ok (.tableswitch 37 1 4 #[31, 31, 33, 35], 31)) pc ls (.int 1 :: st) σ = rb_jp pc 31 ls st σ ∧ rb_nxt C o ini ret (.ok (.tableswitch 37 1 4 #[31, 31, 33, 35], 31)) pc ls (.int 2 :: st) σ = rb_jp pc 31 ls st σ ∧ rb_nxt C o ini ret (.ok (.tableswitch 37 1 4 #[31, 31, 33, 35], 31)) pc ls (.int 3 :: st) σ = rb_jp pc 33 ls st σ ∧ rb_nxt C o ini ret (.ok (.tableswitch 37 1 4 #[31, 31, 33, 35], 31)) pc ls (.int 4 :: st) σ = rb_jp pc 35 ls st σ := ⟨rfl, rfl, rfl, rfl, rfl⟩
end
theorem wn_l : lx_wn 0 = 0 ∧ lx_wn 1 = 3 ∧ lx_wn 2 = 3 ∧ lx_wn 3 = 1 ∧ lx_wn 4 = 4 := by decide
theorem wn_4 (K : Int32) : lx_wn K ≤ 4 := by
  unfold lx_wn
  (repeat' split) <;> omega
theorem wn_c {K : Int32} {k : Nat} (h : k < lx_wn K) : K = 1 ∨ K = 2 ∨ K = 3 ∨ K = 4 := by
  unfold lx_wn at h
  by_cases h4 : K = 4
  · exact Or.inr (Or.inr (Or.inr h4))
  · rw [if_neg h4] at h
    by_cases h3 : K = 3
    · exact Or.inr (Or.inr (Or.inl h3))
    · rw [if_neg h3] at h
      by_cases h1 : K = 1
      · exact Or.inl h1
      · rw [if_neg h1] at h
        by_cases h2 : K = 2
        · exact Or.inr (Or.inl h2)
        · rw [if_neg h2] at h; omega
section
variable {d n : Nat} {σ : rb_S} {g kd nb : Nat → Int32} {c t s e : Int32}
theorem c_numbersOf {K : Int32} (hK : K = 0 ∨ K = 1 ∨ K = 2 ∨ K = 3 ∨ K = 4) : rb_R (d + 1) 53 [.int K] σ = some (some (.int (nI (lx_wn K))), σ) := by
  rcases hK with rfl | rfl | rfl | rfl | rfl
  · rw [en_53 (k := 60) (ls := [some (.int 0)]) rfl, wn_l.1, ← lit_0]
    simp only [rb_gg_eq, rb_ct_go, rb_ct_end, rb_ct_ite, Nat.reduceAdd, Nat.zero_add, wr_at, wr_wr, true_and, and_true, and_self, true_or, or_true, false_or, or_false, ↓reduceIte, Nat.reduceLT, Nat.reduceLeDiff, Nat.reduceEqDiff, lg_cmp_ge, lg_cmp_le, lg_cmp_gt, lg_cmp_lt, lg_cmp_eq, Bool.false_eq_true, reduceCtorEq, mg_i, mg_l, decide_true, beq_self_eq_true, Nat.reduceBEq, st_53, dX4_numbersOf_0, xx_iloadn0, dX4_numbersOf_1, rb_jp, Int.cast_ofNat_Int, Int.reduceAdd, Int.reduceLE, Int.reduceToNat, Int.reduceNeg, dX4_numbersOf_32, xx_iconst, kc_3, dX4_numbersOf_33, xx_iret, xx_zret0, xx_zret1, dX4_numbersOf_34, kc_1, dX4_numbersOf_35, dX4_numbersOf_36, kc_4, dX4_numbersOf_37, dX4_numbersOf_38, kc_0, dX4_numbersOf_39, sw_n]
  · rw [en_53 (k := 60) (ls := [some (.int 1)]) rfl, wn_l.2.1, ← lit_3]
    simp only [rb_gg_eq, rb_ct_go, rb_ct_end, rb_ct_ite, Nat.reduceAdd, Nat.zero_add, wr_at, wr_wr, true_and, and_true, and_self, true_or, or_true, false_or, or_false, ↓reduceIte, Nat.reduceLT, Nat.reduceLeDiff, Nat.reduceEqDiff, lg_cmp_ge, lg_cmp_le, lg_cmp_gt, lg_cmp_lt, lg_cmp_eq, Bool.false_eq_true, reduceCtorEq, mg_i, mg_l, decide_true, beq_self_eq_true, Nat.reduceBEq, st_53, dX4_numbersOf_0, xx_iloadn0, dX4_numbersOf_1, rb_jp, Int.cast_ofNat_Int, Int.reduceAdd, Int.reduceLE, Int.reduceToNat, Int.reduceNeg, dX4_numbersOf_32, xx_iconst, kc_3, dX4_numbersOf_33, xx_iret, xx_zret0, xx_zret1, dX4_numbersOf_34, kc_1, dX4_numbersOf_35, dX4_numbersOf_36, kc_4, dX4_numbersOf_37, dX4_numbersOf_38, kc_0, dX4_numbersOf_39, sw_n]
  · rw [en_53 (k := 60) (ls := [some (.int 2)]) rfl, wn_l.2.2.1, ← lit_3]
    simp only [rb_gg_eq, rb_ct_go, rb_ct_end, rb_ct_ite, Nat.reduceAdd, Nat.zero_add, wr_at, wr_wr, true_and, and_true, and_self, true_or, or_true, false_or, or_false, ↓reduceIte, Nat.reduceLT, Nat.reduceLeDiff, Nat.reduceEqDiff, lg_cmp_ge, lg_cmp_le, lg_cmp_gt, lg_cmp_lt, lg_cmp_eq, Bool.false_eq_true, reduceCtorEq, mg_i, mg_l, decide_true, beq_self_eq_true, Nat.reduceBEq, st_53, dX4_numbersOf_0, xx_iloadn0, dX4_numbersOf_1, rb_jp, Int.cast_ofNat_Int, Int.reduceAdd, Int.reduceLE, Int.reduceToNat, Int.reduceNeg, dX4_numbersOf_32, xx_iconst, kc_3, dX4_numbersOf_33, xx_iret, xx_zret0, xx_zret1, dX4_numbersOf_34, kc_1, dX4_numbersOf_35, dX4_numbersOf_36, kc_4, dX4_numbersOf_37, dX4_numbersOf_38, kc_0, dX4_numbersOf_39, sw_n]
  · rw [en_53 (k := 60) (ls := [some (.int 3)]) rfl, wn_l.2.2.2.1, ← lit_1]
    simp only [rb_gg_eq, rb_ct_go, rb_ct_end, rb_ct_ite, Nat.reduceAdd, Nat.zero_add, wr_at, wr_wr, true_and, and_true, and_self, true_or, or_true, false_or, or_false, ↓reduceIte, Nat.reduceLT, Nat.reduceLeDiff, Nat.reduceEqDiff, lg_cmp_ge, lg_cmp_le, lg_cmp_gt, lg_cmp_lt, lg_cmp_eq, Bool.false_eq_true, reduceCtorEq, mg_i, mg_l, decide_true, beq_self_eq_true, Nat.reduceBEq, st_53, dX4_numbersOf_0, xx_iloadn0, dX4_numbersOf_1, rb_jp, Int.cast_ofNat_Int, Int.reduceAdd, Int.reduceLE, Int.reduceToNat, Int.reduceNeg, dX4_numbersOf_32, xx_iconst, kc_3, dX4_numbersOf_33, xx_iret, xx_zret0, xx_zret1, dX4_numbersOf_34, kc_1, dX4_numbersOf_35, dX4_numbersOf_36, kc_4, dX4_numbersOf_37, dX4_numbersOf_38, kc_0, dX4_numbersOf_39, sw_n]
  · rw [en_53 (k := 60) (ls := [some (.int 4)]) rfl, wn_l.2.2.2.2, ← lit_4]
    simp only [rb_gg_eq, rb_ct_go, rb_ct_end, rb_ct_ite, Nat.reduceAdd, Nat.zero_add, wr_at, wr_wr, true_and, and_true, and_self, true_or, or_true, false_or, or_false, ↓reduceIte, Nat.reduceLT, Nat.reduceLeDiff, Nat.reduceEqDiff, lg_cmp_ge, lg_cmp_le, lg_cmp_gt, lg_cmp_lt, lg_cmp_eq, Bool.false_eq_true, reduceCtorEq, mg_i, mg_l, decide_true, beq_self_eq_true, Nat.reduceBEq, st_53, dX4_numbersOf_0, xx_iloadn0, dX4_numbersOf_1, rb_jp, Int.cast_ofNat_Int, Int.reduceAdd, Int.reduceLE, Int.reduceToNat, Int.reduceNeg, dX4_numbersOf_32, xx_iconst, kc_3, dX4_numbersOf_33, xx_iret, xx_zret0, xx_zret1, dX4_numbersOf_34, kc_1, dX4_numbersOf_35, dX4_numbersOf_36, kc_4, dX4_numbersOf_37, dX4_numbersOf_38, kc_0, dX4_numbersOf_39, sw_n]
/-- the numbers of a clause lie in their row -/
def agr (g : Nat → Int32) (n : Nat) (K : Int32) (s cc k : Nat) (nb : Nat → Int32) : Prop := ∀ i, i < k → nb (4 * cc + i) = lx_vk g n K s i
theorem c_fits {K : Int32} {s cc k : Nat} (hc : cc < 24) (hk : k < lx_wn K) (ha : agr g n K s cc k nb) (ho : ∀ i, i < k → lx_ok g n K s i) : ∀ v s', rb_R (d + 3) 55 [.ref 9, .int K, .int (nI k), .int v] (lx_rp σ kd nb (nI cc) g n s') = some (some (.int (lx_inR (lx_bl K k (lx_vk g n K s (k - 1))) (lx_bh K k (lx_vk g n K s (k - 1))) v)), lx_rp σ kd nb (nI cc) g n s') := by
  intro v s'
  have tri : ∀ K : Int32, (K = 1 ∨ K = 2) → k < 3 → ¬ K = 3 → ¬ K = 4 → agr g n K s cc k nb → (∀ i, i < k → lx_ok g n K s i) → rb_R (d + 3) 55 [.ref 9, .int K, .int (nI k), .int v] (lx_rp σ kd nb (nI cc) g n s') = some (some (.int (lx_inR (lx_bl K k (lx_vk g n K s (k - 1))) (lx_bh K k (lx_vk g n K s (k - 1))) v)), lx_rp σ kd nb (nI cc) g n s') := by
    intro K h12 hk3 h3 h4 ha ho
    have hk' : k = 0 ∨ k = 1 ∨ k = 2 := by omega
    rcases hk' with rfl | rfl | rfl
    · have e1 : lx_bl K 0 (lx_vk g n K s (0 - 1)) = -20 := by unfold lx_bl; rw [if_neg h3, if_neg h4, if_pos rfl]
      have e2 : lx_bh K 0 (lx_vk g n K s (0 - 1)) = 20 := by unfold lx_bh; rw [if_neg h3, if_neg h4, if_pos rfl]
      rw [e1, e2]
      exact fits_t0 h3 h4
    · have e1 : lx_bl K 1 (lx_vk g n K s (1 - 1)) = 0 := by unfold lx_bl; rw [if_neg h3, if_neg h4, if_neg (by omega)]
      have e2 : lx_bh K 1 (lx_vk g n K s (1 - 1)) = 4 := by unfold lx_bh; rw [if_neg h3, if_neg h4, if_neg (by omega), if_pos rfl]
      rw [e1, e2]
      exact fits_t1 h3 h4
    · have e1 : lx_bl K 2 (lx_vk g n K s (2 - 1)) = 0 := by unfold lx_bl; rw [if_neg h3, if_neg h4, if_neg (by omega)]
      have e2 : lx_bh K 2 (lx_vk g n K s (2 - 1)) = 4 - lx_vk g n K s 1 := by unfold lx_bh; rw [if_neg h3, if_neg h4, if_neg (by omega), if_neg (by omega)]
      have a1 := ha 1 (by omega)
      have o1 := inR_1 (ho 1 (by omega)).2.2
      have e3 : lx_bl K 1 (lx_vk g n K s (1 - 1)) = 0 := by unfold lx_bl; rw [if_neg h3, if_neg h4, if_neg (by omega)]
      have e4 : lx_bh K 1 (lx_vk g n K s (1 - 1)) = 4 := by unfold lx_bh; rw [if_neg h3, if_neg h4, if_neg (by omega), if_pos rfl]
      rw [e3, e4] at o1
      have z0 : (0 : Int32).toInt = 0 := rfl
      have z4 : (4 : Int32).toInt = 4 := rfl
      have o2 : 0 ≤ (lx_vk g n K s 1).toInt ∧ (lx_vk g n K s 1).toInt ≤ 4 := by
        have o3 : (0 : Int32).toInt ≤ (lx_vk g n K s 1).toInt ∧ (lx_vk g n K s 1).toInt ≤ (4 : Int32).toInt := o1
        omega
      rw [e1, e2, ← a1]
      exact fits_t2 hc h3 h4 (by rw [a1]; exact o2.1) (by rw [a1]; exact o2.2)
  rcases wn_c hk with rfl | rfl | rfl | rfl
  · exact tri 1 (Or.inl rfl) (by rw [wn_l.2.1] at hk; exact hk) (by decide) (by decide) ha ho
  · exact tri 2 (Or.inr rfl) (by rw [wn_l.2.2.1] at hk; exact hk) (by decide) (by decide) ha ho
  · have hk0 : k = 0 := by rw [wn_l.2.2.2.1] at hk; omega
    subst hk0
    exact fits_3
  · have bnd : ∀ i, i < k → (i = 0 ∨ i = 2) → -512 ≤ (lx_vk g n 4 s i).toInt ∧ (lx_vk g n 4 s i).toInt ≤ 512 := by
      intro i hi h02
      have o1 := inR_1 (ho i hi).2.2
      have e3 : lx_bl 4 i (lx_vk g n 4 s (i - 1)) = -512 := by unfold lx_bl; rw [if_neg (by decide), if_pos rfl, if_neg (by omega)]
      have e4 : lx_bh 4 i (lx_vk g n 4 s (i - 1)) = 512 := by unfold lx_bh; rw [if_neg (by decide), if_pos rfl]
      rw [e3, e4] at o1
      exact o1
    have hk' : k = 0 ∨ k = 1 ∨ k = 2 ∨ k = 3 := by rw [wn_l.2.2.2.2] at hk; omega
    rcases hk' with rfl | rfl | rfl | rfl
    · exact fits_4a (by decide) (by decide)
    · have a1 := ha 0 (by omega)
      have b1 := bnd 0 (by omega) (Or.inl rfl)
      have := fits_4b (d := d) (σ := σ) (kd := kd) (nb := nb) (t := lx_tk g n s') (s := nI s') (e := nI (lx_te g n s')) (v := v) hc (Or.inl rfl) (by rw [a1]; exact b1.1) (by rw [a1]; exact b1.2)
      rw [a1] at this
      exact this
    · exact fits_4a (by decide) (by decide)
    · have a1 := ha 2 (by omega)
      have b1 := bnd 2 (by omega) (Or.inr rfl)
      have := fits_4b (d := d) (σ := σ) (kd := kd) (nb := nb) (t := lx_tk g n s') (s := nI s') (e := nI (lx_te g n s')) (v := v) hc (Or.inr rfl) (by rw [a1]; exact b1.1) (by rw [a1]; exact b1.2)
      rw [a1] at this
      exact this
theorem rc_ok (h : TX σ n g) {K : Int32} {s cc k : Nat} (hs : s ≤ n) (hc : cc < 24) (hk : k < lx_wn K) (ha : agr g n K s cc k nb) (ho : ∀ i, i < k → lx_ok g n K s i) (hok : lx_ok g n K s k) : rb_lim (rb_stp (rb_R (d + 6)) rb_m51) (52, [some (.ref 9), some (.int K), some (.int (nI (lx_wn K))), some (.int (nI k))], [], lx_rp σ kd nb (nI cc) g n (lx_sk g n K s k)) = rb_lim (rb_stp (rb_R (d + 6)) rb_m51) (52, [some (.ref 9), some (.int K), some (.int (nI (lx_wn K))), some (.int (nI (k + 1)))], [], lx_rp σ kd (upd nb (4 * cc + k) (lx_vk g n K s k)) (nI cc) g n (lx_sk g n K s (k + 1))) := by
  have w4 := wn_4 K
  have one0 : ((1 : Int32) = 0) = False := eq_false (by decide)
  have g1 : ¬ nI (lx_wn K) ≤ nI k := nI_ge (by omega) (by omega)
  have l1 := (c_readNumber (d := d) h (sk_b (g := g) (K := K) hs k).2 (show k < 4 by omega) hc (c_fits (d := d + 2) (σ := σ) (kd := kd) hc hk ha ho)).1 hok
  rw [rb_ls 52 9999 60]
  simp only [rb_gs_eq, rb_cs_go, rb_cs_end, rb_cs_ite, Nat.reduceAdd, Nat.zero_add, wr_at, wr_wr, true_and, and_true, and_self, true_or, or_true, false_or, or_false, ↓reduceIte, Nat.reduceLT, Nat.reduceLeDiff, Nat.reduceEqDiff, lg_cmp_ge, lg_cmp_le, lg_cmp_gt, lg_cmp_lt, lg_cmp_eq, Bool.false_eq_true, reduceCtorEq, mg_i, mg_l, decide_true, beq_self_eq_true, Nat.reduceBEq, st_51, dX4_readClause_0, xx_aloadn0, xx_aloadn0N, dX4_readClause_1, xx_ivV, zz_c0, zz_c3, zz_c1, zz_c2, zz_c5, zz_c8, zz_c6, zz_R, List.length_cons, List.length_nil, List.take_succ_cons, List.take_zero, List.drop_succ_cons, List.drop_zero, List.reverse_cons, List.reverse_nil, List.nil_append, List.cons_append, rb_cat, List.map_cons, List.map_nil, List.sum_cons, List.sum_nil, Value.category, rb_isR, rb_isS, Option.toList_some, Option.toList_none, tv_4_51, dX4_readClause_4, xx_istoren1, zz_invi, zz_invr, zz_invz, zz_invn, zz_invl, dX4_readClause_5, xx_iloadn1, dX4_readClause_6, xx_iconst, kc_m1, dX4_readClause_7, xx_iceq, rb_jp, Int.cast_ofNat_Int, Int.reduceAdd, Int.reduceLE, Int.reduceToNat, Int.reduceNeg, dX4_readClause_10, dX4_readClause_11, xx_getf, zz_f, zz_g, zz_v, List.getElem?_cons_zero, List.getElem?_cons_succ, tf_4_22, dX4_readClause_14, xx_iflt, dX4_readClause_17, dX4_readClause_18, dX4_readClause_21, dX4_readClause_22, tf_4_9, dX4_readClause_25, xx_alen, zz_vi, zz_va, dX4_readClause_26, xx_iclt, dX4_readClause_29, kc_0, dX4_readClause_30, xx_iret, xx_zret0, xx_zret1, dX4_readClause_31, dX4_readClause_32, dX4_readClause_35, dX4_readClause_36, dX4_readClause_39, dX4_readClause_40, xx_iast, zz_wi, dX4_readClause_41, dX4_readClause_42, tv_4_33, dX4_readClause_45, dX4_readClause_46, xx_ivS, tv_4_55, dX4_readClause_49, xx_istoren2, dX4_readClause_50, dX4_readClause_51, xx_istoren3, dX4_readClause_52, xx_iloadn3, dX4_readClause_53, xx_iloadn2, dX4_readClause_54, xx_icge, dX4_readClause_57, dX4_readClause_58, dX4_readClause_59, dX4_readClause_60, tv_4_59, dX4_readClause_63, xx_ifne, dX4_readClause_66, dX4_readClause_67, dX4_readClause_68, xx_iinc3, kc_1, dX4_readClause_71, xx_goto, dX4_readClause_74, dX4_readClause_75, rp_9, g1, l1, one0, nI_1, ne_eq, not_false_eq_true, Nat.reduceEqDiff]
  rfl
theorem rc_no (h : TX σ n g) {K : Int32} {s cc k : Nat} (hs : s ≤ n) (hc : cc < 24) (hk : k < lx_wn K) (ha : agr g n K s cc k nb) (ho : ∀ i, i < k → lx_ok g n K s i) (hok : ¬ lx_ok g n K s k) : rb_lim (rb_stp (rb_R (d + 6)) rb_m51) (52, [some (.ref 9), some (.int K), some (.int (nI (lx_wn K))), some (.int (nI k))], [], lx_rp σ kd nb (nI cc) g n (lx_sk g n K s k)) = some (some (.int 0), lx_rp σ kd nb (nI cc) g n (lx_ns g n (lx_bs K k) (lx_sk g n K s k))) := by
  have w4 := wn_4 K
  have g1 : ¬ nI (lx_wn K) ≤ nI k := nI_ge (by omega) (by omega)
  have l1 := (c_readNumber (d := d) h (sk_b (g := g) (K := K) hs k).2 (show k < 4 by omega) hc (c_fits (d := d + 2) (σ := σ) (kd := kd) hc hk ha ho)).2 hok
  rw [rb_ls 52 9999 60]
  simp only [rb_gs_eq, rb_cs_go, rb_cs_end, rb_cs_ite, Nat.reduceAdd, Nat.zero_add, wr_at, wr_wr, true_and, and_true, and_self, true_or, or_true, false_or, or_false, ↓reduceIte, Nat.reduceLT, Nat.reduceLeDiff, Nat.reduceEqDiff, lg_cmp_ge, lg_cmp_le, lg_cmp_gt, lg_cmp_lt, lg_cmp_eq, Bool.false_eq_true, reduceCtorEq, mg_i, mg_l, decide_true, beq_self_eq_true, Nat.reduceBEq, st_51, dX4_readClause_0, xx_aloadn0, xx_aloadn0N, dX4_readClause_1, xx_ivV, zz_c0, zz_c3, zz_c1, zz_c2, zz_c5, zz_c8, zz_c6, zz_R, List.length_cons, List.length_nil, List.take_succ_cons, List.take_zero, List.drop_succ_cons, List.drop_zero, List.reverse_cons, List.reverse_nil, List.nil_append, List.cons_append, rb_cat, List.map_cons, List.map_nil, List.sum_cons, List.sum_nil, Value.category, rb_isR, rb_isS, Option.toList_some, Option.toList_none, tv_4_51, dX4_readClause_4, xx_istoren1, zz_invi, zz_invr, zz_invz, zz_invn, zz_invl, dX4_readClause_5, xx_iloadn1, dX4_readClause_6, xx_iconst, kc_m1, dX4_readClause_7, xx_iceq, rb_jp, Int.cast_ofNat_Int, Int.reduceAdd, Int.reduceLE, Int.reduceToNat, Int.reduceNeg, dX4_readClause_10, dX4_readClause_11, xx_getf, zz_f, zz_g, zz_v, List.getElem?_cons_zero, List.getElem?_cons_succ, tf_4_22, dX4_readClause_14, xx_iflt, dX4_readClause_17, dX4_readClause_18, dX4_readClause_21, dX4_readClause_22, tf_4_9, dX4_readClause_25, xx_alen, zz_vi, zz_va, dX4_readClause_26, xx_iclt, dX4_readClause_29, kc_0, dX4_readClause_30, xx_iret, xx_zret0, xx_zret1, dX4_readClause_31, dX4_readClause_32, dX4_readClause_35, dX4_readClause_36, dX4_readClause_39, dX4_readClause_40, xx_iast, zz_wi, dX4_readClause_41, dX4_readClause_42, tv_4_33, dX4_readClause_45, dX4_readClause_46, xx_ivS, tv_4_55, dX4_readClause_49, xx_istoren2, dX4_readClause_50, dX4_readClause_51, xx_istoren3, dX4_readClause_52, xx_iloadn3, dX4_readClause_53, xx_iloadn2, dX4_readClause_54, xx_icge, dX4_readClause_57, dX4_readClause_58, dX4_readClause_59, dX4_readClause_60, tv_4_59, dX4_readClause_63, xx_ifne, dX4_readClause_66, dX4_readClause_67, dX4_readClause_68, xx_iinc3, kc_1, dX4_readClause_71, xx_goto, dX4_readClause_74, dX4_readClause_75, rp_9, g1, l1, ne_eq, not_false_eq_true, Nat.reduceEqDiff]
theorem agr_s {K : Int32} {s cc k : Nat} (ha : agr g n K s cc k nb) : agr g n K s cc (k + 1) (upd nb (4 * cc + k) (lx_vk g n K s k)) := by
  intro i hi
  by_cases e : i = k
  · rw [e, pk_us]
  · rw [pk_un (by omega)]; exact ha i (by omega)
theorem rc_all (h : TX σ n g) {K : Int32} {s cc : Nat} (hs : s ≤ n) (hc : cc < 24) (hok : ∀ i, i < lx_wn K → lx_ok g n K s i) : ∀ (r k : Nat) (nb : Nat → Int32), k + r = lx_wn K → agr g n K s cc k nb → ∃ nb', rb_lim (rb_stp (rb_R (d + 6)) rb_m51) (52, [some (.ref 9), some (.int K), some (.int (nI (lx_wn K))), some (.int (nI k))], [], lx_rp σ kd nb (nI cc) g n (lx_sk g n K s k)) = some (some (.int 1), lx_rp σ kd nb' (nI cc) g n (lx_sk g n K s (lx_wn K))) ∧ agr g n K s cc (lx_wn K) nb' ∧ ∀ j, j < 4 * cc → nb' j = nb j := by
  have w4 := wn_4 K
  intro r
  induction r with
  | zero =>
    intro k nb hk ha
    have hk' : k = lx_wn K := by omega
    rw [hk'] at ha ⊢
    have g1 : nI (lx_wn K) ≤ nI (lx_wn K) := by rw [nI_le' (by omega) (by omega)]; omega
    refine ⟨nb, ?_, ha, fun _ _ => rfl⟩
    rw [rb_ls 52 9999 60]
    simp only [rb_gs_eq, rb_cs_go, rb_cs_end, rb_cs_ite, Nat.reduceAdd, Nat.zero_add, wr_at, wr_wr, true_and, and_true, and_self, true_or, or_true, false_or, or_false, ↓reduceIte, Nat.reduceLT, Nat.reduceLeDiff, Nat.reduceEqDiff, lg_cmp_ge, lg_cmp_le, lg_cmp_gt, lg_cmp_lt, lg_cmp_eq, Bool.false_eq_true, reduceCtorEq, mg_i, mg_l, decide_true, beq_self_eq_true, Nat.reduceBEq, st_51, dX4_readClause_0, xx_aloadn0, xx_aloadn0N, dX4_readClause_1, xx_ivV, zz_c0, zz_c3, zz_c1, zz_c2, zz_c5, zz_c8, zz_c6, zz_R, List.length_cons, List.length_nil, List.take_succ_cons, List.take_zero, List.drop_succ_cons, List.drop_zero, List.reverse_cons, List.reverse_nil, List.nil_append, List.cons_append, rb_cat, List.map_cons, List.map_nil, List.sum_cons, List.sum_nil, Value.category, rb_isR, rb_isS, Option.toList_some, Option.toList_none, tv_4_51, dX4_readClause_4, xx_istoren1, zz_invi, zz_invr, zz_invz, zz_invn, zz_invl, dX4_readClause_5, xx_iloadn1, dX4_readClause_6, xx_iconst, kc_m1, dX4_readClause_7, xx_iceq, rb_jp, Int.cast_ofNat_Int, Int.reduceAdd, Int.reduceLE, Int.reduceToNat, Int.reduceNeg, dX4_readClause_10, dX4_readClause_11, xx_getf, zz_f, zz_g, zz_v, List.getElem?_cons_zero, List.getElem?_cons_succ, tf_4_22, dX4_readClause_14, xx_iflt, dX4_readClause_17, dX4_readClause_18, dX4_readClause_21, dX4_readClause_22, tf_4_9, dX4_readClause_25, xx_alen, zz_vi, zz_va, dX4_readClause_26, xx_iclt, dX4_readClause_29, kc_0, dX4_readClause_30, xx_iret, xx_zret0, xx_zret1, dX4_readClause_31, dX4_readClause_32, dX4_readClause_35, dX4_readClause_36, dX4_readClause_39, dX4_readClause_40, xx_iast, zz_wi, dX4_readClause_41, dX4_readClause_42, tv_4_33, dX4_readClause_45, dX4_readClause_46, xx_ivS, tv_4_55, dX4_readClause_49, xx_istoren2, dX4_readClause_50, dX4_readClause_51, xx_istoren3, dX4_readClause_52, xx_iloadn3, dX4_readClause_53, xx_iloadn2, dX4_readClause_54, xx_icge, dX4_readClause_57, dX4_readClause_58, dX4_readClause_59, dX4_readClause_60, tv_4_59, dX4_readClause_63, xx_ifne, dX4_readClause_66, dX4_readClause_67, dX4_readClause_68, xx_iinc3, kc_1, dX4_readClause_71, xx_goto, dX4_readClause_74, dX4_readClause_75, g1, ne_eq, not_false_eq_true, Nat.reduceEqDiff]
  | succ r ih =>
    intro k nb hk ha
    obtain ⟨nb', e1, a1, f1⟩ := ih (k + 1) (upd nb (4 * cc + k) (lx_vk g n K s k)) (by omega) (agr_s ha)
    refine ⟨nb', ?_, a1, fun j hj => by rw [f1 j hj, pk_un (by omega)]⟩
    rw [rc_ok h hs hc (by omega) ha (fun i hi => hok i (by omega)) (hok k (by omega))]
    exact e1
theorem rc_fail (h : TX σ n g) {K : Int32} {s cc j : Nat} (hs : s ≤ n) (hc : cc < 24) (hj : j < lx_wn K) (hok : ∀ i, i < j → lx_ok g n K s i) (hno : ¬ lx_ok g n K s j) : ∀ (r k : Nat) (nb : Nat → Int32), k + r = j → agr g n K s cc k nb → ∃ nb', rb_lim (rb_stp (rb_R (d + 6)) rb_m51) (52, [some (.ref 9), some (.int K), some (.int (nI (lx_wn K))), some (.int (nI k))], [], lx_rp σ kd nb (nI cc) g n (lx_sk g n K s k)) = some (some (.int 0), lx_rp σ kd nb' (nI cc) g n (lx_ns g n (lx_bs K j) (lx_sk g n K s j))) := by
  intro r
  induction r with
  | zero =>
    intro k nb hk ha
    have hk' : k = j := by omega
    subst hk'
    exact ⟨nb, rc_no h hs hc hj ha hok hno⟩
  | succ r ih =>
    intro k nb hk ha
    obtain ⟨nb', e1⟩ := ih (k + 1) (upd nb (4 * cc + k) (lx_vk g n K s k)) (by omega) (agr_s ha)
    refine ⟨nb', ?_⟩
    rw [rc_ok h hs hc (by omega) ha (fun i hi => hok i (by omega)) (hok k (by omega))]
    exact e1
theorem rc_pre (h : TX σ n g) {s cc : Nat} (hs : s ≤ n) (hc : cc < 24) (hK : ¬ lx_kw g n s = -1) : rb_R (d + 8) 51 [.ref 9] (lx_rp σ kd nb (nI cc) g n s) = rb_lim (rb_stp (rb_R (d + 7)) rb_m51) (52, [some (.ref 9), some (.int (lx_kw g n s)), some (.int (nI (lx_wn (lx_kw g n s)))), some (.int (nI 0))], [], lx_rp σ (upd kd cc (lx_kw g n s)) nb (nI cc) g n (lx_s0 g n s)) := by
  have l1 := c_kindOfWord (d := d) (kd := kd) (nb := nb) (c := nI cc) h hs
  have hK5 := (kw_c g n s).resolve_left hK
  have l2 := fun σ => c_numbersOf (d := d + 6) (σ := σ) hK5
  have l3 := fun f => rp_next (d := d + 4) (kd := f) (nb := nb) (c := nI cc) h hs
  have g1 : ¬ nI cc < 0 := nI_pos (by omega)
  have g2 : nI cc < nI 24 := by rw [nI_lt' (by omega) (by omega)]; omega
  have r1 : rb_in (nI cc) 24 = true := by rw [rb_in' (by omega)]; exact decide_eq_true (by omega)
  have k1 : (nI cc).toNatClampNeg = cc := nI_cl (by omega)
  have e0 : lx_s0 g n s = lx_ws g n (lx_te g n s) := rfl
  rw [e0, en_51 (k := 60) (ls := [some (.ref 9), none, none, none]) rfl, rb_gg, rb_ls 52 9999 60]
  simp only [rb_gs_eq, rb_cs_go, rb_cs_end, rb_cs_ite, Nat.reduceAdd, Nat.zero_add, wr_at, wr_wr, true_and, and_true, and_self, true_or, or_true, false_or, or_false, ↓reduceIte, Nat.reduceLT, Nat.reduceLeDiff, Nat.reduceEqDiff, lg_cmp_ge, lg_cmp_le, lg_cmp_gt, lg_cmp_lt, lg_cmp_eq, Bool.false_eq_true, reduceCtorEq, mg_i, mg_l, decide_true, beq_self_eq_true, Nat.reduceBEq, st_51, dX4_readClause_0, xx_aloadn0, xx_aloadn0N, dX4_readClause_1, xx_ivV, zz_c0, zz_c3, zz_c1, zz_c2, zz_c5, zz_c8, zz_c6, zz_R, List.length_cons, List.length_nil, List.take_succ_cons, List.take_zero, List.drop_succ_cons, List.drop_zero, List.reverse_cons, List.reverse_nil, List.nil_append, List.cons_append, rb_cat, List.map_cons, List.map_nil, List.sum_cons, List.sum_nil, Value.category, rb_isR, rb_isS, Option.toList_some, Option.toList_none, tv_4_51, dX4_readClause_4, xx_istoren1, zz_invi, zz_invr, zz_invz, zz_invn, zz_invl, dX4_readClause_5, xx_iloadn1, dX4_readClause_6, xx_iconst, kc_m1, dX4_readClause_7, xx_iceq, rb_jp, Int.cast_ofNat_Int, Int.reduceAdd, Int.reduceLE, Int.reduceToNat, Int.reduceNeg, dX4_readClause_10, dX4_readClause_11, xx_getf, zz_f, zz_g, zz_v, List.getElem?_cons_zero, List.getElem?_cons_succ, tf_4_22, dX4_readClause_14, xx_iflt, dX4_readClause_17, dX4_readClause_18, dX4_readClause_21, dX4_readClause_22, tf_4_9, dX4_readClause_25, xx_alen, zz_vi, zz_va, dX4_readClause_26, xx_iclt, dX4_readClause_29, kc_0, dX4_readClause_30, xx_iret, xx_zret0, xx_zret1, dX4_readClause_31, dX4_readClause_32, dX4_readClause_35, dX4_readClause_36, dX4_readClause_39, dX4_readClause_40, xx_iast, zz_wi, dX4_readClause_41, dX4_readClause_42, tv_4_33, dX4_readClause_45, dX4_readClause_46, xx_ivS, tv_4_55, dX4_readClause_49, xx_istoren2, dX4_readClause_50, dX4_readClause_51, xx_istoren3, dX4_readClause_52, xx_iloadn3, dX4_readClause_53, xx_iloadn2, dX4_readClause_54, xx_icge, dX4_readClause_57, dX4_readClause_58, dX4_readClause_59, dX4_readClause_60, tv_4_59, dX4_readClause_63, xx_ifne, dX4_readClause_66, dX4_readClause_67, dX4_readClause_68, xx_iinc3, kc_1, dX4_readClause_71, xx_goto, dX4_readClause_74, dX4_readClause_75, l1, hK, rp_9, rp_10, nI_ofn, g1, g2, r1, k1, rp_w10, l2, l3, ne_eq, not_false_eq_true, Nat.reduceEqDiff]
  rfl
theorem c_clauseOK (h : TX σ n g) {s cc : Nat} (hs : s ≤ n) (hc : cc < 24) (hok : lx_ClOK g n s) : ∃ nb', rb_R (d + 8) 51 [.ref 9] (lx_rp σ kd nb (nI cc) g n s) = some (some (.int 1), lx_rp σ (upd kd cc (lx_kw g n s)) nb' (nI cc) g n (lx_nx g n s)) ∧ agr g n (lx_kw g n s) (lx_s0 g n s) cc (lx_wn (lx_kw g n s)) nb' ∧ ∀ j, j < 4 * cc → nb' j = nb j := by
  obtain ⟨nb', e1, a1, f1⟩ := rc_all (d := d + 1) (kd := upd kd cc (lx_kw g n s)) h (s0_b hs).2 hc hok.2 (lx_wn (lx_kw g n s)) 0 nb (by omega) (fun i hi => absurd hi (Nat.not_lt_zero i))
  exact ⟨nb', (rc_pre h hs hc hok.1).trans e1, a1, f1⟩
theorem c_clauseNo (h : TX σ n g) {s cc q : Nat} (hs : s ≤ n) (hc : cc < 24) (hno : lx_ClNo g n s q) : ∃ kd' nb', rb_R (d + 8) 51 [.ref 9] (lx_rp σ kd nb (nI cc) g n s) = some (some (.int 0), lx_rp σ kd' nb' (nI cc) g n q) := by
  rcases hno with ⟨hK, rfl⟩ | ⟨hK, k, h1, h2, h3, rfl⟩
  · have l1 := c_kindOfWord (d := d) (kd := kd) (nb := nb) (c := nI cc) h hs
    rw [hK] at l1
    refine ⟨kd, nb, ?_⟩
    rw [en_51 (k := 60) (ls := [some (.ref 9), none, none, none]) rfl]
    simp only [rb_gg_eq, rb_ct_go, rb_ct_end, rb_ct_ite, Nat.reduceAdd, Nat.zero_add, wr_at, wr_wr, true_and, and_true, and_self, true_or, or_true, false_or, or_false, ↓reduceIte, Nat.reduceLT, Nat.reduceLeDiff, Nat.reduceEqDiff, lg_cmp_ge, lg_cmp_le, lg_cmp_gt, lg_cmp_lt, lg_cmp_eq, Bool.false_eq_true, reduceCtorEq, mg_i, mg_l, decide_true, beq_self_eq_true, Nat.reduceBEq, st_51, dX4_readClause_0, xx_aloadn0, xx_aloadn0N, dX4_readClause_1, xx_ivV, zz_c0, zz_c3, zz_c1, zz_c2, zz_c5, zz_c8, zz_c6, zz_R, List.length_cons, List.length_nil, List.take_succ_cons, List.take_zero, List.drop_succ_cons, List.drop_zero, List.reverse_cons, List.reverse_nil, List.nil_append, List.cons_append, rb_cat, List.map_cons, List.map_nil, List.sum_cons, List.sum_nil, Value.category, rb_isR, rb_isS, Option.toList_some, Option.toList_none, tv_4_51, dX4_readClause_4, xx_istoren1, zz_invi, zz_invr, zz_invz, zz_invn, zz_invl, dX4_readClause_5, xx_iloadn1, dX4_readClause_6, xx_iconst, kc_m1, dX4_readClause_7, xx_iceq, rb_jp, Int.cast_ofNat_Int, Int.reduceAdd, Int.reduceLE, Int.reduceToNat, Int.reduceNeg, dX4_readClause_10, dX4_readClause_11, xx_getf, zz_f, zz_g, zz_v, List.getElem?_cons_zero, List.getElem?_cons_succ, tf_4_22, dX4_readClause_14, xx_iflt, dX4_readClause_17, dX4_readClause_18, dX4_readClause_21, dX4_readClause_22, tf_4_9, dX4_readClause_25, xx_alen, zz_vi, zz_va, dX4_readClause_26, xx_iclt, dX4_readClause_29, kc_0, dX4_readClause_30, xx_iret, xx_zret0, xx_zret1, dX4_readClause_31, dX4_readClause_32, dX4_readClause_35, dX4_readClause_36, dX4_readClause_39, dX4_readClause_40, xx_iast, zz_wi, dX4_readClause_41, dX4_readClause_42, tv_4_33, dX4_readClause_45, dX4_readClause_46, xx_ivS, tv_4_55, dX4_readClause_49, xx_istoren2, dX4_readClause_50, dX4_readClause_51, xx_istoren3, dX4_readClause_52, xx_iloadn3, dX4_readClause_53, xx_iloadn2, dX4_readClause_54, xx_icge, dX4_readClause_57, dX4_readClause_58, dX4_readClause_59, dX4_readClause_60, tv_4_59, dX4_readClause_63, xx_ifne, dX4_readClause_66, dX4_readClause_67, dX4_readClause_68, xx_iinc3, kc_1, dX4_readClause_71, xx_goto, dX4_readClause_74, dX4_readClause_75, rp_9, l1]
  · obtain ⟨nb', e1⟩ := rc_fail (d := d + 1) (kd := upd kd cc (lx_kw g n s)) h (s0_b hs).2 hc h1 h2 h3 k 0 nb (by omega) (fun i hi => absurd hi (Nat.not_lt_zero i))
    exact ⟨_, nb', (rc_pre h hs hc hK).trans e1⟩
/-- the clauses lie in their rows -/
def Arr (g : Nat → Int32) (n : Nat) (kd nb : Nat → Int32) : Nat → List Nat → Prop
  | _, [] => True
  | cc, s :: cs => (kd cc = lx_kw g n s ∧ agr g n (lx_kw g n s) (lx_s0 g n s) cc (lx_wn (lx_kw g n s)) nb) ∧ Arr g n kd nb (cc + 1) cs
theorem Arr_fr {kd' nb' : Nat → Int32} : ∀ (cs : List Nat) (cc : Nat), Arr g n kd nb cc cs → (∀ j, cc ≤ j → j < cc + cs.length → kd' j = kd j) → (∀ j, 4 * cc ≤ j → j < 4 * (cc + cs.length) → nb' j = nb j) → Arr g n kd' nb' cc cs := by
  intro cs
  induction cs with
  | nil => intro cc _ _ _; exact trivial
  | cons s cs ih =>
    intro cc h hk hn
    have hl : (s :: cs).length = cs.length + 1 := rfl
    rw [hl] at hk hn
    have w4 := wn_4 (lx_kw g n s)
    refine ⟨⟨by rw [hk cc (by omega) (by omega)]; exact h.1.1, fun i hi => by rw [hn _ (by omega) (by omega)]; exact h.1.2 i hi⟩, ih (cc + 1) h.2 (fun j h1 h2 => hk j (by omega) (by omega)) (fun j h1 h2 => hn j (by omega) (by omega))⟩
theorem rd_cl (h : TX σ n g) {s cc : Nat} (hs : s ≤ n) (hc : cc < 24) (hok : lx_ClOK g n s) : ∃ nb', rb_lim (rb_stp (rb_R (d + 8)) rb_m50) (14, [some (.ref 9)], [], lx_rp σ kd nb (nI cc) g n s) = rb_lim (rb_stp (rb_R (d + 8)) rb_m50) (45, [some (.ref 9)], [], lx_rp σ (upd kd cc (lx_kw g n s)) nb' (nI (cc + 1)) g n (lx_nx g n s)) ∧ agr g n (lx_kw g n s) (lx_s0 g n s) cc (lx_wn (lx_kw g n s)) nb' ∧ ∀ j, j < 4 * cc → nb' j = nb j := by
  obtain ⟨nb', e1, a1, f1⟩ := c_clauseOK (d := d) (kd := kd) (nb := nb) h hs hc hok
  have g1 : ¬ (24 : Int32) ≤ nI cc := by rw [lit_24]; exact nI_ge (by omega) (by omega)
  have one0 : ((1 : Int32) = 0) = False := eq_false (by decide)
  refine ⟨nb', ?_, a1, f1⟩
  unfold lx_rp at e1 ⊢
  rw [rb_ls 45 9999 60]
  simp only [rb_gs_eq, rb_cs_go, rb_cs_end, rb_cs_ite, Nat.reduceAdd, Nat.zero_add, wr_at, wr_wr, true_and, and_true, and_self, true_or, or_true, false_or, or_false, ↓reduceIte, Nat.reduceLT, Nat.reduceLeDiff, Nat.reduceEqDiff, lg_cmp_ge, lg_cmp_le, lg_cmp_gt, lg_cmp_lt, lg_cmp_eq, Bool.false_eq_true, reduceCtorEq, mg_i, mg_l, decide_true, beq_self_eq_true, Nat.reduceBEq, st_50, dX4_read_0, xx_aloadn0, xx_aloadn0N, dX4_read_1, xx_iconst, kc_0, dX4_read_2, xx_putf, zz_q, zz_p, zz_ti, zz_tl, zz_t0, zz_t1, zz_to, zz_ta, List.getElem?_cons_zero, List.getElem?_cons_succ, List.length_cons, List.length_nil, List.set_cons_zero, List.set_cons_succ, tf_4_22, dX4_read_5, dX4_read_6, dX4_read_7, tf_4_30, dX4_read_10, dX4_read_11, xx_ivV, zz_c0, zz_c3, zz_c1, zz_c2, zz_c5, zz_c8, zz_c6, zz_R, List.take_succ_cons, List.take_zero, List.drop_succ_cons, List.drop_zero, List.reverse_cons, List.reverse_nil, List.nil_append, List.cons_append, rb_cat, List.map_cons, List.map_nil, List.sum_cons, List.sum_nil, Value.category, rb_isR, rb_isS, Option.toList_some, Option.toList_none, tv_4_33, dX4_read_14, dX4_read_15, xx_getf, zz_f, zz_g, zz_v, dX4_read_18, xx_bipush, kb_24, dX4_read_20, xx_icge, rb_jp, Int.cast_ofNat_Int, Int.reduceAdd, Int.reduceLE, Int.reduceToNat, Int.reduceNeg, dX4_read_23, dX4_read_24, tv_4_36, dX4_read_27, xx_ifne, dX4_read_30, dX4_read_31, tf_4_40, dX4_read_34, xx_iret, xx_zret0, xx_zret1, dX4_read_35, dX4_read_36, xx_dupi, xx_dupr, xx_dupz, dX4_read_37, dX4_read_40, kc_1, dX4_read_41, xx_iadd, dX4_read_42, dX4_read_45, dX4_read_46, tf_4_43, dX4_read_49, dX4_read_52, xx_ldc, zz_I, zz_S, ti_4_46, dX4_read_54, dX4_read_55, dX4_read_56, kb_59, dX4_read_58, tv_4_47, dX4_read_61, dX4_read_64, dX4_read_65, dX4_read_68, dX4_read_69, dX4_read_70, dX4_read_73, dX4_read_75, dX4_read_78, dX4_read_79, dX4_read_82, xx_goto, dX4_read_85, dX4_read_86, dX4_read_89, ro_9, g1, e1, one0, ro_w9, nI_1, ne_eq, not_false_eq_true, Nat.reduceEqDiff]
  rfl
theorem l_readNo (h : TX σ n g) {q : Nat} : ∀ (r cc s : Nat) (kd nb : Nat → Int32), cc + r = 24 → s ≤ n → lx_RdNo g n r s q → ∃ kd' nb' c' t' s' e', rb_lim (rb_stp (rb_R (d + 8)) rb_m50) (14, [some (.ref 9)], [], lx_rp σ kd nb (nI cc) g n s) = some (some (.int (nI q)), lx_ro σ kd' nb' c' t' s' e') := by
  have one0 : ((1 : Int32) = 0) = False := eq_false (by decide)
  intro r
  induction r with
  | zero => intro cc s kd nb _ _ hh; exact hh.elim
  | succ r ih =>
    intro cc s kd nb hcc hs hh
    have hc : cc < 24 := by omega
    have g1 : ¬ (24 : Int32) ≤ nI cc := by rw [lit_24]; exact nI_ge (by omega) (by omega)
    rcases hh with hno | ⟨hok, hq, h0, hor⟩ | ⟨hok, hsm, hrec⟩
    · obtain ⟨kd', nb', e1⟩ := c_clauseNo (d := d) (kd := kd) (nb := nb) h hs hc hno
      refine ⟨kd', nb', nI cc, lx_tk g n q, nI q, nI (lx_te g n q), ?_⟩
      rw [rb_ls 9998 9999 60]
      simp only [rb_gs_eq, rb_cs_go, rb_cs_end, rb_cs_ite, Nat.reduceAdd, Nat.zero_add, wr_at, wr_wr, true_and, and_true, and_self, true_or, or_true, false_or, or_false, ↓reduceIte, Nat.reduceLT, Nat.reduceLeDiff, Nat.reduceEqDiff, lg_cmp_ge, lg_cmp_le, lg_cmp_gt, lg_cmp_lt, lg_cmp_eq, Bool.false_eq_true, reduceCtorEq, mg_i, mg_l, decide_true, beq_self_eq_true, Nat.reduceBEq, st_50, dX4_read_0, xx_aloadn0, xx_aloadn0N, dX4_read_1, xx_iconst, kc_0, dX4_read_2, xx_putf, zz_q, zz_p, zz_ti, zz_tl, zz_t0, zz_t1, zz_to, zz_ta, List.getElem?_cons_zero, List.getElem?_cons_succ, List.length_cons, List.length_nil, List.set_cons_zero, List.set_cons_succ, tf_4_22, dX4_read_5, dX4_read_6, dX4_read_7, tf_4_30, dX4_read_10, dX4_read_11, xx_ivV, zz_c0, zz_c3, zz_c1, zz_c2, zz_c5, zz_c8, zz_c6, zz_R, List.take_succ_cons, List.take_zero, List.drop_succ_cons, List.drop_zero, List.reverse_cons, List.reverse_nil, List.nil_append, List.cons_append, rb_cat, List.map_cons, List.map_nil, List.sum_cons, List.sum_nil, Value.category, rb_isR, rb_isS, Option.toList_some, Option.toList_none, tv_4_33, dX4_read_14, dX4_read_15, xx_getf, zz_f, zz_g, zz_v, dX4_read_18, xx_bipush, kb_24, dX4_read_20, xx_icge, rb_jp, Int.cast_ofNat_Int, Int.reduceAdd, Int.reduceLE, Int.reduceToNat, Int.reduceNeg, dX4_read_23, dX4_read_24, tv_4_36, dX4_read_27, xx_ifne, dX4_read_30, dX4_read_31, tf_4_40, dX4_read_34, xx_iret, xx_zret0, xx_zret1, dX4_read_35, dX4_read_36, xx_dupi, xx_dupr, xx_dupz, dX4_read_37, dX4_read_40, kc_1, dX4_read_41, xx_iadd, dX4_read_42, dX4_read_45, dX4_read_46, tf_4_43, dX4_read_49, dX4_read_52, xx_ldc, zz_I, zz_S, ti_4_46, dX4_read_54, dX4_read_55, dX4_read_56, kb_59, dX4_read_58, tv_4_47, dX4_read_61, dX4_read_64, dX4_read_65, dX4_read_68, dX4_read_69, dX4_read_70, dX4_read_73, dX4_read_75, dX4_read_78, dX4_read_79, dX4_read_82, xx_goto, dX4_read_85, dX4_read_86, dX4_read_89, rp_9, g1, e1, ne_eq, not_false_eq_true, Nat.reduceEqDiff]
      rfl
    · obtain ⟨nb', e1, -, -⟩ := rd_cl (d := d) (kd := kd) (nb := nb) h hs hc hok
      rw [← hq] at e1
      have hqn : q ≤ n := by rw [hq]; exact (nx_b hs).2
      have l1 := c_isSign (d := d + 6) (kd := upd kd cc (lx_kw g n s)) (nb := nb') (c := nI (cc + 1)) (x := 59) h hqn
      refine ⟨upd kd cc (lx_kw g n s), nb', nI (cc + 1), lx_tk g n q, nI q, nI (lx_te g n q), e1.trans ?_⟩
      by_cases hsm : lx_smc g n q
      · have hr : r = 0 := hor.resolve_left (fun hx => hx hsm)
        have hcc' : cc = 23 := by omega
        subst hcc'
        have g2 : (24 : Int32) ≤ nI (23 + 1) := by decide
        rw [hsm.1, if_pos rfl, if_pos hsm.2] at l1
        rw [rb_ls 9998 9999 60]
        simp only [rb_gs_eq, rb_cs_go, rb_cs_end, rb_cs_ite, Nat.reduceAdd, Nat.zero_add, wr_at, wr_wr, true_and, and_true, and_self, true_or, or_true, false_or, or_false, ↓reduceIte, Nat.reduceLT, Nat.reduceLeDiff, Nat.reduceEqDiff, lg_cmp_ge, lg_cmp_le, lg_cmp_gt, lg_cmp_lt, lg_cmp_eq, Bool.false_eq_true, reduceCtorEq, mg_i, mg_l, decide_true, beq_self_eq_true, Nat.reduceBEq, st_50, dX4_read_0, xx_aloadn0, xx_aloadn0N, dX4_read_1, xx_iconst, kc_0, dX4_read_2, xx_putf, zz_q, zz_p, zz_ti, zz_tl, zz_t0, zz_t1, zz_to, zz_ta, List.getElem?_cons_zero, List.getElem?_cons_succ, List.length_cons, List.length_nil, List.set_cons_zero, List.set_cons_succ, tf_4_22, dX4_read_5, dX4_read_6, dX4_read_7, tf_4_30, dX4_read_10, dX4_read_11, xx_ivV, zz_c0, zz_c3, zz_c1, zz_c2, zz_c5, zz_c8, zz_c6, zz_R, List.take_succ_cons, List.take_zero, List.drop_succ_cons, List.drop_zero, List.reverse_cons, List.reverse_nil, List.nil_append, List.cons_append, rb_cat, List.map_cons, List.map_nil, List.sum_cons, List.sum_nil, Value.category, rb_isR, rb_isS, Option.toList_some, Option.toList_none, tv_4_33, dX4_read_14, dX4_read_15, xx_getf, zz_f, zz_g, zz_v, dX4_read_18, xx_bipush, kb_24, dX4_read_20, xx_icge, rb_jp, Int.cast_ofNat_Int, Int.reduceAdd, Int.reduceLE, Int.reduceToNat, Int.reduceNeg, dX4_read_23, dX4_read_24, tv_4_36, dX4_read_27, xx_ifne, dX4_read_30, dX4_read_31, tf_4_40, dX4_read_34, xx_iret, xx_zret0, xx_zret1, dX4_read_35, dX4_read_36, xx_dupi, xx_dupr, xx_dupz, dX4_read_37, dX4_read_40, kc_1, dX4_read_41, xx_iadd, dX4_read_42, dX4_read_45, dX4_read_46, tf_4_43, dX4_read_49, dX4_read_52, xx_ldc, zz_I, zz_S, ti_4_46, dX4_read_54, dX4_read_55, dX4_read_56, kb_59, dX4_read_58, tv_4_47, dX4_read_61, dX4_read_64, dX4_read_65, dX4_read_68, dX4_read_69, dX4_read_70, dX4_read_73, dX4_read_75, dX4_read_78, dX4_read_79, dX4_read_82, xx_goto, dX4_read_85, dX4_read_86, dX4_read_89, rp_9, h0, one0, l1, g2, ne_eq, not_false_eq_true, Nat.reduceEqDiff]
        rfl
      · have l2 : (if lx_tk g n q = 3 then (if g q = 59 then (1 : Int32) else 0) else 0) = 0 := by
          by_cases c3 : lx_tk g n q = 3
          · rw [if_pos c3, if_neg (fun hx => hsm ⟨c3, hx⟩)]
          · rw [if_neg c3]
        rw [l2] at l1
        rw [rb_ls 9998 9999 60]
        simp only [rb_gs_eq, rb_cs_go, rb_cs_end, rb_cs_ite, Nat.reduceAdd, Nat.zero_add, wr_at, wr_wr, true_and, and_true, and_self, true_or, or_true, false_or, or_false, ↓reduceIte, Nat.reduceLT, Nat.reduceLeDiff, Nat.reduceEqDiff, lg_cmp_ge, lg_cmp_le, lg_cmp_gt, lg_cmp_lt, lg_cmp_eq, Bool.false_eq_true, reduceCtorEq, mg_i, mg_l, decide_true, beq_self_eq_true, Nat.reduceBEq, st_50, dX4_read_0, xx_aloadn0, xx_aloadn0N, dX4_read_1, xx_iconst, kc_0, dX4_read_2, xx_putf, zz_q, zz_p, zz_ti, zz_tl, zz_t0, zz_t1, zz_to, zz_ta, List.getElem?_cons_zero, List.getElem?_cons_succ, List.length_cons, List.length_nil, List.set_cons_zero, List.set_cons_succ, tf_4_22, dX4_read_5, dX4_read_6, dX4_read_7, tf_4_30, dX4_read_10, dX4_read_11, xx_ivV, zz_c0, zz_c3, zz_c1, zz_c2, zz_c5, zz_c8, zz_c6, zz_R, List.take_succ_cons, List.take_zero, List.drop_succ_cons, List.drop_zero, List.reverse_cons, List.reverse_nil, List.nil_append, List.cons_append, rb_cat, List.map_cons, List.map_nil, List.sum_cons, List.sum_nil, Value.category, rb_isR, rb_isS, Option.toList_some, Option.toList_none, tv_4_33, dX4_read_14, dX4_read_15, xx_getf, zz_f, zz_g, zz_v, dX4_read_18, xx_bipush, kb_24, dX4_read_20, xx_icge, rb_jp, Int.cast_ofNat_Int, Int.reduceAdd, Int.reduceLE, Int.reduceToNat, Int.reduceNeg, dX4_read_23, dX4_read_24, tv_4_36, dX4_read_27, xx_ifne, dX4_read_30, dX4_read_31, tf_4_40, dX4_read_34, xx_iret, xx_zret0, xx_zret1, dX4_read_35, dX4_read_36, xx_dupi, xx_dupr, xx_dupz, dX4_read_37, dX4_read_40, kc_1, dX4_read_41, xx_iadd, dX4_read_42, dX4_read_45, dX4_read_46, tf_4_43, dX4_read_49, dX4_read_52, xx_ldc, zz_I, zz_S, ti_4_46, dX4_read_54, dX4_read_55, dX4_read_56, kb_59, dX4_read_58, tv_4_47, dX4_read_61, dX4_read_64, dX4_read_65, dX4_read_68, dX4_read_69, dX4_read_70, dX4_read_73, dX4_read_75, dX4_read_78, dX4_read_79, dX4_read_82, xx_goto, dX4_read_85, dX4_read_86, dX4_read_89, rp_9, h0, l1, ne_eq, not_false_eq_true, Nat.reduceEqDiff]
        rfl
    · obtain ⟨nb', e1, -, -⟩ := rd_cl (d := d) (kd := kd) (nb := nb) h hs hc hok
      have hqn := (nx_b (g := g) hs).2
      have l1 := c_isSign (d := d + 6) (kd := upd kd cc (lx_kw g n s)) (nb := nb') (c := nI (cc + 1)) (x := 59) h hqn
      have l3 := rp_next (d := d + 5) (kd := upd kd cc (lx_kw g n s)) (nb := nb') (c := nI (cc + 1)) h hqn
      have n0 : ¬ lx_tk g n (lx_nx g n s) = 0 := by rw [hsm.1]; decide
      have hr : r ≠ 0 := fun hx => by subst hx; exact hrec.elim
      have g2 : ¬ (24 : Int32) ≤ nI (cc + 1) := by rw [lit_24]; exact nI_ge (by omega) (by omega)
      rw [hsm.1, if_pos rfl, if_pos hsm.2] at l1
      obtain ⟨kd2, nb2, c2, t2, s2, e2, e3⟩ := ih (cc + 1) (lx_s0 g n (lx_nx g n s)) (upd kd cc (lx_kw g n s)) nb' (by omega) (s0_b hqn).2 hrec
      refine ⟨kd2, nb2, c2, t2, s2, e2, e1.trans (Eq.trans ?_ e3)⟩
      rw [rb_ls 14 9999 60]
      simp only [rb_gs_eq, rb_cs_go, rb_cs_end, rb_cs_ite, Nat.reduceAdd, Nat.zero_add, wr_at, wr_wr, true_and, and_true, and_self, true_or, or_true, false_or, or_false, ↓reduceIte, Nat.reduceLT, Nat.reduceLeDiff, Nat.reduceEqDiff, lg_cmp_ge, lg_cmp_le, lg_cmp_gt, lg_cmp_lt, lg_cmp_eq, Bool.false_eq_true, reduceCtorEq, mg_i, mg_l, decide_true, beq_self_eq_true, Nat.reduceBEq, st_50, dX4_read_0, xx_aloadn0, xx_aloadn0N, dX4_read_1, xx_iconst, kc_0, dX4_read_2, xx_putf, zz_q, zz_p, zz_ti, zz_tl, zz_t0, zz_t1, zz_to, zz_ta, List.getElem?_cons_zero, List.getElem?_cons_succ, List.length_cons, List.length_nil, List.set_cons_zero, List.set_cons_succ, tf_4_22, dX4_read_5, dX4_read_6, dX4_read_7, tf_4_30, dX4_read_10, dX4_read_11, xx_ivV, zz_c0, zz_c3, zz_c1, zz_c2, zz_c5, zz_c8, zz_c6, zz_R, List.take_succ_cons, List.take_zero, List.drop_succ_cons, List.drop_zero, List.reverse_cons, List.reverse_nil, List.nil_append, List.cons_append, rb_cat, List.map_cons, List.map_nil, List.sum_cons, List.sum_nil, Value.category, rb_isR, rb_isS, Option.toList_some, Option.toList_none, tv_4_33, dX4_read_14, dX4_read_15, xx_getf, zz_f, zz_g, zz_v, dX4_read_18, xx_bipush, kb_24, dX4_read_20, xx_icge, rb_jp, Int.cast_ofNat_Int, Int.reduceAdd, Int.reduceLE, Int.reduceToNat, Int.reduceNeg, dX4_read_23, dX4_read_24, tv_4_36, dX4_read_27, xx_ifne, dX4_read_30, dX4_read_31, tf_4_40, dX4_read_34, xx_iret, xx_zret0, xx_zret1, dX4_read_35, dX4_read_36, xx_dupi, xx_dupr, xx_dupz, dX4_read_37, dX4_read_40, kc_1, dX4_read_41, xx_iadd, dX4_read_42, dX4_read_45, dX4_read_46, tf_4_43, dX4_read_49, dX4_read_52, xx_ldc, zz_I, zz_S, ti_4_46, dX4_read_54, dX4_read_55, dX4_read_56, kb_59, dX4_read_58, tv_4_47, dX4_read_61, dX4_read_64, dX4_read_65, dX4_read_68, dX4_read_69, dX4_read_70, dX4_read_73, dX4_read_75, dX4_read_78, dX4_read_79, dX4_read_82, xx_goto, dX4_read_85, dX4_read_86, dX4_read_89, rp_9, n0, one0, l1, l3, g2, ne_eq, not_false_eq_true, Nat.reduceEqDiff]
      rfl
theorem l_readOK (h : TX σ n g) : ∀ (r cc s : Nat) (kd nb : Nat → Int32) (cs : List Nat), cc + r = 24 → s ≤ n → lx_RdOK g n r s cs → ∃ kd' nb' t' s' e', rb_lim (rb_stp (rb_R (d + 8)) rb_m50) (14, [some (.ref 9)], [], lx_rp σ kd nb (nI cc) g n s) = some (some (.int (-1000000001)), lx_ro σ kd' nb' (nI (cc + cs.length)) t' s' e') ∧ Arr g n kd' nb' cc cs ∧ (∀ j, j < cc → kd' j = kd j) ∧ (∀ j, j < 4 * cc → nb' j = nb j) ∧ cc + cs.length ≤ 24 := by
  have one0 : ((1 : Int32) = 0) = False := eq_false (by decide)
  intro r
  induction r with
  | zero => intro cc s kd nb cs _ _ hh; exact hh.elim
  | succ r ih =>
    intro cc s kd nb cs hcc hs hh
    have hc : cc < 24 := by omega
    obtain ⟨hok, hh⟩ := hh
    obtain ⟨nb', e1, a1, f1⟩ := rd_cl (d := d) (kd := kd) (nb := nb) h hs hc hok
    have hqn := (nx_b (g := g) hs).2
    rcases hh with ⟨h0, hcs⟩ | ⟨hsm, cs', hcs, hrec⟩
    · subst hcs
      refine ⟨upd kd cc (lx_kw g n s), nb', lx_tk g n (lx_nx g n s), nI (lx_nx g n s), nI (lx_te g n (lx_nx g n s)), e1.trans ?_, ⟨⟨pk_us, a1⟩, trivial⟩, fun j hj => pk_un (by omega), f1, by show cc + 1 ≤ 24; omega⟩
      rw [rb_ls 9998 9999 60]
      simp only [rb_gs_eq, rb_cs_go, rb_cs_end, rb_cs_ite, Nat.reduceAdd, Nat.zero_add, wr_at, wr_wr, true_and, and_true, and_self, true_or, or_true, false_or, or_false, ↓reduceIte, Nat.reduceLT, Nat.reduceLeDiff, Nat.reduceEqDiff, lg_cmp_ge, lg_cmp_le, lg_cmp_gt, lg_cmp_lt, lg_cmp_eq, Bool.false_eq_true, reduceCtorEq, mg_i, mg_l, decide_true, beq_self_eq_true, Nat.reduceBEq, st_50, dX4_read_0, xx_aloadn0, xx_aloadn0N, dX4_read_1, xx_iconst, kc_0, dX4_read_2, xx_putf, zz_q, zz_p, zz_ti, zz_tl, zz_t0, zz_t1, zz_to, zz_ta, List.getElem?_cons_zero, List.getElem?_cons_succ, List.length_cons, List.length_nil, List.set_cons_zero, List.set_cons_succ, tf_4_22, dX4_read_5, dX4_read_6, dX4_read_7, tf_4_30, dX4_read_10, dX4_read_11, xx_ivV, zz_c0, zz_c3, zz_c1, zz_c2, zz_c5, zz_c8, zz_c6, zz_R, List.take_succ_cons, List.take_zero, List.drop_succ_cons, List.drop_zero, List.reverse_cons, List.reverse_nil, List.nil_append, List.cons_append, rb_cat, List.map_cons, List.map_nil, List.sum_cons, List.sum_nil, Value.category, rb_isR, rb_isS, Option.toList_some, Option.toList_none, tv_4_33, dX4_read_14, dX4_read_15, xx_getf, zz_f, zz_g, zz_v, dX4_read_18, xx_bipush, kb_24, dX4_read_20, xx_icge, rb_jp, Int.cast_ofNat_Int, Int.reduceAdd, Int.reduceLE, Int.reduceToNat, Int.reduceNeg, dX4_read_23, dX4_read_24, tv_4_36, dX4_read_27, xx_ifne, dX4_read_30, dX4_read_31, tf_4_40, dX4_read_34, xx_iret, xx_zret0, xx_zret1, dX4_read_35, dX4_read_36, xx_dupi, xx_dupr, xx_dupz, dX4_read_37, dX4_read_40, kc_1, dX4_read_41, xx_iadd, dX4_read_42, dX4_read_45, dX4_read_46, tf_4_43, dX4_read_49, dX4_read_52, xx_ldc, zz_I, zz_S, ti_4_46, dX4_read_54, dX4_read_55, dX4_read_56, kb_59, dX4_read_58, tv_4_47, dX4_read_61, dX4_read_64, dX4_read_65, dX4_read_68, dX4_read_69, dX4_read_70, dX4_read_73, dX4_read_75, dX4_read_78, dX4_read_79, dX4_read_82, xx_goto, dX4_read_85, dX4_read_86, dX4_read_89, rp_9, h0, ne_eq, not_false_eq_true, Nat.reduceEqDiff]
      unfold lx_rp
      rw [h0]
    · have l1 := c_isSign (d := d + 6) (kd := upd kd cc (lx_kw g n s)) (nb := nb') (c := nI (cc + 1)) (x := 59) h hqn
      have l3 := rp_next (d := d + 5) (kd := upd kd cc (lx_kw g n s)) (nb := nb') (c := nI (cc + 1)) h hqn
      have n0 : ¬ lx_tk g n (lx_nx g n s) = 0 := by rw [hsm.1]; decide
      have hr : r ≠ 0 := fun hx => by subst hx; exact hrec.elim
      have g2 : ¬ (24 : Int32) ≤ nI (cc + 1) := by rw [lit_24]; exact nI_ge (by omega) (by omega)
      rw [hsm.1, if_pos rfl, if_pos hsm.2] at l1
      obtain ⟨kd2, nb2, t2, s2, e2, e3, a3, k3, n3, b3⟩ := ih (cc + 1) (lx_s0 g n (lx_nx g n s)) (upd kd cc (lx_kw g n s)) nb' cs' (by omega) (s0_b hqn).2 hrec
      have hl : cc + cs.length = cc + 1 + cs'.length := by rw [hcs, List.length_cons]; omega
      have w4 := wn_4 (lx_kw g n s)
      rw [hl]
      refine ⟨kd2, nb2, t2, s2, e2, e1.trans (Eq.trans ?_ e3), ?_, fun j hj => by rw [k3 j (by omega), pk_un (by omega)], fun j hj => by rw [n3 j (by omega), f1 j hj], b3⟩
      · rw [rb_ls 14 9999 60]
        simp only [rb_gs_eq, rb_cs_go, rb_cs_end, rb_cs_ite, Nat.reduceAdd, Nat.zero_add, wr_at, wr_wr, true_and, and_true, and_self, true_or, or_true, false_or, or_false, ↓reduceIte, Nat.reduceLT, Nat.reduceLeDiff, Nat.reduceEqDiff, lg_cmp_ge, lg_cmp_le, lg_cmp_gt, lg_cmp_lt, lg_cmp_eq, Bool.false_eq_true, reduceCtorEq, mg_i, mg_l, decide_true, beq_self_eq_true, Nat.reduceBEq, st_50, dX4_read_0, xx_aloadn0, xx_aloadn0N, dX4_read_1, xx_iconst, kc_0, dX4_read_2, xx_putf, zz_q, zz_p, zz_ti, zz_tl, zz_t0, zz_t1, zz_to, zz_ta, List.getElem?_cons_zero, List.getElem?_cons_succ, List.length_cons, List.length_nil, List.set_cons_zero, List.set_cons_succ, tf_4_22, dX4_read_5, dX4_read_6, dX4_read_7, tf_4_30, dX4_read_10, dX4_read_11, xx_ivV, zz_c0, zz_c3, zz_c1, zz_c2, zz_c5, zz_c8, zz_c6, zz_R, List.take_succ_cons, List.take_zero, List.drop_succ_cons, List.drop_zero, List.reverse_cons, List.reverse_nil, List.nil_append, List.cons_append, rb_cat, List.map_cons, List.map_nil, List.sum_cons, List.sum_nil, Value.category, rb_isR, rb_isS, Option.toList_some, Option.toList_none, tv_4_33, dX4_read_14, dX4_read_15, xx_getf, zz_f, zz_g, zz_v, dX4_read_18, xx_bipush, kb_24, dX4_read_20, xx_icge, rb_jp, Int.cast_ofNat_Int, Int.reduceAdd, Int.reduceLE, Int.reduceToNat, Int.reduceNeg, dX4_read_23, dX4_read_24, tv_4_36, dX4_read_27, xx_ifne, dX4_read_30, dX4_read_31, tf_4_40, dX4_read_34, xx_iret, xx_zret0, xx_zret1, dX4_read_35, dX4_read_36, xx_dupi, xx_dupr, xx_dupz, dX4_read_37, dX4_read_40, kc_1, dX4_read_41, xx_iadd, dX4_read_42, dX4_read_45, dX4_read_46, tf_4_43, dX4_read_49, dX4_read_52, xx_ldc, zz_I, zz_S, ti_4_46, dX4_read_54, dX4_read_55, dX4_read_56, kb_59, dX4_read_58, tv_4_47, dX4_read_61, dX4_read_64, dX4_read_65, dX4_read_68, dX4_read_69, dX4_read_70, dX4_read_73, dX4_read_75, dX4_read_78, dX4_read_79, dX4_read_82, xx_goto, dX4_read_85, dX4_read_86, dX4_read_89, rp_9, n0, one0, l1, l3, g2, ne_eq, not_false_eq_true, Nat.reduceEqDiff]
        rfl
      · rw [hcs]
        refine ⟨⟨by rw [k3 cc (by omega), pk_us], fun i hi => by rw [n3 _ (by omega)]; exact a1 i hi⟩, a3⟩
theorem rd_pre (h : TX σ n g) : rb_R (d + 9) 50 [.ref 9] (lx_ro σ kd nb c t s e) = rb_lim (rb_stp (rb_R (d + 8)) rb_m50) (14, [some (.ref 9)], [], lx_rp σ kd nb (nI 0) g n (lx_ws g n 0)) := by
  have l1 := fun t s => c_next (d := d + 5) (kd := kd) (nb := nb) (c := nI 0) (t := t) (s := s) h (p := 0) (by omega)
  rw [en_50 (k := 60) (ls := [some (.ref 9)]) rfl, rb_gg, rb_ls 14 9999 60]
  simp only [rb_gs_eq, rb_cs_go, rb_cs_end, rb_cs_ite, Nat.reduceAdd, Nat.zero_add, wr_at, wr_wr, true_and, and_true, and_self, true_or, or_true, false_or, or_false, ↓reduceIte, Nat.reduceLT, Nat.reduceLeDiff, Nat.reduceEqDiff, lg_cmp_ge, lg_cmp_le, lg_cmp_gt, lg_cmp_lt, lg_cmp_eq, Bool.false_eq_true, reduceCtorEq, mg_i, mg_l, decide_true, beq_self_eq_true, Nat.reduceBEq, st_50, dX4_read_0, xx_aloadn0, xx_aloadn0N, dX4_read_1, xx_iconst, kc_0, dX4_read_2, xx_putf, zz_q, zz_p, zz_ti, zz_tl, zz_t0, zz_t1, zz_to, zz_ta, List.getElem?_cons_zero, List.getElem?_cons_succ, List.length_cons, List.length_nil, List.set_cons_zero, List.set_cons_succ, tf_4_22, dX4_read_5, dX4_read_6, dX4_read_7, tf_4_30, dX4_read_10, dX4_read_11, xx_ivV, zz_c0, zz_c3, zz_c1, zz_c2, zz_c5, zz_c8, zz_c6, zz_R, List.take_succ_cons, List.take_zero, List.drop_succ_cons, List.drop_zero, List.reverse_cons, List.reverse_nil, List.nil_append, List.cons_append, rb_cat, List.map_cons, List.map_nil, List.sum_cons, List.sum_nil, Value.category, rb_isR, rb_isS, Option.toList_some, Option.toList_none, tv_4_33, dX4_read_14, dX4_read_15, xx_getf, zz_f, zz_g, zz_v, dX4_read_18, xx_bipush, kb_24, dX4_read_20, xx_icge, rb_jp, Int.cast_ofNat_Int, Int.reduceAdd, Int.reduceLE, Int.reduceToNat, Int.reduceNeg, dX4_read_23, dX4_read_24, tv_4_36, dX4_read_27, xx_ifne, dX4_read_30, dX4_read_31, tf_4_40, dX4_read_34, xx_iret, xx_zret0, xx_zret1, dX4_read_35, dX4_read_36, xx_dupi, xx_dupr, xx_dupz, dX4_read_37, dX4_read_40, kc_1, dX4_read_41, xx_iadd, dX4_read_42, dX4_read_45, dX4_read_46, tf_4_43, dX4_read_49, dX4_read_52, xx_ldc, zz_I, zz_S, ti_4_46, dX4_read_54, dX4_read_55, dX4_read_56, kb_59, dX4_read_58, tv_4_47, dX4_read_61, dX4_read_64, dX4_read_65, dX4_read_68, dX4_read_69, dX4_read_70, dX4_read_73, dX4_read_75, dX4_read_78, dX4_read_79, dX4_read_82, xx_goto, dX4_read_85, dX4_read_86, dX4_read_89, ro_9, ro_w9, lit_0, l1, ne_eq, not_false_eq_true, Nat.reduceEqDiff]
  rfl
theorem c_readNo (h : TX σ n g) {q : Nat} (hh : lx_RdNo g n 24 (lx_ws g n 0) q) : ∃ kd' nb' c' t' s' e', rb_R (d + 9) 50 [.ref 9] (lx_ro σ kd nb c t s e) = some (some (.int (nI q)), lx_ro σ kd' nb' c' t' s' e') := by
  obtain ⟨kd', nb', c', t', s', e', e1⟩ := l_readNo (d := d) h 24 0 (lx_ws g n 0) kd nb (by omega) (ws_b (Nat.zero_le n)).2 hh
  exact ⟨kd', nb', c', t', s', e', (rd_pre h).trans e1⟩
theorem c_readOK (h : TX σ n g) {cs : List Nat} (hh : lx_RdOK g n 24 (lx_ws g n 0) cs) : ∃ kd' nb' t' s' e', rb_R (d + 9) 50 [.ref 9] (lx_ro σ kd nb c t s e) = some (some (.int (-1000000001)), lx_ro σ kd' nb' (nI cs.length) t' s' e') ∧ Arr g n kd' nb' 0 cs ∧ cs.length ≤ 24 := by
  obtain ⟨kd', nb', t', s', e', e1, a1, -, -, b1⟩ := l_readOK (d := d) h 24 0 (lx_ws g n 0) kd nb cs (by omega) (ws_b (Nat.zero_le n)).2 hh
  rw [Nat.zero_add] at e1 b1
  exact ⟨kd', nb', t', s', e', (rd_pre h).trans e1, a1, b1⟩
end
