/-! ===== the model reads: clauses ===== -/
section
variable {C : rb_C} {o pc : Nat} {ini : Bool} {ret : Option FieldType} {ls : rb_L} {st : List Value} {σ : rb_S}
theorem sw_m : rb_nxt C o ini ret (.ok (.tableswitch 91 0 3 #[30, 44, 44, 54], 30)) pc ls (.int 0 :: st) σ = rb_jp pc 30 ls st σ ∧ rb_nxt C o ini ret (.ok (.tableswitch 91 0 3 #[30, 44, 44, 54], 30)) pc ls (.int 1 :: st) σ = rb_jp pc 44 ls st σ ∧ rb_nxt C o ini ret (.ok (.tableswitch 91 0 3 #[30, 44, 44, 54], 30)) pc ls (.int 2 :: st) σ = rb_jp pc 44 ls st σ ∧ rb_nxt C o ini ret (.ok (.tableswitch 91 0 3 #[30, 44, 44, 54], 30)) pc ls (.int 3 :: st) σ = rb_jp pc 54 ls st σ ∧ rb_nxt C o ini ret (.ok (.tableswitch 91 0 3 #[30, 44, 44, 54], 30)) pc ls (.int 4 :: st) σ = rb_jp pc 91 ls st σ := ⟨rfl, rfl, rfl, rfl, rfl⟩
end
theorem upd_id {f : Nat → Int32} {k : Nat} : upd f k (f k) = f := by
  funext t
  by_cases e : t = k
  · rw [e, pk_us]
  · rw [pk_un e]
theorem bT {K : Int32} (h3 : ¬ K = 3) (h4 : ¬ K = 4) : lx_bs K 0 = true ∧ lx_bs K 1 = false ∧ lx_bs K 2 = false := by
  unfold lx_bs
  refine ⟨by rw [if_neg h4, if_pos rfl, if_neg h3], by rw [if_neg h4, if_neg (by omega)], by rw [if_neg h4, if_neg (by omega)]⟩
theorem blT {K : Int32} (h3 : ¬ K = 3) (h4 : ¬ K = 4) (w : Int32) : lx_bl K 0 w = -20 ∧ lx_bl K 1 w = 0 ∧ lx_bl K 2 w = 0 ∧ lx_bh K 0 w = 20 ∧ lx_bh K 1 w = 4 ∧ lx_bh K 2 w = 4 - w := by
  unfold lx_bl lx_bh
  refine ⟨?_, ?_, ?_, ?_, ?_, ?_⟩
  · rw [if_neg h3, if_neg h4, if_pos rfl]
  · rw [if_neg h3, if_neg h4, if_neg (by omega)]
  · rw [if_neg h3, if_neg h4, if_neg (by omega)]
  · rw [if_neg h3, if_neg h4, if_pos rfl]
  · rw [if_neg h3, if_neg h4, if_neg (by omega), if_pos rfl]
  · rw [if_neg h3, if_neg h4, if_neg (by omega), if_neg (by omega)]
theorem okT {g : Nat → Int32} {n : Nat} {K : Int32} (h3 : ¬ K = 3) (h4 : ¬ K = 4) {t : Nat} : (lx_ok g n K t 0 ↔ lx_nOK g n true (-20) 20 t) ∧ (lx_ok g n K t 1 ↔ lx_nOK g n false 0 4 (lx_sk g n K t 1)) ∧ (lx_ok g n K t 2 ↔ lx_nOK g n false 0 (4 - lx_vk g n K t 1) (lx_sk g n K t 2)) := by
  obtain ⟨b0, b1, b2⟩ := bT h3 h4
  have hh := blT h3 h4
  unfold lx_ok
  refine ⟨?_, ?_, ?_⟩
  · rw [b0, (hh _).1, (hh _).2.2.2.1]; exact Iff.rfl
  · rw [b1, (hh _).2.1, (hh _).2.2.2.2.1]
  · rw [b2, (hh _).2.2.1, (hh _).2.2.2.2.2]
theorem vkT {g : Nat → Int32} {n : Nat} {K : Int32} (h3 : ¬ K = 3) (h4 : ¬ K = 4) {t : Nat} : lx_vk g n K t 0 = lx_nv g n true t ∧ lx_vk g n K t 1 = lx_nv g n false (lx_sk g n K t 1) ∧ lx_vk g n K t 2 = lx_nv g n false (lx_sk g n K t 2) ∧ lx_sk g n K t 1 = lx_ws g n (lx_te g n (lx_ns g n true t)) ∧ lx_sk g n K t 2 = lx_ws g n (lx_te g n (lx_ns g n false (lx_sk g n K t 1))) ∧ lx_sk g n K t 3 = lx_ws g n (lx_te g n (lx_ns g n false (lx_sk g n K t 2))) := by
  obtain ⟨b0, b1, b2⟩ := bT h3 h4
  refine ⟨?_, ?_, ?_, ?_, ?_, ?_⟩
  · unfold lx_vk; rw [b0]; rfl
  · unfold lx_vk; rw [b1]
  · unfold lx_vk; rw [b2]
  · show lx_ws g n (lx_te g n (lx_ns g n (lx_bs K 0) (lx_sk g n K t 0))) = _
    rw [b0]; rfl
  · show lx_ws g n (lx_te g n (lx_ns g n (lx_bs K 1) (lx_sk g n K t 1))) = _
    rw [b1]
  · show lx_ws g n (lx_te g n (lx_ns g n (lx_bs K 2) (lx_sk g n K t 2))) = _
    rw [b2]
theorem ij_T {g : Nat → Int32} {n : Nat} {K : Int32} (h3 : ¬ K = 3) (h4 : ¬ K = 4) {t : Nat} (o1 : lx_ok g n K t 1) (o2 : lx_ok g n K t 2) : ∃ i j : Nat, lx_vk g n K t 1 = nI i ∧ lx_vk g n K t 2 = nI j ∧ i + j ≤ 4 := by
  obtain ⟨-, v1, v2, -⟩ := vkT (g := g) (n := n) h3 h4 (t := t)
  have q1 := inR_1 (((okT h3 h4).2.1.mp o1).2.2)
  have q2 := inR_1 (((okT h3 h4).2.2.mp o2).2.2)
  rw [← v1] at q1
  rw [← v2] at q2
  have z0 : (0 : Int32).toInt = 0 := rfl
  have z4 : (4 : Int32).toInt = 4 := rfl
  have e4 : ((4 : Int32) - lx_vk g n K t 1).toInt = 4 - (lx_vk g n K t 1).toInt := by
    rw [i_sub (by omega) (by omega), z4]
  obtain ⟨i, hi, ei⟩ := nI_of (x := lx_vk g n K t 1) (by rw [i_lt]; omega)
  obtain ⟨j, hj, ej⟩ := nI_of (x := lx_vk g n K t 2) (by rw [i_lt]; omega)
  refine ⟨i, j, ei, ej, ?_⟩
  have z1 : (lx_vk g n K t 1).toInt = i := by rw [ei]; exact i_nI (by omega)
  have z2 : (lx_vk g n K t 2).toInt = j := by rw [ej]; exact i_nI (by omega)
  omega
section
variable {d n : Nat} {σ : rb_S} {g : Nat → Int32} {ih ra tl fa ds lt : Int32} {st : Nat → Int32}
theorem rt_all (h : MX σ n g) {K : Int32} (h3 : ¬ K = 3) (h4 : ¬ K = 4) {p : Nat} {x : Int32} (hp : p ≤ n) (o0 : lx_ok g n K (lx_ws g n p) 0) (o1 : lx_ok g n K (lx_ws g n p) 1) (o2 : lx_ok g n K (lx_ws g n p) 2) : ∃ p' l' : Nat, p' ≤ n ∧ l' ≤ 200 ∧ lx_ws g n p' = lx_sk g n K (lx_ws g n p) 3 ∧ rb_R (d + 6) 202 [.ref 102, .int x] (lx_mr σ ih (nI n) (nI p) tl 0 ds st) = rb_lim (rb_stp (rb_R (d + 5)) rb_m202) (28, [some (.ref 102), some (.int x), some (.int (lx_vk g n K (lx_ws g n p) 0)), some (.int (lx_vk g n K (lx_ws g n p) 1)), some (.int (lx_vk g n K (lx_ws g n p) 2))], [], lx_mr σ ih (nI n) (nI p') (nI l') 0 ds st) := by
  have hn := h.2
  obtain ⟨v0, v1, v2, s1, s2, s3⟩ := vkT (g := g) (n := n) h3 h4 (t := lx_ws g n p)
  have q0 := (okT h3 h4).1.mp o0
  have q1 := (okT h3 h4).2.1.mp o1
  have q2 := (okT h3 h4).2.2.mp o2
  have b0 := (ws_b (g := g) hp).2
  have b1 := (te_b (g := g) (ns_b (g := g) (sg := true) b0).2).2
  have b2 := (te_b (g := g) (ns_b (g := g) (sg := false) (sk_b (g := g) (K := K) b0 1).2).2).2
  have b3 := te_b (g := g) (ns_b (g := g) (sg := false) (sk_b (g := g) (K := K) b0 2).2).2
  have e0 := fun ds => m_sOK (d := d) (ih := ih) (tl := tl) (ds := ds) (st := st) h hp q0
  have e1 := fun tl ds => m_fOK (d := d + 1) (ih := ih) (tl := tl) (ds := ds) (st := st) (lo := 0) (hi := 4) h b1 (by rw [← s1]; exact q1)
  have e2 := fun tl ds => m_fOK (d := d + 1) (ih := ih) (tl := tl) (ds := ds) (st := st) (lo := 0) (hi := 4 - lx_vk g n K (lx_ws g n p) 1) h b2 (by rw [← s2]; exact q2)
  rw [← v0] at e0
  rw [← s1, ← v1] at e1
  rw [← s2, ← v2] at e2
  refine ⟨lx_te g n (lx_ns g n false (lx_sk g n K (lx_ws g n p) 2)), lx_te g n (lx_ns g n false (lx_sk g n K (lx_ws g n p) 2)) - lx_ns g n false (lx_sk g n K (lx_ws g n p) 2), b3.2, by omega, s3.symm, ?_⟩
  · rw [en_202 (k := 60) (ls := [some (.ref 102), some (.int x), none, none, none]) rfl, rb_gg, rb_ls 28 9999 60]
    simp only [rb_gs_eq, rb_cs_go, rb_cs_end, rb_cs_ite, Nat.reduceAdd, Nat.zero_add, wr_at, wr_wr, true_and, and_true, and_self, true_or, or_true, false_or, or_false, ↓reduceIte, Nat.reduceLT, Nat.reduceLeDiff, Nat.reduceEqDiff, lg_cmp_ge, lg_cmp_le, lg_cmp_gt, lg_cmp_lt, lg_cmp_eq, Bool.false_eq_true, reduceCtorEq, mg_i, mg_l, decide_true, beq_self_eq_true, Nat.reduceBEq, st_202, dX9_readsTerm_0, xx_aloadn0, xx_aloadn0N, dX9_readsTerm_1, xx_bipush, kb_m20, dX9_readsTerm_3, kb_20, dX9_readsTerm_5, xx_ivV, zz_c0, zz_c3, zz_c1, zz_c2, zz_c5, zz_c8, zz_c6, zz_R, List.length_cons, List.length_nil, List.take_succ_cons, List.take_zero, List.drop_succ_cons, List.drop_zero, List.reverse_cons, List.reverse_nil, List.nil_append, List.cons_append, rb_cat, List.map_cons, List.map_nil, List.sum_cons, List.sum_nil, Value.category, rb_isR, rb_isS, Option.toList_some, Option.toList_none, tv_9_235, dX9_readsTerm_8, xx_istoren2, zz_invi, zz_invr, zz_invz, zz_invn, zz_invl, dX9_readsTerm_9, dX9_readsTerm_10, xx_iconst, kc_0, dX9_readsTerm_11, kc_4, dX9_readsTerm_12, kc_1, dX9_readsTerm_13, tv_9_231, dX9_readsTerm_16, xx_istoren3, dX9_readsTerm_17, dX9_readsTerm_18, dX9_readsTerm_19, dX9_readsTerm_20, xx_iloadn3, dX9_readsTerm_21, xx_isub, dX9_readsTerm_22, dX9_readsTerm_23, dX9_readsTerm_26, xx_istore4, dX9_readsTerm_28, dX9_readsTerm_29, xx_getf, zz_f, zz_g, zz_v, List.getElem?_cons_zero, List.getElem?_cons_succ, tf_9_238, dX9_readsTerm_32, xx_ifeq, rb_jp, Int.cast_ofNat_Int, Int.reduceAdd, Int.reduceLE, Int.reduceToNat, Int.reduceNeg, dX9_readsTerm_35, dX9_readsTerm_36, tf_9_7, dX9_readsTerm_39, kb_25, dX9_readsTerm_41, xx_iloadn1, dX9_readsTerm_42, xx_imul, dX9_readsTerm_43, kc_5, dX9_readsTerm_44, dX9_readsTerm_45, dX9_readsTerm_46, xx_iadd, dX9_readsTerm_47, xx_iload4, dX9_readsTerm_49, dX9_readsTerm_50, xx_iloadn2, dX9_readsTerm_51, xx_iast, zz_wi, dX9_readsTerm_52, xx_vret, mr_102, e0, e1, e2, ne_eq, not_false_eq_true, Nat.reduceEqDiff]
    rfl
theorem rt_no (h : MX σ n g) {K : Int32} (h3 : ¬ K = 3) (h4 : ¬ K = 4) {p j : Nat} {x : Int32} (hp : p ≤ n) (hj : j < 3) (ho : ∀ i, i < j → lx_ok g n K (lx_ws g n p) i) (hno : ¬ lx_ok g n K (lx_ws g n p) j) : ∃ (l' : Nat) (w0 w1 w2 : Int32), l' ≤ 200 ∧ rb_R (d + 6) 202 [.ref 102, .int x] (lx_mr σ ih (nI n) (nI p) tl 0 ds st) = rb_lim (rb_stp (rb_R (d + 5)) rb_m202) (28, [some (.ref 102), some (.int x), some (.int w0), some (.int w1), some (.int w2)], [], lx_mr σ ih (nI n) (nI (lx_ns g n (lx_bs K j) (lx_sk g n K (lx_ws g n p) j))) (nI l') 1 ds st) := by
  have hn := h.2
  obtain ⟨t0, t1, t2⟩ := bT h3 h4
  obtain ⟨v0, v1, v2, s1, s2, s3⟩ := vkT (g := g) (n := n) h3 h4 (t := lx_ws g n p)
  have b0 := (ws_b (g := g) hp).2
  have n0 := (ns_b (g := g) (sg := true) b0).2
  have n1 := (ns_b (g := g) (sg := false) (sk_b (g := g) (K := K) b0 1).2).2
  have n2 := (ns_b (g := g) (sg := false) (sk_b (g := g) (K := K) b0 2).2).2
  have b1 := (te_b (g := g) n0).2
  have b2 := (te_b (g := g) n1).2
  have b3 := (te_b (g := g) n2).2
  have hj' : j = 0 ∨ j = 1 ∨ j = 2 := by omega
  rcases hj' with rfl | rfl | rfl
  · rw [t0]
    have q0 : ¬ lx_nOK g n true (-20) 20 (lx_ws g n p) := fun hx => hno ((okT h3 h4).1.mpr hx)
    obtain ⟨w0, e0⟩ := m_sNo (d := d) (ih := ih) (tl := tl) (ds := ds) (st := st) h hp q0
    obtain ⟨w1, e1⟩ := m_figF (d := d + 2) (ih := ih) (ds := ds) (st := st) (lo := 0) (hi := 4) (sg := 1) h (s := lx_ns g n true (lx_ws g n p)) (l := lx_te g n (lx_ns g n true (lx_ws g n p)) - lx_ns g n true (lx_ws g n p)) (by omega) (by omega)
    obtain ⟨w2, e2⟩ := m_figF (d := d + 2) (ih := ih) (ds := ds) (st := st) (lo := 0) (hi := 4 - w1) (sg := 1) h (s := lx_ns g n true (lx_ws g n p)) (l := lx_te g n (lx_ns g n true (lx_ws g n p)) - lx_ns g n true (lx_ws g n p)) (by omega) (by omega)
    refine ⟨lx_te g n (lx_ns g n true (lx_ws g n p)) - lx_ns g n true (lx_ws g n p), w0, w1, w2, by omega, ?_⟩
    rw [en_202 (k := 60) (ls := [some (.ref 102), some (.int x), none, none, none]) rfl, rb_gg, rb_ls 28 9999 60]
    simp only [rb_gs_eq, rb_cs_go, rb_cs_end, rb_cs_ite, Nat.reduceAdd, Nat.zero_add, wr_at, wr_wr, true_and, and_true, and_self, true_or, or_true, false_or, or_false, ↓reduceIte, Nat.reduceLT, Nat.reduceLeDiff, Nat.reduceEqDiff, lg_cmp_ge, lg_cmp_le, lg_cmp_gt, lg_cmp_lt, lg_cmp_eq, Bool.false_eq_true, reduceCtorEq, mg_i, mg_l, decide_true, beq_self_eq_true, Nat.reduceBEq, st_202, dX9_readsTerm_0, xx_aloadn0, xx_aloadn0N, dX9_readsTerm_1, xx_bipush, kb_m20, dX9_readsTerm_3, kb_20, dX9_readsTerm_5, xx_ivV, zz_c0, zz_c3, zz_c1, zz_c2, zz_c5, zz_c8, zz_c6, zz_R, List.length_cons, List.length_nil, List.take_succ_cons, List.take_zero, List.drop_succ_cons, List.drop_zero, List.reverse_cons, List.reverse_nil, List.nil_append, List.cons_append, rb_cat, List.map_cons, List.map_nil, List.sum_cons, List.sum_nil, Value.category, rb_isR, rb_isS, Option.toList_some, Option.toList_none, tv_9_235, dX9_readsTerm_8, xx_istoren2, zz_invi, zz_invr, zz_invz, zz_invn, zz_invl, dX9_readsTerm_9, dX9_readsTerm_10, xx_iconst, kc_0, dX9_readsTerm_11, kc_4, dX9_readsTerm_12, kc_1, dX9_readsTerm_13, tv_9_231, dX9_readsTerm_16, xx_istoren3, dX9_readsTerm_17, dX9_readsTerm_18, dX9_readsTerm_19, dX9_readsTerm_20, xx_iloadn3, dX9_readsTerm_21, xx_isub, dX9_readsTerm_22, dX9_readsTerm_23, dX9_readsTerm_26, xx_istore4, dX9_readsTerm_28, dX9_readsTerm_29, xx_getf, zz_f, zz_g, zz_v, List.getElem?_cons_zero, List.getElem?_cons_succ, tf_9_238, dX9_readsTerm_32, xx_ifeq, rb_jp, Int.cast_ofNat_Int, Int.reduceAdd, Int.reduceLE, Int.reduceToNat, Int.reduceNeg, dX9_readsTerm_35, dX9_readsTerm_36, tf_9_7, dX9_readsTerm_39, kb_25, dX9_readsTerm_41, xx_iloadn1, dX9_readsTerm_42, xx_imul, dX9_readsTerm_43, kc_5, dX9_readsTerm_44, dX9_readsTerm_45, dX9_readsTerm_46, xx_iadd, dX9_readsTerm_47, xx_iload4, dX9_readsTerm_49, dX9_readsTerm_50, xx_iloadn2, dX9_readsTerm_51, xx_iast, zz_wi, dX9_readsTerm_52, xx_vret, mr_102, e0, e1, e2, ne_eq, not_false_eq_true, Nat.reduceEqDiff]
    rfl
  · rw [t1]
    have q0 := (okT h3 h4).1.mp (ho 0 (by omega))
    have q1 : ¬ lx_nOK g n false 0 4 (lx_sk g n K (lx_ws g n p) 1) := fun hx => hno ((okT h3 h4).2.1.mpr hx)
    have e0 := m_sOK (d := d) (ih := ih) (tl := tl) (ds := ds) (st := st) h hp q0
    obtain ⟨w1, e1⟩ := m_fNo (d := d + 1) (ih := ih) (tl := nI (lx_te g n (lx_ns g n true (lx_ws g n p)) - lx_ns g n true (lx_ws g n p))) (ds := ds) (st := st) (lo := 0) (hi := 4) h b1 (by rw [← s1]; exact q1)
    rw [← s1] at e1
    obtain ⟨w2, e2⟩ := m_figF (d := d + 2) (ih := ih) (ds := ds) (st := st) (lo := 0) (hi := 4 - w1) (sg := 1) h (s := lx_ns g n false (lx_sk g n K (lx_ws g n p) 1)) (l := lx_te g n (lx_ns g n false (lx_sk g n K (lx_ws g n p) 1)) - lx_ns g n false (lx_sk g n K (lx_ws g n p) 1)) (by omega) (by omega)
    refine ⟨lx_te g n (lx_ns g n false (lx_sk g n K (lx_ws g n p) 1)) - lx_ns g n false (lx_sk g n K (lx_ws g n p) 1), lx_nv g n true (lx_ws g n p), w1, w2, by omega, ?_⟩
    · rw [en_202 (k := 60) (ls := [some (.ref 102), some (.int x), none, none, none]) rfl, rb_gg, rb_ls 28 9999 60]
      simp only [rb_gs_eq, rb_cs_go, rb_cs_end, rb_cs_ite, Nat.reduceAdd, Nat.zero_add, wr_at, wr_wr, true_and, and_true, and_self, true_or, or_true, false_or, or_false, ↓reduceIte, Nat.reduceLT, Nat.reduceLeDiff, Nat.reduceEqDiff, lg_cmp_ge, lg_cmp_le, lg_cmp_gt, lg_cmp_lt, lg_cmp_eq, Bool.false_eq_true, reduceCtorEq, mg_i, mg_l, decide_true, beq_self_eq_true, Nat.reduceBEq, st_202, dX9_readsTerm_0, xx_aloadn0, xx_aloadn0N, dX9_readsTerm_1, xx_bipush, kb_m20, dX9_readsTerm_3, kb_20, dX9_readsTerm_5, xx_ivV, zz_c0, zz_c3, zz_c1, zz_c2, zz_c5, zz_c8, zz_c6, zz_R, List.length_cons, List.length_nil, List.take_succ_cons, List.take_zero, List.drop_succ_cons, List.drop_zero, List.reverse_cons, List.reverse_nil, List.nil_append, List.cons_append, rb_cat, List.map_cons, List.map_nil, List.sum_cons, List.sum_nil, Value.category, rb_isR, rb_isS, Option.toList_some, Option.toList_none, tv_9_235, dX9_readsTerm_8, xx_istoren2, zz_invi, zz_invr, zz_invz, zz_invn, zz_invl, dX9_readsTerm_9, dX9_readsTerm_10, xx_iconst, kc_0, dX9_readsTerm_11, kc_4, dX9_readsTerm_12, kc_1, dX9_readsTerm_13, tv_9_231, dX9_readsTerm_16, xx_istoren3, dX9_readsTerm_17, dX9_readsTerm_18, dX9_readsTerm_19, dX9_readsTerm_20, xx_iloadn3, dX9_readsTerm_21, xx_isub, dX9_readsTerm_22, dX9_readsTerm_23, dX9_readsTerm_26, xx_istore4, dX9_readsTerm_28, dX9_readsTerm_29, xx_getf, zz_f, zz_g, zz_v, List.getElem?_cons_zero, List.getElem?_cons_succ, tf_9_238, dX9_readsTerm_32, xx_ifeq, rb_jp, Int.cast_ofNat_Int, Int.reduceAdd, Int.reduceLE, Int.reduceToNat, Int.reduceNeg, dX9_readsTerm_35, dX9_readsTerm_36, tf_9_7, dX9_readsTerm_39, kb_25, dX9_readsTerm_41, xx_iloadn1, dX9_readsTerm_42, xx_imul, dX9_readsTerm_43, kc_5, dX9_readsTerm_44, dX9_readsTerm_45, dX9_readsTerm_46, xx_iadd, dX9_readsTerm_47, xx_iload4, dX9_readsTerm_49, dX9_readsTerm_50, xx_iloadn2, dX9_readsTerm_51, xx_iast, zz_wi, dX9_readsTerm_52, xx_vret, mr_102, e0, e1, e2, ne_eq, not_false_eq_true, Nat.reduceEqDiff]
      rfl
  · rw [t2]
    have q0 := (okT h3 h4).1.mp (ho 0 (by omega))
    have q1 := (okT h3 h4).2.1.mp (ho 1 (by omega))
    have q2 : ¬ lx_nOK g n false 0 (4 - lx_vk g n K (lx_ws g n p) 1) (lx_sk g n K (lx_ws g n p) 2) := fun hx => hno ((okT h3 h4).2.2.mpr hx)
    have e0 := m_sOK (d := d) (ih := ih) (tl := tl) (ds := ds) (st := st) h hp q0
    have e1 := fun tl => m_fOK (d := d + 1) (ih := ih) (tl := tl) (ds := ds) (st := st) (lo := 0) (hi := 4) h b1 (by rw [← s1]; exact q1)
    rw [← s1, ← v1] at e1
    obtain ⟨w2, e2⟩ := m_fNo (d := d + 1) (ih := ih) (tl := nI (lx_te g n (lx_ns g n false (lx_sk g n K (lx_ws g n p) 1)) - lx_ns g n false (lx_sk g n K (lx_ws g n p) 1))) (ds := ds) (st := st) (lo := 0) (hi := 4 - lx_vk g n K (lx_ws g n p) 1) h b2 (by rw [← s2]; exact q2)
    rw [← s2] at e2
    refine ⟨lx_te g n (lx_ns g n false (lx_sk g n K (lx_ws g n p) 2)) - lx_ns g n false (lx_sk g n K (lx_ws g n p) 2), lx_nv g n true (lx_ws g n p), lx_vk g n K (lx_ws g n p) 1, w2, by omega, ?_⟩
    · rw [en_202 (k := 60) (ls := [some (.ref 102), some (.int x), none, none, none]) rfl, rb_gg, rb_ls 28 9999 60]
      simp only [rb_gs_eq, rb_cs_go, rb_cs_end, rb_cs_ite, Nat.reduceAdd, Nat.zero_add, wr_at, wr_wr, true_and, and_true, and_self, true_or, or_true, false_or, or_false, ↓reduceIte, Nat.reduceLT, Nat.reduceLeDiff, Nat.reduceEqDiff, lg_cmp_ge, lg_cmp_le, lg_cmp_gt, lg_cmp_lt, lg_cmp_eq, Bool.false_eq_true, reduceCtorEq, mg_i, mg_l, decide_true, beq_self_eq_true, Nat.reduceBEq, st_202, dX9_readsTerm_0, xx_aloadn0, xx_aloadn0N, dX9_readsTerm_1, xx_bipush, kb_m20, dX9_readsTerm_3, kb_20, dX9_readsTerm_5, xx_ivV, zz_c0, zz_c3, zz_c1, zz_c2, zz_c5, zz_c8, zz_c6, zz_R, List.length_cons, List.length_nil, List.take_succ_cons, List.take_zero, List.drop_succ_cons, List.drop_zero, List.reverse_cons, List.reverse_nil, List.nil_append, List.cons_append, rb_cat, List.map_cons, List.map_nil, List.sum_cons, List.sum_nil, Value.category, rb_isR, rb_isS, Option.toList_some, Option.toList_none, tv_9_235, dX9_readsTerm_8, xx_istoren2, zz_invi, zz_invr, zz_invz, zz_invn, zz_invl, dX9_readsTerm_9, dX9_readsTerm_10, xx_iconst, kc_0, dX9_readsTerm_11, kc_4, dX9_readsTerm_12, kc_1, dX9_readsTerm_13, tv_9_231, dX9_readsTerm_16, xx_istoren3, dX9_readsTerm_17, dX9_readsTerm_18, dX9_readsTerm_19, dX9_readsTerm_20, xx_iloadn3, dX9_readsTerm_21, xx_isub, dX9_readsTerm_22, dX9_readsTerm_23, dX9_readsTerm_26, xx_istore4, dX9_readsTerm_28, dX9_readsTerm_29, xx_getf, zz_f, zz_g, zz_v, List.getElem?_cons_zero, List.getElem?_cons_succ, tf_9_238, dX9_readsTerm_32, xx_ifeq, rb_jp, Int.cast_ofNat_Int, Int.reduceAdd, Int.reduceLE, Int.reduceToNat, Int.reduceNeg, dX9_readsTerm_35, dX9_readsTerm_36, tf_9_7, dX9_readsTerm_39, kb_25, dX9_readsTerm_41, xx_iloadn1, dX9_readsTerm_42, xx_imul, dX9_readsTerm_43, kc_5, dX9_readsTerm_44, dX9_readsTerm_45, dX9_readsTerm_46, xx_iadd, dX9_readsTerm_47, xx_iload4, dX9_readsTerm_49, dX9_readsTerm_50, xx_iloadn2, dX9_readsTerm_51, xx_iast, zz_wi, dX9_readsTerm_52, xx_vret, mr_102, e0, e1, e2, ne_eq, not_false_eq_true, Nat.reduceEqDiff]
      rfl
end
