/-! ===== keep, back ===== -/
def eqS (P Q : sP) : Prop := P.2 5 = Q.2 5 ∧ P.2 7 = Q.2 7 ∧ P.2 9 = Q.2 9 ∧ P.2 11 = Q.2 11 ∧ (∀ t, t < 25 → P.1 2 t = Q.1 2 t ∧ P.1 4 t = Q.1 4 t) ∧ (∀ t, t < 4 * Q.2 5 → P.1 6 t = Q.1 6 t) ∧ (∀ t, t < 4 * Q.2 7 → P.1 8 t = Q.1 8 t) ∧ (∀ t, t < 4 * Q.2 9 → P.1 10 t = Q.1 10 t) ∧ (∀ t, t < 4 * Q.2 11 → P.1 12 t = Q.1 12 t) ∧ (∀ t, t < 200 → P.1 13 t = Q.1 13 t)
theorem cpy_at {f g : Nat → Int32} {n t : Nat} (h : t < n) : va_cpy f g 0 0 n t = f t := by
  unfold va_cpy
  rw [if_pos ⟨by omega, by omega⟩, Nat.zero_add, Nat.sub_zero]
theorem cpyN_at {f g : Nat → Int32} {n t : Nat} (h : t < n) : cpyN f g n t = f t := if_pos h
theorem eqS_cp (P2 P : sP) : eqS (cpP P2 P) P2 := by
  refine ⟨rfl, rfl, rfl, rfl, fun t ht => ⟨?_, ?_⟩, fun t ht => ?_, fun t ht => ?_, fun t ht => ?_, fun t ht => ?_, fun t ht => ?_⟩
  · show cpyN (P2.1 2) (P.1 2) 25 t = P2.1 2 t
    exact cpyN_at ht
  · show cpyN (P2.1 4) _ 25 t = P2.1 4 t
    exact cpyN_at ht
  · show va_cpy (P2.1 6) _ 0 0 (4 * P2.2 5) t = P2.1 6 t
    exact cpy_at ht
  · show va_cpy (P2.1 8) _ 0 0 (4 * P2.2 7) t = P2.1 8 t
    exact cpy_at ht
  · show va_cpy (P2.1 10) _ 0 0 (4 * P2.2 9) t = P2.1 10 t
    exact cpy_at ht
  · show va_cpy (P2.1 12) _ 0 0 (4 * P2.2 11) t = P2.1 12 t
    exact cpy_at ht
  · show va_cpy (P2.1 13) _ 0 0 200 t = P2.1 13 t
    exact cpy_at ht
theorem RS_eq {P Q : sP} {l : Int32} {st : Nat → Int32} (h : eqS P Q) (hR : RS Q l st) : RS P l st := by
  obtain ⟨e5, e7, e9, e11, ef, e6, e8, e10, e12, e13⟩ := h
  obtain ⟨⟨n5, n7, n9, n11⟩, ⟨f1, f2, f3⟩, hl, ⟨o1, o2, o3⟩, ⟨s1, s2, s3, s4', s5⟩, ⟨d1, d2⟩, ⟨v1, v2, v3⟩⟩ := hR
  have okc : ∀ {u u' : Nat → Int32}, (∀ j, j < 4 → u j = u' j) → okB u' → okB u := fun h hb => by
    unfold okB at hb ⊢
    rw [h 0 (by omega), h 1 (by omega), h 2 (by omega), h 3 (by omega)]
    exact hb
  refine ⟨⟨by rw [e5]; exact n5, by rw [e7, e11]; exact n7, by rw [e9, e11]; exact n9, by rw [e11]; exact n11⟩, ⟨fun k hk => by rw [(ef k hk).1]; exact f1 k hk, fun k hk => by rw [(ef k hk).2]; exact f2 k hk, fun k hk => by rw [(ef k hk).1, (ef k hk).2]; exact f3 k hk⟩, hl, ?_, ?_, ?_, ?_⟩
  · rw [e5]
    exact ⟨o1, fun k hk => by rw [e6 k hk]; exact o2 k hk, fun k hk => okc (fun j hj => e6 _ (by omega)) (o3 k hk)⟩
  · rw [e7]
    refine ⟨s1, fun k hk => ⟨(s2 k hk).1, fun j hj => ?_⟩, s3, s4', fun i hi => ?_⟩
    · have hr := (s2 k hk).1
      rw [e8 (4 * rnk (fun t => st (311 + t)) (Q.2 7) k + j) (by omega)]
      exact (s2 k hk).2 j hj
    · rw [aI_congr (u' := Q.1 8) (a' := 4 * (i + 1)) (b' := 4 * i) (fun j hj => e8 _ (by omega)) (fun j hj => e8 _ (by omega))]
      exact s5 i hi
  · rw [e9]
    exact ⟨d1, fun k hk => by rw [e10 k hk]; exact d2 k hk⟩
  · rw [e11]
    exact ⟨v1, fun k hk => ⟨by rw [e13 k (by omega)]; exact (v2 k hk).1, fun j hj => by rw [e12 (4 * k + j) (by omega)]; exact (v2 k hk).2 j hj⟩, fun k hk => okc (fun j hj => e12 _ (by omega)) (v3 k hk)⟩
theorem RS_ext {P : sP} {l : Int32} {st st' : Nat → Int32} (hR : RS P l st) (lo : ∀ t, t < 2911 → st' t = st t) : RS P l st' := by
  obtain ⟨hN, hf, hl, ho, hs, hd, he⟩ := hR
  obtain ⟨n5, n7, n9, n11⟩ := id hN
  exact ⟨hN, RSf_fr hf (fun t ht => lo t (by omega)), (lo 50 (by omega)).trans hl, RSo_fr (n := P.2 5) ho (by omega) (lo 51 (by omega)) (fun t h1 h2 => lo t (by omega)), RSs_fr (n := P.2 7) hs (by omega) (lo 52 (by omega)) (fun t h1 h2 => lo t (by omega)), RSd_fr (n := P.2 9) hd (by omega) (lo 53 (by omega)) (fun t h1 h2 => lo t (by omega)), RSe_fr (n := P.2 11) he (by omega) (lo 54 (by omega)) (fun t h1 h2 => lo t (by omega))⟩
theorem CI_kp {τ τ' : rb_S} {tn : Nat} {tg : Nat → Int32} {hn : Nat} {hg : Nat → Int32} {P : sP} {l : Int32} {K K' : sK} {kf kf' : Nat → Option Nat} (h : CI τ tn tg hn hg P l K kf) (hf : ∀ k, k < 114 → k ≠ 99 → τ'.1 k = τ.1 k) (h99 : τ'.1 99 = some (.inl (3, 2, .inr (.inr (.inr (.inr kf')))))) (hK' : ∀ k, k < 2 → (K' k = none ∧ kf' k = none) ∨ ∃ (B : Nat) (Q : sP) (m : Int32), K' k = some (Q, m) ∧ kf' k = some B ∧ StAt τ' B Q m ∧ 114 ≤ B ∧ B + 14 ≤ τ'.2.1) (hD' : ∀ B0 B1, kf' 0 = some B0 → kf' 1 = some B1 → B0 + 14 ≤ B1 ∨ B1 + 14 ≤ B0) (s1 : 114 ≤ τ'.2.1) (s2 : τ'.2.1 ≤ 114 + 14 * nk K') (s3 : τ'.2.2 ≤ 20000 + 3000 * nk K') : CI τ' tn tg hn hg P l K' kf' := by
  obtain ⟨⟨⟨j1, ⟨c1, c2, gf, c3, c4⟩, ⟨d1, d2, gf2, d3, d4⟩⟩, b6, b7, b8, ⟨kd, nb, c, t, s, e, b9, b10, b11⟩, b99, b100, b101⟩, hS, ⟨Z, hZ⟩, hK, hD, r1, r2, r3, r4, r5⟩ := h
  refine ⟨⟨⟨?_, ⟨c1, ?_, gf, ?_, c4⟩, ⟨d1, ?_, gf2, ?_, d4⟩⟩, ?_, ?_, ?_, ⟨kd, nb, c, t, s, e, ?_, ?_, ?_⟩, h99, ?_, ?_⟩, fun o ho => ?_, ⟨Z, fun k hk => ?_⟩, hK', hD', r1, r2, s1, s2, s3⟩
  · rw [hf 12 (by omega) (by omega)]; exact j1
  · rw [hf 15 (by omega) (by omega)]; exact c2
  · rw [hf 16 (by omega) (by omega)]; exact c3
  · rw [hf 44 (by omega) (by omega)]; exact d2
  · rw [hf 45 (by omega) (by omega)]; exact d3
  · rw [hf 6 (by omega) (by omega)]; exact b6
  · rw [hf 7 (by omega) (by omega)]; exact b7
  · rw [hf 8 (by omega) (by omega)]; exact b8
  · rw [hf 9 (by omega) (by omega)]; exact b9
  · rw [hf 10 (by omega) (by omega)]; exact b10
  · rw [hf 11 (by omega) (by omega)]; exact b11
  · rw [hf 100 (by omega) (by omega)]; exact b100
  · rw [hf 101 (by omega) (by omega)]; exact b101
  · rw [hf (85 + o) (by omega) (by omega)]; exact hS o ho
  · rw [hf k (by omega) (by omega)]; exact hZ k hk
theorem nk_new {K : sK} {q : Nat} {v : sP × Int32} (hq : q < 2) (h : K q = none) : nk (va_up K q (some v)) = nk K + 1 := by
  have hc : q = 0 ∨ q = 1 := by omega
  rcases hc with rfl | rfl
  · have a0 : va_up K 0 (some v) 0 = some v := rfl
    have a1 : va_up K 0 (some v) 1 = K 1 := rfl
    unfold nk
    rw [a0, a1, h]
    dsimp only
    omega
  · have a0 : va_up K 1 (some v) 1 = some v := rfl
    have a1 : va_up K 1 (some v) 0 = K 0 := rfl
    unfold nk
    rw [a0, a1, h]
    rfl
theorem nk_old {K : sK} {q : Nat} {v w : sP × Int32} (hq : q < 2) (h : K q = some w) : nk (va_up K q (some v)) = nk K := by
  have hc : q = 0 ∨ q = 1 := by omega
  rcases hc with rfl | rfl
  · have a0 : va_up K 0 (some v) 0 = some v := rfl
    have a1 : va_up K 0 (some v) 1 = K 1 := rfl
    unfold nk
    rw [a0, a1, h]
  · have a0 : va_up K 1 (some v) 1 = some v := rfl
    have a1 : va_up K 1 (some v) 0 = K 0 := rfl
    unfold nk
    rw [a0, a1, h]
theorem k2_c (x : Int32) : x < 0 ∨ (¬ x < 0 ∧ ¬ x < nI 2 ∧ 1 < x) ∨ ∃ q : Nat, q ≤ 1 ∧ x = nI q := by
  by_cases h0 : x < 0
  · exact Or.inl h0
  · refine Or.inr ?_
    by_cases h1 : x = 0
    · exact Or.inr ⟨0, by omega, h1⟩
    · by_cases h2 : x = 1
      · exact Or.inr ⟨1, by omega, h2⟩
      · refine Or.inl ⟨h0, ?_, ?_⟩
        · rw [i_lt] at h0 ⊢
          rw [i_inj] at h1 h2
          have z0 : (0 : Int32).toInt = 0 := rfl
          have z1 : (1 : Int32).toInt = 1 := rfl
          have z2 : (nI 2 : Int32).toInt = 2 := rfl
          omega
        · rw [i_lt] at h0 ⊢
          rw [i_inj] at h1 h2
          have z0 : (0 : Int32).toInt = 0 := rfl
          have z1 : (1 : Int32).toInt = 1 := rfl
          omega
/-- the model's row put by -/
def kpU (q : Nat) (st kp : Nat → Int32) (i : Nat) : Nat → Int32 := fun t => if 2911 * q ≤ t ∧ t < 2911 * q + i then st (t - 2911 * q) else kp t
theorem kpU_s (q : Nat) (st kp : Nat → Int32) (i : Nat) : upd (kpU q st kp i) (2911 * q + i) (st i) = kpU q st kp (i + 1) := by
  funext t
  by_cases e : t = 2911 * q + i
  · subst e
    rw [pk_us]
    unfold kpU
    rw [if_pos (by omega), Nat.add_sub_cancel_left]
  · rw [pk_un e]
    unfold kpU
    by_cases c : 2911 * q ≤ t ∧ t < 2911 * q + i
    · rw [if_pos c, if_pos (by omega)]
    · rw [if_neg c, if_neg (by omega)]
theorem cpyN_s (g2 g : Nat → Int32) (i : Nat) : upd (cpyN g2 g i) i (g2 i) = cpyN g2 g (i + 1) := by
  funext t
  by_cases e : t = i
  · subst e
    rw [pk_us]
    unfold cpyN
    rw [if_pos (by omega)]
  · rw [pk_un e]
    unfold cpyN
    by_cases c : t < i
    · rw [if_pos c, if_pos (by omega)]
    · rw [if_neg c, if_neg (by omega)]
section
variable {d : Nat} {σ τ : rb_S} {P : sP} {l : Int32} {L : Nat} {xs : Nat → Int32} {ih lt ra tl fa ds : Int32} {st kp ik : Nat → Int32}
theorem g_entries (h : σ.1 85 = some (.inr (6, [.ref 86, .ref 88, .ref 90, .ref 92, .ref 94, .ref 96, .ref 98, .int l]))) : rb_R (d + 1) 80 [.ref 85] σ = some (some (.ref 96), σ) := by
  rw [en_80 (k := 40) (ls := [some (.ref 85)]) rfl]
  simp only [rb_gg_eq, rb_ct_go, rb_ct_end, rb_ct_ite, Nat.reduceAdd, Nat.zero_add, wr_at, wr_wr, true_and, and_true, and_self, true_or, or_true, false_or, or_false, ↓reduceIte, Nat.reduceLT, Nat.reduceLeDiff, Nat.reduceEqDiff, lg_cmp_ge, lg_cmp_le, lg_cmp_gt, lg_cmp_lt, lg_cmp_eq, Bool.false_eq_true, reduceCtorEq, mg_i, mg_l, decide_true, beq_self_eq_true, Nat.reduceBEq, st_80, dX6_entries_0, xx_aloadn0, xx_aloadn0N, dX6_entries_1, xx_getf, zz_f, zz_g, zz_v, List.getElem?_cons_zero, List.getElem?_cons_succ, tf_6_36, dX6_entries_4, xx_aret, h]
theorem l_mkeep {q : Nat} (hq : q ≤ 1) (hM : σ.1 102 = some (mo ih lt ra tl fa ds)) (hS : σ.1 103 = some (.inl (0, 2911, .inl st))) (hI : σ.1 105 = some (.inl (0, 2, .inl ik))) : ∀ (r i : Nat), i + r = 2911 → rb_lim (rb_stp (rb_R d) rb_m190) (14, [some (.ref 102), some (.int (nI q)), some (.int (nI i))], [], rb_wr σ 104 (.inl (0, 5822, .inl (kpU q st kp i)))) = some (some (.int (st 54)), rb_wr (rb_wr σ 104 (.inl (0, 5822, .inl (kpU q st kp 2911)))) 105 (.inl (0, 2, .inl (upd ik q 1)))) := by
  have wM : ∀ g, (rb_wr σ 104 (.inl (0, 5822, .inl g))).1 102 = some (mo ih lt ra tl fa ds) := fun g => (wr_ne (by omega)).trans hM
  have wS : ∀ g, (rb_wr σ 104 (.inl (0, 5822, .inl g))).1 103 = some (.inl (0, 2911, .inl st)) := fun g => (wr_ne (by omega)).trans hS
  have wI : ∀ g, (rb_wr σ 104 (.inl (0, 5822, .inl g))).1 105 = some (.inl (0, 2, .inl ik)) := fun g => (wr_ne (by omega)).trans hI
  have vM : ∀ g h, (rb_wr (rb_wr σ 104 (.inl (0, 5822, .inl g))) 105 (.inl (0, 2, .inl h))).1 102 = some (mo ih lt ra tl fa ds) := fun g h => (wr_ne (by omega)).trans (wM g)
  have vS : ∀ g h, (rb_wr (rb_wr σ 104 (.inl (0, 5822, .inl g))) 105 (.inl (0, 2, .inl h))).1 103 = some (.inl (0, 2911, .inl st)) := fun g h => (wr_ne (by omega)).trans (wS g)
  have q1 : rb_in (nI q) 2 = true := by rw [rb_in' (by omega)]; exact decide_eq_true (by omega)
  have q2 : (nI q).toNatClampNeg = q := nI_cl (by omega)
  intro r
  induction r with
  | zero =>
    intro i hi
    have hi' : i = 2911 := by omega
    subst hi'
    have g1 : (2911 : Int32) ≤ nI 2911 := by decide
    rw [rb_ls 14 9999 60]
    simp only [rb_gs_eq, rb_cs_go, rb_cs_end, rb_cs_ite, Nat.reduceAdd, Nat.zero_add, wr_at, wr_wr, true_and, and_true, and_self, true_or, or_true, false_or, or_false, ↓reduceIte, Nat.reduceLT, Nat.reduceLeDiff, Nat.reduceEqDiff, lg_cmp_ge, lg_cmp_le, lg_cmp_gt, lg_cmp_lt, lg_cmp_eq, Bool.false_eq_true, reduceCtorEq, mg_i, mg_l, decide_true, beq_self_eq_true, Nat.reduceBEq, st_190, dX9_keep_0, xx_iloadn1, dX9_keep_1, xx_iconst, kc_0, dX9_keep_2, kc_1, dX9_keep_3, xx_ivS, zz_c0, zz_c3, zz_c1, zz_c2, zz_c5, zz_c8, zz_c6, zz_R, List.length_cons, List.length_nil, List.take_succ_cons, List.take_zero, List.drop_succ_cons, List.drop_zero, List.reverse_cons, List.reverse_nil, List.nil_append, List.cons_append, rb_cat, List.map_cons, List.map_nil, List.sum_cons, List.sum_nil, Value.category, rb_isR, rb_isS, Option.toList_some, Option.toList_none, tv_9_116, dX9_keep_6, xx_ifne, rb_jp, Int.cast_ofNat_Int, Int.reduceAdd, Int.reduceLE, Int.reduceToNat, Int.reduceNeg, dX9_keep_9, xx_ldc, zz_I, zz_S, ti_9_125, dX9_keep_11, xx_iret, xx_zret0, xx_zret1, dX9_keep_12, dX9_keep_13, xx_istoren2, zz_invi, zz_invr, zz_invz, zz_invn, zz_invl, dX9_keep_14, xx_iloadn2, dX9_keep_15, xx_sipush, ks_2911, dX9_keep_18, xx_icge, dX9_keep_21, xx_aloadn0, xx_aloadn0N, dX9_keep_22, xx_getf, zz_f, zz_g, zz_v, List.getElem?_cons_zero, List.getElem?_cons_succ, tf_9_13, dX9_keep_25, dX9_keep_28, dX9_keep_29, xx_imul, dX9_keep_30, dX9_keep_31, xx_iadd, dX9_keep_32, dX9_keep_33, tf_9_7, dX9_keep_36, dX9_keep_37, xx_iald, zz_yi, zz_yx, dX9_keep_38, xx_iast, zz_wi, dX9_keep_39, xx_iinc2, dX9_keep_42, xx_goto, dX9_keep_45, dX9_keep_46, tf_9_16, dX9_keep_49, dX9_keep_50, dX9_keep_51, dX9_keep_52, dX9_keep_53, dX9_keep_56, xx_bipush, kb_54, dX9_keep_58, dX9_keep_59, g1, wM, wS, wI, vM, vS, q1, q2, stl, ne_eq, not_false_eq_true, Nat.reduceEqDiff]
  | succ r ih =>
    intro i hi
    have g1 : ¬ (2911 : Int32) ≤ nI i := by rw [lit_2911]; exact nI_ge (by omega) (by omega)
    have f1 : (2911 : Int32) * nI q + nI i = nI (2911 * q + i) := by rw [lit_2911, nI_mul', nI_add]
    have r1 : rb_in (nI (2911 * q + i)) 5822 = true := by rw [rb_in' (by omega)]; exact decide_eq_true (by omega)
    have k1 : (nI (2911 * q + i)).toNatClampNeg = 2911 * q + i := nI_cl (by omega)
    have r2 : rb_in (nI i) 2911 = true := by rw [rb_in' (by omega)]; exact decide_eq_true (by omega)
    have k2 : (nI i).toNatClampNeg = i := nI_cl (by omega)
    have k3 : nI i + 1 = nI (i + 1) := nI_1 i
    rw [rb_ls 14 9999 60]
    simp only [rb_gs_eq, rb_cs_go, rb_cs_end, rb_cs_ite, Nat.reduceAdd, Nat.zero_add, wr_at, wr_wr, true_and, and_true, and_self, true_or, or_true, false_or, or_false, ↓reduceIte, Nat.reduceLT, Nat.reduceLeDiff, Nat.reduceEqDiff, lg_cmp_ge, lg_cmp_le, lg_cmp_gt, lg_cmp_lt, lg_cmp_eq, Bool.false_eq_true, reduceCtorEq, mg_i, mg_l, decide_true, beq_self_eq_true, Nat.reduceBEq, st_190, dX9_keep_0, xx_iloadn1, dX9_keep_1, xx_iconst, kc_0, dX9_keep_2, kc_1, dX9_keep_3, xx_ivS, zz_c0, zz_c3, zz_c1, zz_c2, zz_c5, zz_c8, zz_c6, zz_R, List.length_cons, List.length_nil, List.take_succ_cons, List.take_zero, List.drop_succ_cons, List.drop_zero, List.reverse_cons, List.reverse_nil, List.nil_append, List.cons_append, rb_cat, List.map_cons, List.map_nil, List.sum_cons, List.sum_nil, Value.category, rb_isR, rb_isS, Option.toList_some, Option.toList_none, tv_9_116, dX9_keep_6, xx_ifne, rb_jp, Int.cast_ofNat_Int, Int.reduceAdd, Int.reduceLE, Int.reduceToNat, Int.reduceNeg, dX9_keep_9, xx_ldc, zz_I, zz_S, ti_9_125, dX9_keep_11, xx_iret, xx_zret0, xx_zret1, dX9_keep_12, dX9_keep_13, xx_istoren2, zz_invi, zz_invr, zz_invz, zz_invn, zz_invl, dX9_keep_14, xx_iloadn2, dX9_keep_15, xx_sipush, ks_2911, dX9_keep_18, xx_icge, dX9_keep_21, xx_aloadn0, xx_aloadn0N, dX9_keep_22, xx_getf, zz_f, zz_g, zz_v, List.getElem?_cons_zero, List.getElem?_cons_succ, tf_9_13, dX9_keep_25, dX9_keep_28, dX9_keep_29, xx_imul, dX9_keep_30, dX9_keep_31, xx_iadd, dX9_keep_32, dX9_keep_33, tf_9_7, dX9_keep_36, dX9_keep_37, xx_iald, zz_yi, zz_yx, dX9_keep_38, xx_iast, zz_wi, dX9_keep_39, xx_iinc2, dX9_keep_42, xx_goto, dX9_keep_45, dX9_keep_46, tf_9_16, dX9_keep_49, dX9_keep_50, dX9_keep_51, dX9_keep_52, dX9_keep_53, dX9_keep_56, xx_bipush, kb_54, dX9_keep_58, dX9_keep_59, g1, wM, wS, f1, r1, k1, r2, k2, k3, kpU_s, ne_eq, not_false_eq_true, Nat.reduceEqDiff]
    exact ih (i + 1) (by omega)
theorem m_keep {q : Nat} (hq : q ≤ 1) (hM : σ.1 102 = some (mo ih lt ra tl fa ds)) (hS : σ.1 103 = some (.inl (0, 2911, .inl st))) (hP : σ.1 104 = some (.inl (0, 5822, .inl kp))) (hI : σ.1 105 = some (.inl (0, 2, .inl ik))) : rb_R (d + 2) 190 [.ref 102, .int (nI q)] σ = some (some (.int (st 54)), rb_wr (rb_wr σ 104 (.inl (0, 5822, .inl (kpU q st kp 2911)))) 105 (.inl (0, 2, .inl (upd ik q 1)))) := by
  have one0 : ((1 : Int32) = 0) = False := eq_false (by decide)
  have i1 : (if nI q < 0 then (0 : Int32) else if 1 < nI q then 0 else 1) = 1 := by rw [if_neg (nI_pos (by omega)), if_neg (by rw [lit_1, nI_lt' (by omega) (by omega)]; omega)]
  have e0 : kpU q st kp 0 = kp := by
    funext t
    exact if_neg (by omega)
  rw [en_190 (k := 60) (ls := [some (.ref 102), some (.int (nI q)), none]) rfl, rb_gg, rb_ls 14 9999 60]
  simp only [rb_gs_eq, rb_cs_go, rb_cs_end, rb_cs_ite, Nat.reduceAdd, Nat.zero_add, wr_at, wr_wr, true_and, and_true, and_self, true_or, or_true, false_or, or_false, ↓reduceIte, Nat.reduceLT, Nat.reduceLeDiff, Nat.reduceEqDiff, lg_cmp_ge, lg_cmp_le, lg_cmp_gt, lg_cmp_lt, lg_cmp_eq, Bool.false_eq_true, reduceCtorEq, mg_i, mg_l, decide_true, beq_self_eq_true, Nat.reduceBEq, st_190, dX9_keep_0, xx_iloadn1, dX9_keep_1, xx_iconst, kc_0, dX9_keep_2, kc_1, dX9_keep_3, xx_ivS, zz_c0, zz_c3, zz_c1, zz_c2, zz_c5, zz_c8, zz_c6, zz_R, List.length_cons, List.length_nil, List.take_succ_cons, List.take_zero, List.drop_succ_cons, List.drop_zero, List.reverse_cons, List.reverse_nil, List.nil_append, List.cons_append, rb_cat, List.map_cons, List.map_nil, List.sum_cons, List.sum_nil, Value.category, rb_isR, rb_isS, Option.toList_some, Option.toList_none, tv_9_116, dX9_keep_6, xx_ifne, rb_jp, Int.cast_ofNat_Int, Int.reduceAdd, Int.reduceLE, Int.reduceToNat, Int.reduceNeg, dX9_keep_9, xx_ldc, zz_I, zz_S, ti_9_125, dX9_keep_11, xx_iret, xx_zret0, xx_zret1, dX9_keep_12, dX9_keep_13, xx_istoren2, zz_invi, zz_invr, zz_invz, zz_invn, zz_invl, dX9_keep_14, xx_iloadn2, dX9_keep_15, xx_sipush, ks_2911, dX9_keep_18, xx_icge, dX9_keep_21, xx_aloadn0, xx_aloadn0N, dX9_keep_22, xx_getf, zz_f, zz_g, zz_v, List.getElem?_cons_zero, List.getElem?_cons_succ, tf_9_13, dX9_keep_25, dX9_keep_28, dX9_keep_29, xx_imul, dX9_keep_30, dX9_keep_31, xx_iadd, dX9_keep_32, dX9_keep_33, tf_9_7, dX9_keep_36, dX9_keep_37, xx_iald, zz_yi, zz_yx, dX9_keep_38, xx_iast, zz_wi, dX9_keep_39, xx_iinc2, dX9_keep_42, xx_goto, dX9_keep_45, dX9_keep_46, tf_9_16, dX9_keep_49, dX9_keep_50, dX9_keep_51, dX9_keep_52, dX9_keep_53, dX9_keep_56, xx_bipush, kb_54, dX9_keep_58, dX9_keep_59, p_in, i1, one0, ne_eq, not_false_eq_true, Nat.reduceEqDiff]
  have e := l_mkeep (d := d + 1) (kp := kp) hq hM hS hI 2911 0 (by omega)
  rw [e0, wr_id hP] at e
  exact e
theorem l_mback {q : Nat} (hq : q ≤ 1) (hM : σ.1 102 = some (mo ih lt ra tl fa ds)) (hP : σ.1 104 = some (.inl (0, 5822, .inl kp))) : ∀ (r i : Nat), i + r = 2911 → rb_lim (rb_stp (rb_R d) rb_m191) (26, [some (.ref 102), some (.int (nI q)), some (.int (nI i))], [], rb_wr σ 103 (.inl (0, 2911, .inl (cpyN (fun t => kp (2911 * q + t)) st i)))) = some (some (.int (kp (2911 * q + 54))), rb_wr σ 103 (.inl (0, 2911, .inl (cpyN (fun t => kp (2911 * q + t)) st 2911)))) := by
  have wM : ∀ g, (rb_wr σ 103 (.inl (0, 2911, .inl g))).1 102 = some (mo ih lt ra tl fa ds) := fun g => (wr_ne (by omega)).trans hM
  have wP : ∀ g, (rb_wr σ 103 (.inl (0, 2911, .inl g))).1 104 = some (.inl (0, 5822, .inl kp)) := fun g => (wr_ne (by omega)).trans hP
  have us := cpyN_s (fun t => kp (2911 * q + t)) st
  intro r
  induction r with
  | zero =>
    intro i hi
    have hi' : i = 2911 := by omega
    subst hi'
    have g1 : (2911 : Int32) ≤ nI 2911 := by decide
    have c54 : cpyN (fun t => kp (2911 * q + t)) st 2911 54 = kp (2911 * q + 54) := cpyN_at (by omega)
    rw [rb_ls 26 9999 60]
    simp only [rb_gs_eq, rb_cs_go, rb_cs_end, rb_cs_ite, Nat.reduceAdd, Nat.zero_add, wr_at, wr_wr, true_and, and_true, and_self, true_or, or_true, false_or, or_false, ↓reduceIte, Nat.reduceLT, Nat.reduceLeDiff, Nat.reduceEqDiff, lg_cmp_ge, lg_cmp_le, lg_cmp_gt, lg_cmp_lt, lg_cmp_eq, Bool.false_eq_true, reduceCtorEq, mg_i, mg_l, decide_true, beq_self_eq_true, Nat.reduceBEq, st_191, dX9_back_0, xx_iloadn1, dX9_back_1, xx_iconst, kc_0, dX9_back_2, kc_1, dX9_back_3, xx_ivS, zz_c0, zz_c3, zz_c1, zz_c2, zz_c5, zz_c8, zz_c6, zz_R, List.length_cons, List.length_nil, List.take_succ_cons, List.take_zero, List.drop_succ_cons, List.drop_zero, List.reverse_cons, List.reverse_nil, List.nil_append, List.cons_append, rb_cat, List.map_cons, List.map_nil, List.sum_cons, List.sum_nil, Value.category, rb_isR, rb_isS, Option.toList_some, Option.toList_none, tv_9_116, dX9_back_6, xx_ifne, rb_jp, Int.cast_ofNat_Int, Int.reduceAdd, Int.reduceLE, Int.reduceToNat, Int.reduceNeg, dX9_back_9, xx_ldc, zz_I, zz_S, ti_9_125, dX9_back_11, xx_iret, xx_zret0, xx_zret1, dX9_back_12, xx_aloadn0, xx_aloadn0N, dX9_back_13, xx_getf, zz_f, zz_g, zz_v, List.getElem?_cons_zero, List.getElem?_cons_succ, tf_9_16, dX9_back_16, dX9_back_17, xx_iald, zz_yi, zz_yx, dX9_back_18, dX9_back_21, ti_9_149, dX9_back_23, dX9_back_24, dX9_back_25, xx_istoren2, zz_invi, zz_invr, zz_invz, zz_invn, zz_invl, dX9_back_26, xx_iloadn2, dX9_back_27, xx_sipush, ks_2911, dX9_back_30, xx_icge, dX9_back_33, dX9_back_34, tf_9_7, dX9_back_37, dX9_back_38, dX9_back_39, tf_9_13, dX9_back_42, dX9_back_45, dX9_back_46, xx_imul, dX9_back_47, dX9_back_48, xx_iadd, dX9_back_49, dX9_back_50, xx_iast, zz_wi, dX9_back_51, xx_iinc2, dX9_back_54, xx_goto, dX9_back_57, dX9_back_58, dX9_back_61, xx_bipush, kb_54, dX9_back_63, dX9_back_64, g1, wM, wP, stl, c54, ne_eq, not_false_eq_true, Nat.reduceEqDiff]
  | succ r ih =>
    intro i hi
    have g1 : ¬ (2911 : Int32) ≤ nI i := by rw [lit_2911]; exact nI_ge (by omega) (by omega)
    have f1 : (2911 : Int32) * nI q + nI i = nI (2911 * q + i) := by rw [lit_2911, nI_mul', nI_add]
    have r1 : rb_in (nI (2911 * q + i)) 5822 = true := by rw [rb_in' (by omega)]; exact decide_eq_true (by omega)
    have k1 : (nI (2911 * q + i)).toNatClampNeg = 2911 * q + i := nI_cl (by omega)
    have r2 : rb_in (nI i) 2911 = true := by rw [rb_in' (by omega)]; exact decide_eq_true (by omega)
    have k2 : (nI i).toNatClampNeg = i := nI_cl (by omega)
    have k3 : nI i + 1 = nI (i + 1) := nI_1 i
    have u1 : upd (cpyN (fun t => kp (2911 * q + t)) st i) i (kp (2911 * q + i)) = cpyN (fun t => kp (2911 * q + t)) st (i + 1) := us i
    rw [rb_ls 26 9999 60]
    simp only [rb_gs_eq, rb_cs_go, rb_cs_end, rb_cs_ite, Nat.reduceAdd, Nat.zero_add, wr_at, wr_wr, true_and, and_true, and_self, true_or, or_true, false_or, or_false, ↓reduceIte, Nat.reduceLT, Nat.reduceLeDiff, Nat.reduceEqDiff, lg_cmp_ge, lg_cmp_le, lg_cmp_gt, lg_cmp_lt, lg_cmp_eq, Bool.false_eq_true, reduceCtorEq, mg_i, mg_l, decide_true, beq_self_eq_true, Nat.reduceBEq, st_191, dX9_back_0, xx_iloadn1, dX9_back_1, xx_iconst, kc_0, dX9_back_2, kc_1, dX9_back_3, xx_ivS, zz_c0, zz_c3, zz_c1, zz_c2, zz_c5, zz_c8, zz_c6, zz_R, List.length_cons, List.length_nil, List.take_succ_cons, List.take_zero, List.drop_succ_cons, List.drop_zero, List.reverse_cons, List.reverse_nil, List.nil_append, List.cons_append, rb_cat, List.map_cons, List.map_nil, List.sum_cons, List.sum_nil, Value.category, rb_isR, rb_isS, Option.toList_some, Option.toList_none, tv_9_116, dX9_back_6, xx_ifne, rb_jp, Int.cast_ofNat_Int, Int.reduceAdd, Int.reduceLE, Int.reduceToNat, Int.reduceNeg, dX9_back_9, xx_ldc, zz_I, zz_S, ti_9_125, dX9_back_11, xx_iret, xx_zret0, xx_zret1, dX9_back_12, xx_aloadn0, xx_aloadn0N, dX9_back_13, xx_getf, zz_f, zz_g, zz_v, List.getElem?_cons_zero, List.getElem?_cons_succ, tf_9_16, dX9_back_16, dX9_back_17, xx_iald, zz_yi, zz_yx, dX9_back_18, dX9_back_21, ti_9_149, dX9_back_23, dX9_back_24, dX9_back_25, xx_istoren2, zz_invi, zz_invr, zz_invz, zz_invn, zz_invl, dX9_back_26, xx_iloadn2, dX9_back_27, xx_sipush, ks_2911, dX9_back_30, xx_icge, dX9_back_33, dX9_back_34, tf_9_7, dX9_back_37, dX9_back_38, dX9_back_39, tf_9_13, dX9_back_42, dX9_back_45, dX9_back_46, xx_imul, dX9_back_47, dX9_back_48, xx_iadd, dX9_back_49, dX9_back_50, xx_iast, zz_wi, dX9_back_51, xx_iinc2, dX9_back_54, xx_goto, dX9_back_57, dX9_back_58, dX9_back_61, xx_bipush, kb_54, dX9_back_63, dX9_back_64, g1, wM, wP, f1, r1, k1, r2, k2, k3, u1, ne_eq, not_false_eq_true, Nat.reduceEqDiff]
    exact ih (i + 1) (by omega)
theorem m_back {q : Nat} (hq : q ≤ 1) (hM : σ.1 102 = some (mo ih lt ra tl fa ds)) (hS : σ.1 103 = some (.inl (0, 2911, .inl st))) (hP : σ.1 104 = some (.inl (0, 5822, .inl kp))) (hI : σ.1 105 = some (.inl (0, 2, .inl ik))) (h1 : ik q = 1) : rb_R (d + 2) 191 [.ref 102, .int (nI q)] σ = some (some (.int (kp (2911 * q + 54))), rb_wr σ 103 (.inl (0, 2911, .inl (cpyN (fun t => kp (2911 * q + t)) st 2911)))) := by
  have one0 : ((1 : Int32) = 0) = False := eq_false (by decide)
  have i1 : (if nI q < 0 then (0 : Int32) else if 1 < nI q then 0 else 1) = 1 := by rw [if_neg (nI_pos (by omega)), if_neg (by rw [lit_1, nI_lt' (by omega) (by omega)]; omega)]
  have q1 : rb_in (nI q) 2 = true := by rw [rb_in' (by omega)]; exact decide_eq_true (by omega)
  have q2 : (nI q).toNatClampNeg = q := nI_cl (by omega)
  have e0 : cpyN (fun t => kp (2911 * q + t)) st 0 = st := by
    funext t
    exact if_neg (by omega)
  rw [en_191 (k := 60) (ls := [some (.ref 102), some (.int (nI q)), none]) rfl, rb_gg, rb_ls 26 9999 60]
  simp only [rb_gs_eq, rb_cs_go, rb_cs_end, rb_cs_ite, Nat.reduceAdd, Nat.zero_add, wr_at, wr_wr, true_and, and_true, and_self, true_or, or_true, false_or, or_false, ↓reduceIte, Nat.reduceLT, Nat.reduceLeDiff, Nat.reduceEqDiff, lg_cmp_ge, lg_cmp_le, lg_cmp_gt, lg_cmp_lt, lg_cmp_eq, Bool.false_eq_true, reduceCtorEq, mg_i, mg_l, decide_true, beq_self_eq_true, Nat.reduceBEq, st_191, dX9_back_0, xx_iloadn1, dX9_back_1, xx_iconst, kc_0, dX9_back_2, kc_1, dX9_back_3, xx_ivS, zz_c0, zz_c3, zz_c1, zz_c2, zz_c5, zz_c8, zz_c6, zz_R, List.length_cons, List.length_nil, List.take_succ_cons, List.take_zero, List.drop_succ_cons, List.drop_zero, List.reverse_cons, List.reverse_nil, List.nil_append, List.cons_append, rb_cat, List.map_cons, List.map_nil, List.sum_cons, List.sum_nil, Value.category, rb_isR, rb_isS, Option.toList_some, Option.toList_none, tv_9_116, dX9_back_6, xx_ifne, rb_jp, Int.cast_ofNat_Int, Int.reduceAdd, Int.reduceLE, Int.reduceToNat, Int.reduceNeg, dX9_back_9, xx_ldc, zz_I, zz_S, ti_9_125, dX9_back_11, xx_iret, xx_zret0, xx_zret1, dX9_back_12, xx_aloadn0, xx_aloadn0N, dX9_back_13, xx_getf, zz_f, zz_g, zz_v, List.getElem?_cons_zero, List.getElem?_cons_succ, tf_9_16, dX9_back_16, dX9_back_17, xx_iald, zz_yi, zz_yx, dX9_back_18, dX9_back_21, ti_9_149, dX9_back_23, dX9_back_24, dX9_back_25, xx_istoren2, zz_invi, zz_invr, zz_invz, zz_invn, zz_invl, dX9_back_26, xx_iloadn2, dX9_back_27, xx_sipush, ks_2911, dX9_back_30, xx_icge, dX9_back_33, dX9_back_34, tf_9_7, dX9_back_37, dX9_back_38, dX9_back_39, tf_9_13, dX9_back_42, dX9_back_45, dX9_back_46, xx_imul, dX9_back_47, dX9_back_48, xx_iadd, dX9_back_49, dX9_back_50, xx_iast, zz_wi, dX9_back_51, xx_iinc2, dX9_back_54, xx_goto, dX9_back_57, dX9_back_58, dX9_back_61, xx_bipush, kb_54, dX9_back_63, dX9_back_64, p_in, i1, one0, hM, hI, q1, q2, h1, ne_eq, not_false_eq_true, Nat.reduceEqDiff]
  have e := l_mback (d := d + 1) (st := st) hq hM hP 2911 0 (by omega)
  rw [e0, wr_id hS] at e
  exact e
theorem m_backN {q : Nat} (hq : q ≤ 1) (hM : σ.1 102 = some (mo ih lt ra tl fa ds)) (hI : σ.1 105 = some (.inl (0, 2, .inl ik))) (h1 : ik q = 0) : rb_R (d + 2) 191 [.ref 102, .int (nI q)] σ = some (some (.int (-1000000004)), σ) := by
  have one0 : ((1 : Int32) = 0) = False := eq_false (by decide)
  have i1 : (if nI q < 0 then (0 : Int32) else if 1 < nI q then 0 else 1) = 1 := by rw [if_neg (nI_pos (by omega)), if_neg (by rw [lit_1, nI_lt' (by omega) (by omega)]; omega)]
  have q1 : rb_in (nI q) 2 = true := by rw [rb_in' (by omega)]; exact decide_eq_true (by omega)
  have q2 : (nI q).toNatClampNeg = q := nI_cl (by omega)
  rw [en_191 (k := 60) (ls := [some (.ref 102), some (.int (nI q)), none]) rfl]
  simp only [rb_gg_eq, rb_ct_go, rb_ct_end, rb_ct_ite, Nat.reduceAdd, Nat.zero_add, wr_at, wr_wr, true_and, and_true, and_self, true_or, or_true, false_or, or_false, ↓reduceIte, Nat.reduceLT, Nat.reduceLeDiff, Nat.reduceEqDiff, lg_cmp_ge, lg_cmp_le, lg_cmp_gt, lg_cmp_lt, lg_cmp_eq, Bool.false_eq_true, reduceCtorEq, mg_i, mg_l, decide_true, beq_self_eq_true, Nat.reduceBEq, st_191, dX9_back_0, xx_iloadn1, dX9_back_1, xx_iconst, kc_0, dX9_back_2, kc_1, dX9_back_3, xx_ivS, zz_c0, zz_c3, zz_c1, zz_c2, zz_c5, zz_c8, zz_c6, zz_R, List.length_cons, List.length_nil, List.take_succ_cons, List.take_zero, List.drop_succ_cons, List.drop_zero, List.reverse_cons, List.reverse_nil, List.nil_append, List.cons_append, rb_cat, List.map_cons, List.map_nil, List.sum_cons, List.sum_nil, Value.category, rb_isR, rb_isS, Option.toList_some, Option.toList_none, tv_9_116, dX9_back_6, xx_ifne, rb_jp, Int.cast_ofNat_Int, Int.reduceAdd, Int.reduceLE, Int.reduceToNat, Int.reduceNeg, dX9_back_9, xx_ldc, zz_I, zz_S, ti_9_125, dX9_back_11, xx_iret, xx_zret0, xx_zret1, dX9_back_12, xx_aloadn0, xx_aloadn0N, dX9_back_13, xx_getf, zz_f, zz_g, zz_v, List.getElem?_cons_zero, List.getElem?_cons_succ, tf_9_16, dX9_back_16, dX9_back_17, xx_iald, zz_yi, zz_yx, dX9_back_18, dX9_back_21, ti_9_149, dX9_back_23, dX9_back_24, dX9_back_25, xx_istoren2, zz_invi, zz_invr, zz_invz, zz_invn, zz_invl, dX9_back_26, xx_iloadn2, dX9_back_27, xx_sipush, ks_2911, dX9_back_30, xx_icge, dX9_back_33, dX9_back_34, tf_9_7, dX9_back_37, dX9_back_38, dX9_back_39, tf_9_13, dX9_back_42, dX9_back_45, dX9_back_46, xx_imul, dX9_back_47, dX9_back_48, xx_iadd, dX9_back_49, dX9_back_50, xx_iast, zz_wi, dX9_back_51, xx_iinc2, dX9_back_54, xx_goto, dX9_back_57, dX9_back_58, dX9_back_61, xx_bipush, kb_54, dX9_back_63, dX9_back_64, p_in, i1, one0, hM, hI, q1, q2, h1]
end
