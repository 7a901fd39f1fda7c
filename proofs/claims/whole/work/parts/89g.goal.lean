/-! ===== the start; the claim of the small machine ===== -/
theorem RS_0 : RS (fun _ _ => 0, fun _ => 0) 4 (upd (fun _ => 0) 50 4) := by
  have z : ∀ t, t ≠ 50 → upd (fun _ => (0 : Int32)) 50 4 t = 0 := fun t h50 => pk_un h50
  have zc : cb (fun _ => (0 : Int32)) := fun k _ => ⟨show (-20 : Int) ≤ (0 : Int32).toInt by decide, show (0 : Int32).toInt ≤ 20 by decide⟩
  exact ⟨⟨Nat.zero_le _, Nat.zero_le _, Nat.zero_le _, Nat.zero_le _⟩, ⟨zc, zc, fun k hk => ⟨z k (by omega), z (25 + k) (by omega)⟩⟩, pk_us, ⟨z 51 (by omega), fun k hk => absurd hk (Nat.not_lt_zero k), fun k hk => absurd hk (Nat.not_lt_zero k)⟩, ⟨z 52 (by omega), fun k hk => absurd hk (Nat.not_lt_zero k), fun k hk => absurd hk (Nat.not_lt_zero k), fun k k' hk => absurd hk (Nat.not_lt_zero k), fun i hi => absurd hi (Nat.not_lt_zero _)⟩, ⟨z 53 (by omega), fun k hk => absurd hk (Nat.not_lt_zero k)⟩, ⟨z 54 (by omega), fun k hk => absurd hk (Nat.not_lt_zero k), fun k hk => absurd hk (Nat.not_lt_zero k)⟩⟩
theorem lw_start (L : Nat) (xs : Nat → Int32) : ∃ τ, rb_lim (rb_stp (rb_R 11) rb_law) (0, [some (.ref 0), none, none, none], [], rb_s0 L xs) = rb_lim (rb_stp (rb_R 11) rb_law) (18, [some (.ref 0), some (.ref 6), some (.ref 102), some (.int (nI 0))], [], τ) ∧ Inv L xs τ := by
  obtain ⟨τA, hτA⟩ : ∃ x, x = rb_mk (rb_s0 L xs) (.inr (8, [.null, .null, .null, .null, .null, .null])) 6 := ⟨_, rfl⟩
  have A6 : τA.1 6 = some (.inr (8, [.null, .null, .null, .null, .null, .null])) := by rw [hτA]; exact mk_at rfl
  have A21 : τA.2.1 = 7 := by rw [hτA]; rfl
  have A22 : τA.2.2 = 6 := by rw [hτA]; rfl
  have A0 : τA.1 0 = some (.inl (9, L, .inl xs)) := by rw [hτA]; rfl
  obtain ⟨τ1, e1, hCB, hS, hsp, hfr, n1, s1⟩ := i_boxes (d := 7) A21 A6
  obtain ⟨τB, hτB⟩ : ∃ x, x = rb_mk τ1 (.inr (9, [.null, .null, .null, .null, .int 0, .null, .null, .null, .null, .null, .null, .null, .int 0, .int 0, .int 0, .int 0, .int 0])) 17 := ⟨_, rfl⟩
  have B102 : τB.1 102 = some (.inr (9, [.null, .null, .null, .null, .int 0, .null, .null, .null, .null, .null, .null, .null, .int 0, .int 0, .int 0, .int 0, .int 0])) := by rw [hτB]; exact mk_at n1.symm
  have B21 : τB.2.1 = 103 := by rw [hτB, mk_2, n1]
  have B22 : τB.2.2 = τ1.2.2 + 17 := by rw [hτB, mk_22]
  have Bo : ∀ k, k < 102 → τB.1 k = τ1.1 k := fun k hk => by rw [hτB]; exact mk_ne (by omega)
  obtain ⟨τ2, e2, m102, m103, m104, m105, m106, m107, m108, m109, m110, m111, m112, m113, mfr, n2, s2⟩ := i_model (d := 10) B21 B102
  have fo : ∀ k, k < 102 → τ2.1 k = τ1.1 k := fun k hk => (mfr k hk).trans (Bo k hk)
  have hmkA : rb_mk (rb_s0 L xs) (.inr (8, [.null, .null, .null, .null, .null, .null])) 6 = τA := hτA.symm
  have hmkB : rb_mk τ1 (.inr (9, [.null, .null, .null, .null, .int 0, .null, .null, .null, .null, .null, .null, .null, .int 0, .int 0, .int 0, .int 0, .int 0])) 17 = τB := hτB.symm
  have s21 : (rb_s0 L xs).2.1 = 6 := rfl
  refine ⟨τ2, ?_, ?_⟩
  · rw [rb_ls 18 9999 60]
    simp only [rb_gs_eq, rb_cs_go, rb_cs_end, rb_cs_ite, Nat.reduceAdd, Nat.zero_add, wr_at, wr_wr, true_and, and_true, and_self, true_or, or_true, false_or, or_false, ↓reduceIte, Nat.reduceLT, Nat.reduceLeDiff, Nat.reduceEqDiff, lg_cmp_ge, lg_cmp_le, lg_cmp_gt, lg_cmp_lt, lg_cmp_eq, Bool.false_eq_true, reduceCtorEq, mg_i, mg_l, decide_true, beq_self_eq_true, Nat.reduceBEq, st_law, dL_law_0, xx_new, zz_un, tn_10_7, dL_law_3, xx_dupi, xx_dupr, xx_dupz, dL_law_4, xx_ivP, zz_c0, zz_c3, zz_c1, zz_c2, zz_c5, zz_c8, zz_c6, zz_R, List.length_cons, List.length_nil, List.take_succ_cons, List.take_zero, List.drop_succ_cons, List.drop_zero, List.reverse_cons, List.reverse_nil, List.nil_append, List.cons_append, rb_cat, List.map_cons, List.map_nil, List.sum_cons, List.sum_nil, Value.category, rb_isR, rb_isS, Option.toList_some, Option.toList_none, tv_10_9, dL_law_7, xx_astoren1, zz_invi, zz_invr, zz_invz, zz_invn, zz_invl, dL_law_8, tn_10_10, dL_law_11, dL_law_12, tv_10_12, dL_law_15, xx_astoren2, dL_law_16, xx_iconst, kc_0, dL_law_17, xx_istoren3, df_8, df_9, s21, hmkA, A6, e1, n1, hmkB, B102, e2, ne_eq, not_false_eq_true, Nat.reduceEqDiff]
    rfl
  · obtain ⟨⟨j1, ⟨c1, c2, gf, c3, c4⟩, ⟨d1, d2, gf2, d3, d4⟩⟩, b6, b7, b8, ⟨kd, nb, c, t, s, e, b9, b10, b11⟩, b99, b100, b101⟩ := hCB
    refine ⟨0, fun _ => 0, 0, fun _ => 0, (fun _ _ => 0, fun _ => 0), 4, fun _ => none, fun _ => none, 0, 0, 0, 0, upd (fun _ => 0) 50 4, fun _ => 0, fun _ => 0, fun _ => 0, ?_, ?_, RS_0, ?_, ?_, ?_⟩
    · refine ⟨⟨⟨?_, ⟨c1, ?_, gf, ?_, c4⟩, ⟨d1, ?_, gf2, ?_, d4⟩⟩, ?_, ?_, ?_, ⟨kd, nb, c, t, s, e, ?_, ?_, ?_⟩, ?_, ?_, ?_⟩, fun o ho => ?_, ⟨fun _ => (0, 0), fun k hk => ?_⟩, fun k _ => Or.inl ⟨rfl, rfl⟩, fun B0 B1 h => (by cases h), ⟨by omega, fun k hk => absurd hk (Nat.not_lt_zero k)⟩, by omega, ?_, ?_, ?_⟩
      · rw [fo 12 (by omega)]; exact j1
      · rw [fo 15 (by omega)]; exact c2
      · rw [fo 16 (by omega)]; exact c3
      · rw [fo 44 (by omega)]; exact d2
      · rw [fo 45 (by omega)]; exact d3
      · rw [fo 6 (by omega)]; exact b6
      · rw [fo 7 (by omega)]; exact b7
      · rw [fo 8 (by omega)]; exact b8
      · rw [fo 9 (by omega)]; exact b9
      · rw [fo 10 (by omega)]; exact b10
      · rw [fo 11 (by omega)]; exact b11
      · rw [fo 99 (by omega)]; exact b99
      · rw [fo 100 (by omega)]; exact b100
      · rw [fo 101 (by omega)]; exact b101
      · rw [fo (85 + o) (by omega)]; exact hS o ho
      · rw [fo k (by omega)]; exact hsp k hk
      · rw [n2]; omega
      · rw [n2]; show 114 ≤ 114 + 14 * 0; omega
      · rw [s2, B22, s1, A22]; show _ ≤ 20000 + 3000 * 0; omega
    · refine ⟨m102, m103, m104, m105, m106, m113, fun _ _ => (0, 0), fun _ => 0, fun a ha => ?_, m111⟩
      have hz : un ((fun _ _ => (0, 0) : Nat → Nat → sI) a) = fun _ => 0 := by
        funext j
        unfold un
        simp
      rw [hz]
      have hc : a = 107 ∨ a = 108 ∨ a = 109 ∨ a = 110 ∨ a = 112 := by
        obtain ⟨q1, q2, q3⟩ := ha
        omega
      rcases hc with rfl | rfl | rfl | rfl | rfl
      · exact m107
      · exact m108
      · exact m109
      · exact m110
      · exact m112
    · exact fun k _ => Or.inl ⟨rfl, rfl⟩
    · exact fun h => absurd h (by omega)
    · rw [fo 0 (by omega), hfr 0 (by omega)]; exact A0
theorem rb_goal : rb_Goal := by
  intro L xs hL
  obtain ⟨τ, e1, I⟩ := lw_start L xs
  obtain ⟨σ', e2, I2⟩ := lw_loop hL 600 0 τ (by omega) (by omega) I
  exact ⟨σ', e1.trans e2, Inv_room I2⟩
