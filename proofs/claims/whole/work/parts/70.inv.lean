/-! ===== the class and the model side by side ===== -/
abbrev sK : Type := Nat → Option (sP × Int32)
def nk (K : sK) : Nat := (match K 0 with | none => 0 | some _ => 1) + (match K 1 with | none => 0 | some _ => 1)
def CI (τ : rb_S) (tn : Nat) (tg : Nat → Int32) (hn : Nat) (hg : Nat → Int32) (P : sP) (l : Int32) (K : sK) (kf : Nat → Option Nat) : Prop := CB τ tn tg hn hg kf ∧ StAt τ 85 P l ∧ (∃ Z : Nat → sI, ∀ k, spK k → τ.1 k = some (sp (Z k).1 (Z k).2)) ∧ (∀ k, k < 2 → (K k = none ∧ kf k = none) ∨ ∃ (B : Nat) (Q : sP) (m : Int32), K k = some (Q, m) ∧ kf k = some B ∧ StAt τ B Q m ∧ 114 ≤ B ∧ B + 14 ≤ τ.2.1) ∧ (∀ B0 B1, kf 0 = some B0 → kf 1 = some B1 → B0 + 14 ≤ B1 ∨ B1 + 14 ≤ B0) ∧ (tn ≤ 200 ∧ ∀ k, k < tn → ¬ tg k < 0) ∧ hn ≤ 1 ∧ 114 ≤ τ.2.1 ∧ τ.2.1 ≤ 114 + 14 * nk K ∧ τ.2.2 ≤ 20000 + 3000 * nk K
def MB (τ : rb_S) (ih lt ra tl fa ds : Int32) (st kp ik hd tx : Nat → Int32) : Prop := τ.1 102 = some (mo ih lt ra tl fa ds) ∧ τ.1 103 = some (.inl (0, 2911, .inl st)) ∧ τ.1 104 = some (.inl (0, 5822, .inl kp)) ∧ τ.1 105 = some (.inl (0, 2, .inl ik)) ∧ τ.1 106 = some (.inl (0, 4, .inl hd)) ∧ τ.1 113 = some (.inl (0, 200, .inl tx)) ∧ ∃ (W : Nat → Nat → sI) (bx : Nat → Int32), (∀ a, isL a → τ.1 a = some (.inl (1, mlen a, .inr (.inl (un (W a)))))) ∧ τ.1 111 = some (.inl (0, 4, .inl bx))
def RK (K : sK) (ik kp : Nat → Int32) : Prop := ∀ k, k < 2 → (K k = none ∧ ik k = 0) ∨ ∃ (Q : sP) (m : Int32), K k = some (Q, m) ∧ ik k = 1 ∧ RS Q m (fun i => kp (2911 * k + i))
def RH (hn : Nat) (hg hd : Nat → Int32) : Prop := hn = 1 → okB hg ∧ ∀ j, j < 4 → hd j = hg j
def Inv (L : Nat) (xs : Nat → Int32) (τ : rb_S) : Prop := ∃ (tn : Nat) (tg : Nat → Int32) (hn : Nat) (hg : Nat → Int32) (P : sP) (l : Int32) (K : sK) (kf : Nat → Option Nat) (ra tl fa ds : Int32) (st kp ik hd : Nat → Int32), CI τ tn tg hn hg P l K kf ∧ MB τ (nI hn) (nI tn) ra tl fa ds st kp ik hd tg ∧ RS P l st ∧ RK K ik kp ∧ RH hn hg hd ∧ τ.1 0 = some (.inl (9, L, .inl xs))
theorem CI_fr {τ τ' : rb_S} {tn : Nat} {tg : Nat → Int32} {hn : Nat} {hg : Nat → Int32} {P : sP} {l : Int32} {K : sK} {kf : Nat → Option Nat} (h : CI τ tn tg hn hg P l K kf) (hf : ∀ k, (k < 102 ∨ 113 < k) → τ'.1 k = τ.1 k) (h2 : τ'.2 = τ.2) : CI τ' tn tg hn hg P l K kf := by
  obtain ⟨⟨⟨j1, ⟨c1, c2, gf, c3, c4⟩, ⟨d1, d2, gf2, d3, d4⟩⟩, b6, b7, b8, ⟨kd, nb, c, t, s, e, b9, b10, b11⟩, b99, b100, b101⟩, hS, ⟨Z, hZ⟩, hK, hD, r1, r2, r3, r4, r5⟩ := h
  refine ⟨⟨⟨?_, ⟨c1, ?_, gf, ?_, c4⟩, ⟨d1, ?_, gf2, ?_, d4⟩⟩, ?_, ?_, ?_, ⟨kd, nb, c, t, s, e, ?_, ?_, ?_⟩, ?_, ?_, ?_⟩, fun o ho => ?_, ⟨Z, fun k hk => ?_⟩, fun k hk => ?_, hD, r1, r2, by rw [h2]; exact r3, by rw [h2]; exact r4, by rw [h2]; exact r5⟩
  · rw [hf 12 (by omega)]; exact j1
  · rw [hf 15 (by omega)]; exact c2
  · rw [hf 16 (by omega)]; exact c3
  · rw [hf 44 (by omega)]; exact d2
  · rw [hf 45 (by omega)]; exact d3
  · rw [hf 6 (by omega)]; exact b6
  · rw [hf 7 (by omega)]; exact b7
  · rw [hf 8 (by omega)]; exact b8
  · rw [hf 9 (by omega)]; exact b9
  · rw [hf 10 (by omega)]; exact b10
  · rw [hf 11 (by omega)]; exact b11
  · rw [hf 99 (by omega)]; exact b99
  · rw [hf 100 (by omega)]; exact b100
  · rw [hf 101 (by omega)]; exact b101
  · rw [hf (85 + o) (by omega)]; exact hS o ho
  · rw [hf k (by omega)]; exact hZ k hk
  · rcases hK k hk with hh | ⟨B, Q, m, q1, q2, q3, q4, q5⟩
    · exact Or.inl hh
    · exact Or.inr ⟨B, Q, m, q1, q2, fun o ho => by rw [hf (B + o) (by omega)]; exact q3 o ho, q4, by rw [h2]; exact q5⟩
theorem MB_fr {τ τ' : rb_S} {ih lt ra tl fa ds : Int32} {st kp ik hd tx : Nat → Int32} (h : MB τ ih lt ra tl fa ds st kp ik hd tx) (hf : ∀ k, 102 ≤ k → k ≤ 113 → τ'.1 k = τ.1 k) : MB τ' ih lt ra tl fa ds st kp ik hd tx := by
  obtain ⟨a1, a2, a3, a4, a5, a6, W, bx, a7, a8⟩ := h
  refine ⟨?_, ?_, ?_, ?_, ?_, ?_, W, bx, fun a ha => ?_, ?_⟩
  · rw [hf 102 (by omega) (by omega)]; exact a1
  · rw [hf 103 (by omega) (by omega)]; exact a2
  · rw [hf 104 (by omega) (by omega)]; exact a3
  · rw [hf 105 (by omega) (by omega)]; exact a4
  · rw [hf 106 (by omega) (by omega)]; exact a5
  · rw [hf 113 (by omega) (by omega)]; exact a6
  · rw [hf a (by omega) (by omega)]; exact a7 a ha
  · rw [hf 111 (by omega) (by omega)]; exact a8
theorem nw_self {τ : rb_S} {P : sP} {l : Int32} {Z : Nat → sI} (h : StAt τ 85 P l) (hZ : ∀ k, spK k → τ.1 k = some (sp (Z k).1 (Z k).2)) : nw τ P l Z = τ := by
  unfold nw
  rw [so_self h]
  refine Prod.ext ?_ rfl
  funext k
  by_cases hk : spK k
  · rw [js_at hk, hZ k hk]
  · rw [js_no hk]
theorem ml_self {τ : rb_S} {W : Nat → Nat → sI} {bx : Nat → Int32} (hW : ∀ a, isL a → τ.1 a = some (.inl (1, mlen a, .inr (.inl (un (W a)))))) (hb : τ.1 111 = some (.inl (0, 4, .inl bx))) : ml τ W bx = τ := by
  refine Prod.ext ?_ rfl
  funext k
  by_cases hk : k = 111
  · rw [hk, ml_111, hb]
  · by_cases hk2 : 107 ≤ k ∧ k ≤ 112
    · rw [ml_at ⟨hk2.1, hk2.2, hk⟩, hW k ⟨hk2.1, hk2.2, hk⟩]
    · rw [ml_no (by omega)]
theorem CI_nw {τ : rb_S} {tn : Nat} {tg : Nat → Int32} {hn : Nat} {hg : Nat → Int32} {P P' : sP} {l l' : Int32} {K : sK} {kf : Nat → Option Nat} {Z' : Nat → sI} (h : CI τ tn tg hn hg P l K kf) : CI (nw τ P' l' Z') tn tg hn hg P' l' K kf := by
  obtain ⟨⟨⟨j1, ⟨c1, c2, gf, c3, c4⟩, ⟨d1, d2, gf2, d3, d4⟩⟩, b6, b7, b8, ⟨kd, nb, c, t, s, e, b9, b10, b11⟩, b99, b100, b101⟩, hS, ⟨Z, hZ⟩, hK, hD, r1, r2, r3, r4, r5⟩ := h
  refine ⟨⟨⟨?_, ⟨c1, ?_, gf, ?_, c4⟩, ⟨d1, ?_, gf2, ?_, d4⟩⟩, ?_, ?_, ?_, ⟨kd, nb, c, t, s, e, ?_, ?_, ?_⟩, ?_, ?_, ?_⟩, fun o ho => ?_, ⟨Z', fun k hk => nw_sp hk⟩, fun k hk => ?_, hD, r1, r2, r3, r4, r5⟩
  · rw [nw_no (by omega)]; exact j1
  · rw [nw_no (by omega)]; exact c2
  · rw [nw_no (by omega)]; exact c3
  · rw [nw_no (by omega)]; exact d2
  · rw [nw_no (by omega)]; exact d3
  · rw [nw_no (by omega)]; exact b6
  · rw [nw_no (by omega)]; exact b7
  · rw [nw_no (by omega)]; exact b8
  · rw [nw_no (by omega)]; exact b9
  · rw [nw_no (by omega)]; exact b10
  · rw [nw_no (by omega)]; exact b11
  · rw [nw_no (by omega)]; exact b99
  · rw [nw_no (by omega)]; exact b100
  · rw [nw_no (by omega)]; exact b101
  · unfold nw
    rw [js_no (by omega), so_at ho]
  · rcases hK k hk with hh | ⟨B, Q, m, q1, q2, q3, q4, q5⟩
    · exact Or.inl hh
    · exact Or.inr ⟨B, Q, m, q1, q2, fun o ho => by rw [nw_no (by omega)]; exact q3 o ho, q4, q5⟩
/-- class and model answer alike, and stay side by side -/
def SimOK (cm mm : Nat) (args : List Value) (L : Nat) (xs : Nat → Int32) (τ : rb_S) : Prop := ∃ (r : Int32) (τ1 τ2 : rb_S), rb_R 11 cm (.ref 6 :: args) τ = some (some (.int r), τ1) ∧ rb_R 11 mm (.ref 102 :: args) τ1 = some (some (.int r), τ2) ∧ rb_isR τ 8 (.ref 6 :: args) = true ∧ rb_isR τ1 9 (.ref 102 :: args) = true ∧ τ1.1 0 = τ.1 0 ∧ Inv L xs τ2
theorem sim_st {cm mm : Nat} {args : List Value} {L : Nat} {xs : Nat → Int32} {τ : rb_S} (I : Inv L xs τ)
    (H : ∀ (tn : Nat) (tg : Nat → Int32) (hn : Nat) (hg : Nat → Int32) (P : sP) (l : Int32) (kf : Nat → Option Nat) (Z : Nat → sI) (ra tl fa ds : Int32) (st hd : Nat → Int32), CB τ tn tg hn hg kf → RS P l st → tn ≤ 200 → hn ≤ 1 → RH hn hg hd →
      ∃ (r : Int32) (P' : sP) (l' : Int32) (Z' : Nat → sI) (st' : Nat → Int32), rb_R 11 cm (.ref 6 :: args) (nw τ P l Z) = some (some (.int r), nw τ P' l' Z') ∧ RS P' l' st' ∧
        ∀ (σ : rb_S) (W : Nat → Nat → sI) (bx : Nat → Int32), σ.1 102 = some (mo (nI hn) (nI tn) ra tl fa ds) → σ.1 103 = some (.inl (0, 2911, .inl st)) → σ.1 106 = some (.inl (0, 4, .inl hd)) → ∃ (W' : Nat → Nat → sI) (bx' : Nat → Int32), rb_R 11 mm (.ref 102 :: args) (ml σ W bx) = some (some (.int r), ml (rb_wr σ 103 (.inl (0, 2911, .inl st'))) W' bx')) : SimOK cm mm args L xs τ := by
  obtain ⟨tn, tg, hn, hg, P, l, K, kf, ra, tl, fa, ds, st, kp, ik, hd, hC, hM, hR, hK, hH, h0⟩ := I
  obtain ⟨Z, hZ⟩ := hC.2.2.1
  have hτ : nw τ P l Z = τ := nw_self hC.2.1 hZ
  obtain ⟨r, P', l', Z', st', e1, hR', H2⟩ := H tn tg hn hg P l kf Z ra tl fa ds st hd hC.1 hR hC.2.2.2.2.2.1.1 hC.2.2.2.2.2.2.1 hH
  rw [hτ] at e1
  have hC1 : CI (nw τ P' l' Z') tn tg hn hg P' l' K kf := CI_nw hC
  have hM1 : MB (nw τ P' l' Z') (nI hn) (nI tn) ra tl fa ds st kp ik hd tg := MB_fr hM (fun k h1 h2 => nw_no (by omega))
  obtain ⟨a1, a2, a3, a4, a5, a6, W, bx, a7, a8⟩ := id hM1
  obtain ⟨W', bx', e2⟩ := H2 (nw τ P' l' Z') W bx a1 a2 a5
  rw [ml_self a7 a8] at e2
  refine ⟨r, _, _, e1, e2, isR_of hC.1.2.1, isR_of a1, nw_no (by omega), tn, tg, hn, hg, P', l', K, kf, ra, tl, fa, ds, st', kp, ik, hd, ?_, ?_, hR', hK, hH, ?_⟩
  · refine CI_fr hC1 (fun k hk => ?_) rfl
    rw [ml_no (by omega), wr_ne (by omega)]
  · refine ⟨?_, ?_, ?_, ?_, ?_, ?_, W', bx', fun a ha => ml_at ha, ml_111⟩
    · rw [ml_no (by omega), wr_ne (by omega)]; exact a1
    · rw [ml_no (by omega), wr_at]
    · rw [ml_no (by omega), wr_ne (by omega)]; exact a3
    · rw [ml_no (by omega), wr_ne (by omega)]; exact a4
    · rw [ml_no (by omega), wr_ne (by omega)]; exact a5
    · rw [ml_no (by omega), wr_ne (by omega)]; exact a6
  · rw [ml_no (by omega), wr_ne (by omega), nw_no (by omega)]; exact h0
theorem sim_ro {cm mm : Nat} {args : List Value} {L : Nat} {xs : Nat → Int32} {τ : rb_S} (I : Inv L xs τ)
    (H : ∀ (tn : Nat) (tg : Nat → Int32) (hn : Nat) (hg : Nat → Int32) (P : sP) (l : Int32) (kf : Nat → Option Nat) (Z : Nat → sI) (ra tl fa ds : Int32) (st hd : Nat → Int32), CB τ tn tg hn hg kf → RS P l st → tn ≤ 200 → hn ≤ 1 → RH hn hg hd →
      ∃ (r : Int32) (Z' : Nat → sI), rb_R 11 cm (.ref 6 :: args) (nw τ P l Z) = some (some (.int r), nw τ P l Z') ∧
        ∀ (σ : rb_S) (W : Nat → Nat → sI) (bx : Nat → Int32), σ.1 102 = some (mo (nI hn) (nI tn) ra tl fa ds) → σ.1 103 = some (.inl (0, 2911, .inl st)) → σ.1 106 = some (.inl (0, 4, .inl hd)) → ∃ (W' : Nat → Nat → sI) (bx' : Nat → Int32), rb_R 11 mm (.ref 102 :: args) (ml σ W bx) = some (some (.int r), ml σ W' bx')) : SimOK cm mm args L xs τ := by
  refine sim_st I ?_
  intro tn tg hn hg P l kf Z ra tl fa ds st hd hC hR h1 h2 h3
  obtain ⟨r, Z', e1, H2⟩ := H tn tg hn hg P l kf Z ra tl fa ds st hd hC hR h1 h2 h3
  refine ⟨r, P, l, Z', st, e1, hR, fun σ W bx b1 b2 b3 => ?_⟩
  obtain ⟨W', bx', e2⟩ := H2 σ W bx b1 b2 b3
  exact ⟨W', bx', by rw [wr_id b2]; exact e2⟩
