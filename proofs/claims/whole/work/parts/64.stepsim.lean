/-! ===== a step leaves both alike ===== -/
theorem pick_congr {t t' : Nat → Nat → Bool} {n : Nat} (h : ∀ k b, k < n → b < n → t k b = t' k b) : ∀ (r k b : Nat), k + r ≤ n → b < n → pick t r k b = pick t' r k b := by
  intro r
  induction r with
  | zero => intro k b _ _; rfl
  | succ r ih =>
    intro k b hk hb
    rw [pick, pick, h k b (by omega) hb]
    refine ih (k + 1) _ (by omega) ?_
    split
    · omega
    · exact hb
theorem gw_eq {g st : Nat → Int32} {k a : Nat} (h : ∀ j, j < 4 → st (a + j) = g (4 * k + j)) : gw st a = gwid g k := by
  have h0 := h 0 (by omega)
  simp only [Nat.add_zero] at h0
  unfold gw gwid
  rw [h0, h 1 (by omega), h 2 (by omega), h 3 (by omega)]
theorem bet_eq {g st : Nat → Int32} {k b : Nat} (hk : ∀ j, j < 4 → st (55 + 4 * k + j) = g (4 * k + j)) (hb : ∀ j, j < 4 → st (55 + 4 * b + j) = g (4 * b + j)) : bet g k b = mbet st k b := by
  unfold bet mbet
  rw [gw_eq hk, gw_eq hb]
  have e : aI st (55 + 4 * k) (55 + 4 * b) = aI g (4 * k) (4 * b) := aI_congr hk hb
  rw [e]
  split
  · rfl
  · split
    · by_cases c : aI g (4 * k) (4 * b) = 0
      · rw [if_pos c, if_pos (bcmp_aI.mpr c)]
      · rw [if_neg c, if_neg (fun h => c (bcmp_aI.mp h))]
    · rfl
section
variable {c c' cf cg cf' cg' : Nat → Int32} {X Y : sI}
theorem pV_congr (h : ∀ k, k < 25 → c k = c' k) : pV c X Y = pV c' X Y := by
  refine out2_congr (fun i j s hij => ?_) 5 0 _ (by omega)
  unfold gV
  rw [h _ (by omega)]
theorem pS_congr {b : Bool} (h : ∀ k, k < 25 → c k = c' k) : pS b c X Y = pS b c' X Y := by
  refine out2_congr (fun i j s hij => ?_) 4 0 _ (by omega)
  unfold gS
  rw [h (5 * (i + 1) + j) (by omega), h (5 * i + (j + 1)) (by omega)]
theorem fD_congr (hf : ∀ k, k < 25 → cf k = cf' k) (hg : ∀ k, k < 25 → cg k = cg' k) : fD cf cg X Y = fD cf' cg' X Y := by
  unfold fD
  rw [pS_congr hf, pS_congr hf, pS_congr hg, pS_congr hg]
theorem fFX_congr (hf : ∀ k, k < 25 → cf k = cf' k) (hg : ∀ k, k < 25 → cg k = cg' k) : fFX cf cg X Y = fFX cf' cg' X Y := by
  unfold fFX
  rw [fD_congr hf hg, pS_congr hf, pS_congr hg, pV_congr hf, pV_congr hg]
theorem fFY_congr (hf : ∀ k, k < 25 → cf k = cf' k) (hg : ∀ k, k < 25 → cg k = cg' k) : fFY cf cg X Y = fFY cf' cg' X Y := by
  unfold fFY
  rw [fD_congr hf hg, pS_congr hf, pS_congr hg, pV_congr hf, pV_congr hg]
theorem jud_congr (hf : ∀ k, k < 25 → cf k = cf' k) (hg : ∀ k, k < 25 → cg k = cg' k) : jud cf cg X Y = jud cf' cg' X Y := by
  unfold jud
  rw [pV_congr hf, pV_congr hg, fD_congr hf hg, fFX_congr hf hg, fFY_congr hf hg]
theorem jud_4 (h : jud cf cg X Y = 4) : (ishare X (fFX cf cg X Y)).1 ≤ (ishare X (fFX cf cg X Y)).2 ∧ (ishare Y (fFY cf cg X Y)).1 ≤ (ishare Y (fFY cf cg X Y)).2 := by
  unfold jud at h
  split at h
  · exact absurd h (by decide)
  split at h
  · exact absurd h (by decide)
  split at h
  · exact absurd h (by decide)
  split at h
  · exact absurd h (by decide)
  rename_i hh
  exact ⟨Classical.byContradiction fun e => hh (Or.inl e), Classical.byContradiction fun e => hh (Or.inr e)⟩
end
theorem l_32 {x : Int64} (h1 : -2147483648 ≤ x.toInt) (h2 : x.toInt < 2147483648) : x.toInt32.toInt = x.toInt := by
  rw [Int64.toInt_toInt32]; exact bm32 h1 h2
theorem rt_32 (x : Int32) : x.toInt64.toInt32 = x := by
  have := i_rng x
  rw [i_inj, l_32 (by rw [i_64]; omega) (by rw [i_64]; omega), i_64]
/-- what is shared of a span that lies within, lies within -/
theorem sh_ok {x y : Int32} {F : sI} (h1 : -512 ≤ x.toInt) (h3 : y.toInt ≤ 512) (h : (ishare (x.toInt64, y.toInt64) F).1 ≤ (ishare (x.toInt64, y.toInt64) F).2) : -512 ≤ (ishare (x.toInt64, y.toInt64) F).1.toInt32.toInt ∧ (ishare (x.toInt64, y.toInt64) F).1.toInt32.toInt ≤ (ishare (x.toInt64, y.toInt64) F).2.toInt32.toInt ∧ (ishare (x.toInt64, y.toInt64) F).2.toInt32.toInt ≤ 512 := by
  rw [l_le] at h
  have a : (ishare (x.toInt64, y.toInt64) F).1.toInt = if x.toInt ≤ F.1.toInt then F.1.toInt else x.toInt := by
    show (lmax x.toInt64 F.1).toInt = _
    rw [l_max, i_64]
  have b : (ishare (x.toInt64, y.toInt64) F).2.toInt = if y.toInt ≤ F.2.toInt then y.toInt else F.2.toInt := by
    show (lmin y.toInt64 F.2).toInt = _
    rw [l_min, i_64]
  have a' : -512 ≤ (ishare (x.toInt64, y.toInt64) F).1.toInt := by rw [a]; split <;> omega
  have b' : (ishare (x.toInt64, y.toInt64) F).2.toInt ≤ 512 := by rw [b]; split <;> omega
  rw [l_32 (by omega) (by omega), l_32 (by omega) (by omega)]
  omega
theorem wd_eq {x y z w : Int32} (h : okB (b4 x y z w)) : (y.toInt64 - x.toInt64 < w.toInt64 - z.toInt64) = (y - x < w - z) := by
  obtain ⟨⟨x1, x2, x3⟩, y1, y2, y3⟩ := h
  dsimp only [b4, ↓reduceIte] at x1 x2 x3 y1 y2 y3
  simp only [Nat.reduceEqDiff, ↓reduceIte] at x1 x2 x3 y1 y2 y3
  rw [l_lt, i_lt, l_sub (by rw [i_64, i_64]; omega) (by rw [i_64, i_64]; omega), l_sub (by rw [i_64, i_64]; omega) (by rw [i_64, i_64]; omega), i_64, i_64, i_64, i_64, i_sub (by omega) (by omega), i_sub (by omega) (by omega)]
section
variable {P : sP} {l : Int32} {st : Nat → Int32}
theorem RS_sf (h : RS P l st) : cb (sf st) ∧ cb (sg st) ∧ (∀ k, k < 25 → P.1 2 k = sf st k) ∧ (∀ k, k < 25 → P.1 4 k = sg st k) := by
  obtain ⟨-, ⟨f1, f2, f3⟩, -⟩ := h
  have a : ∀ k, k < 25 → P.1 2 k = sf st k := fun k hk => by
    show _ = st (25 * 0 + k)
    rw [show 25 * 0 + k = k by omega, (f3 k hk).1]
  have b : ∀ k, k < 25 → P.1 4 k = sg st k := fun k hk => (f3 k hk).2.symm
  exact ⟨fun k hk => by rw [← a k hk]; exact f1 k hk, fun k hk => by rw [← b k hk]; exact f2 k hk, a, b⟩
theorem RS_pick (h : RS P l st) (h0 : 0 < P.2 5) : pick (mbet st) (P.2 5 - 1) 1 0 = wid P := by
  obtain ⟨-, -, -, ⟨-, o2, -⟩, -⟩ := h
  refine (pick_congr (n := P.2 5) (fun k b hk hb => ?_) _ _ _ (by omega) h0).symm
  exact bet_eq (fun j hj => by rw [Nat.add_assoc]; exact o2 _ (by omega)) (fun j hj => by rw [Nat.add_assoc]; exact o2 _ (by omega))
theorem RS_step {W' : Nat → Nat → sI} {bx' : Nat → Int32} (h : RS P l st) (h0 : 0 < P.2 5) (h2 : P.2 11 < 200) (hnp : ¬ ((jw P = 5 ∧ l < gwid (P.1 6) (wid P)) ∧ P.2 5 = 64))
    (b0 : bx' 0 = P.1 6 (4 * wid P)) (b1 : bx' 1 = P.1 6 (4 * wid P + 1)) (b2 : bx' 2 = P.1 6 (4 * wid P + 2)) (b3 : bx' 3 = P.1 6 (4 * wid P + 3))
    (j3 : jw P = 3 → W' 107 7 = fFX (P.1 2) (P.1 4) (bX (P.1 6) (wid P)) (bY (P.1 6) (wid P)) ∧ W' 107 8 = fFY (P.1 2) (P.1 4) (bX (P.1 6) (wid P)) (bY (P.1 6) (wid P)))
    (j4 : jw P = 4 → W' 112 0 = ishare (bX (P.1 6) (wid P)) (fFX (P.1 2) (P.1 4) (bX (P.1 6) (wid P)) (bY (P.1 6) (wid P))) ∧ W' 112 1 = ishare (bY (P.1 6) (wid P)) (fFY (P.1 2) (P.1 4) (bX (P.1 6) (wid P)) (bY (P.1 6) (wid P)))) :
    RS (oStep P l) l (mSt st (P.2 5) (P.2 7) (P.2 9) (P.2 11) (wid P) (jw P) W' bx') := by
  have hk : wid P < P.2 5 := wid_lt h0
  have hN := h.1
  obtain ⟨n5, n7, n9, n11⟩ := hN
  have hl : st 50 = l := h.2.2.1
  have hB : okB (fun j => P.1 6 (4 * wid P + j)) := h.2.2.2.1.2.2 _ hk
  have e1 : (bX (P.1 6) (wid P)).1.toInt32 = bx' 0 := by rw [b0]; exact rt_32 _
  have e2 : (bX (P.1 6) (wid P)).2.toInt32 = bx' 1 := by rw [b1]; exact rt_32 _
  have e3 : (bY (P.1 6) (wid P)).1.toInt32 = bx' 2 := by rw [b2]; exact rt_32 _
  have e4 : (bY (P.1 6) (wid P)).2.toInt32 = bx' 3 := by rw [b3]; exact rt_32 _
  have x1 : bX (P.1 6) (wid P) = ((bx' 0).toInt64, (bx' 1).toInt64) := by rw [b0, b1]; rfl
  have y1 : bY (P.1 6) (wid P) = ((bx' 2).toInt64, (bx' 3).toInt64) := by rw [b2, b3]; rfl
  have hB' : okB (b4 (bx' 0) (bx' 1) (bx' 2) (bx' 3)) := by
    unfold okB at hB ⊢
    simp only [Nat.add_zero] at hB
    simp only [b4, Nat.reduceEqDiff, ↓reduceIte]
    rw [b0, b1, b2, b3]
    exact hB
  obtain ⟨⟨X1, X2, X3⟩, Y1, Y2, Y3⟩ := id hB'
  simp only [b4, Nat.reduceEqDiff, ↓reduceIte] at X1 X2 X3 Y1 Y2 Y3
  have hg : gw bx' 0 = gwid (P.1 6) (wid P) := gw_eq (fun j hj => by
    have hc : j = 0 ∨ j = 1 ∨ j = 2 ∨ j = 3 := by omega
    rcases hc with rfl | rfl | rfl | rfl
    · exact b0
    · exact b1
    · exact b2
    · exact b3)
  -- the entry
  have hr := RS_rm h hk
  have he := RS_ent (v := jw P) (x := bx' 0) (y := bx' 1) (z := bx' 2) (w := bx' 3) hr (show (oRm P (wid P)).2 11 < 200 from h2) hB'
  unfold oStep mSt mGo
  dsimp only
  rw [e1, e2, e3, e4]
  have q11 : (oRm P (wid P)).2 11 = P.2 11 := rfl
  rw [q11] at he
  generalize hQ : oEnt (oRm P (wid P)) (jw P) (bx' 0) (bx' 1) (bx' 2) (bx' 3) = Q at *
  have q5 : Q.2 5 = P.2 5 - 1 := by rw [← hQ]; rfl
  have q7 : Q.2 7 = P.2 7 := by rw [← hQ]; rfl
  have q9 : Q.2 9 = P.2 9 := by rw [← hQ]; rfl
  have q11' : Q.2 11 = P.2 11 + 1 := by rw [← hQ]; rfl
  generalize mEn (mCl st (P.2 5) (wid P)) (P.2 11) (jw P) (bx' 0) (bx' 1) (bx' 2) (bx' 3) = s3 at *
  have l3 : s3 50 = l := he.2.2.1
  rw [l3, hg]
  by_cases c3 : jw P = 3
  · have n5' : ¬ (jw P = 5 ∧ l < gwid (P.1 6) (wid P)) := fun h => absurd (c3.symm.trans h.1) (by decide)
    rw [if_neg n5', if_pos c3, if_pos c3, (j3 c3).1, (j3 c3).2, ← q7]
    exact RS_sol he (by omega)
  · by_cases c4 : jw P = 4
    · have n5' : ¬ (jw P = 5 ∧ l < gwid (P.1 6) (wid P)) := fun h => absurd (c4.symm.trans h.1) (by decide)
      rw [if_neg n5', if_neg c3, if_neg c3, if_pos c4, if_pos c4, (j4 c4).1, (j4 c4).2, ← q5]
      obtain ⟨u1, u2⟩ := jud_4 c4
      refine RS_add he (by omega) ?_
      rw [x1, y1] at u1 u2
      have k1 := sh_ok X1 X3 u1
      have k2 := sh_ok Y1 Y3 u2
      rw [← x1, ← y1] at k1 k2
      exact ⟨k1, k2⟩
    · by_cases c5 : jw P = 5
      · by_cases cw : l < gwid (P.1 6) (wid P)
        · have hlt : P.2 5 < 64 := by
            by_cases h64 : P.2 5 = 64
            · exact absurd ⟨⟨c5, cw⟩, h64⟩ hnp
            · omega
          rw [if_pos ⟨c5, cw⟩, if_neg c3, if_neg c4, if_pos c5, if_pos cw]
          obtain ⟨m1, m2, m3, m4⟩ := mid_b X1 X2 X3
          obtain ⟨p1, p2, p3, p4⟩ := mid_b Y1 Y2 Y3
          unfold oPart mPa
          rw [x1, y1]
          dsimp only
          rw [rt_32, rt_32, rt_32, rt_32, m2, p2]
          have hwd := wd_eq hB'
          by_cases cx : bx' 1 - bx' 0 < bx' 3 - bx' 2
          · rw [if_pos (hwd.mpr cx), if_pos cx]
            have a1 := RS_add (x := bx' 0) (y := bx' 1) (z := bx' 2) (w := (fdiv ((bx' 2).toInt64 + (bx' 3).toInt64) 2).toInt32) he (by omega) ⟨⟨X1, X2, X3⟩, Y1, by show _ ≤ (fdiv _ 2).toInt32.toInt; rw [p4]; show (bx' 2).toInt ≤ _; omega, by show (fdiv _ 2).toInt32.toInt ≤ _; rw [p4]; omega⟩
            have a2 := RS_add (x := bx' 0) (y := bx' 1) (z := (fdiv ((bx' 2).toInt64 + (bx' 3).toInt64) 2).toInt32) (w := bx' 3) a1 (show Q.2 5 + 1 < 64 by omega) ⟨⟨X1, X2, X3⟩, by show _ ≤ (fdiv _ 2).toInt32.toInt; rw [p4]; omega, by show (fdiv _ 2).toInt32.toInt ≤ _; rw [p4]; show _ ≤ (bx' 3).toInt; omega, Y3⟩
            rw [show (oAdd Q (bx' 0) (bx' 1) (bx' 2) (fdiv ((bx' 2).toInt64 + (bx' 3).toInt64) 2).toInt32).2 5 = P.2 5 - 1 + 1 from by show Q.2 5 + 1 = _; rw [q5]] at a2
            rw [q5] at a2
            exact a2
          · rw [if_neg (fun e => cx (hwd.mp e)), if_neg cx]
            have a1 := RS_add (x := bx' 0) (y := (fdiv ((bx' 0).toInt64 + (bx' 1).toInt64) 2).toInt32) (z := bx' 2) (w := bx' 3) he (by omega) ⟨⟨X1, by show _ ≤ (fdiv _ 2).toInt32.toInt; rw [m4]; show (bx' 0).toInt ≤ _; omega, by show (fdiv _ 2).toInt32.toInt ≤ _; rw [m4]; omega⟩, Y1, Y2, Y3⟩
            have a2 := RS_add (x := (fdiv ((bx' 0).toInt64 + (bx' 1).toInt64) 2).toInt32) (y := bx' 1) (z := bx' 2) (w := bx' 3) a1 (show Q.2 5 + 1 < 64 by omega) ⟨⟨by show _ ≤ (fdiv _ 2).toInt32.toInt; rw [m4]; omega, by show (fdiv _ 2).toInt32.toInt ≤ _; rw [m4]; show _ ≤ (bx' 1).toInt; omega, X3⟩, Y1, Y2, Y3⟩
            rw [show (oAdd Q (bx' 0) (fdiv ((bx' 0).toInt64 + (bx' 1).toInt64) 2).toInt32 (bx' 2) (bx' 3)).2 5 = P.2 5 - 1 + 1 from by show Q.2 5 + 1 = _; rw [q5]] at a2
            rw [q5] at a2
            exact a2
        · rw [if_neg (fun h => cw h.2), if_neg c3, if_neg c3, if_neg c4, if_neg c4, if_pos c5, if_pos c5, if_neg cw, ← q9]
          exact RS_dou he (by omega)
      · rw [if_neg (fun h => c5 h.1), if_neg c3, if_neg c3, if_neg c4, if_neg c4, if_neg c5, if_neg c5]
        exact he
end
