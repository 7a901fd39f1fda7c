/-! ===== the class's sums are the model's; the bounds of both ===== -/
theorem bm32 {z : Int} (h1 : -2147483648 ≤ z) (h2 : z < 2147483648) : z.bmod (2 ^ 32) = z := by
  rw [Int.bmod_def]; omega
theorem i_lt {x y : Int32} : x < y ↔ x.toInt < y.toInt := Int32.lt_iff_toInt_lt
theorem i_le {x y : Int32} : x ≤ y ↔ x.toInt ≤ y.toInt := Int32.le_iff_toInt_le
theorem i_inj {x y : Int32} : x = y ↔ x.toInt = y.toInt := Int32.toInt_inj.symm
theorem i_mul {x y : Int32} (h1 : -2147483648 ≤ x.toInt * y.toInt) (h2 : x.toInt * y.toInt < 2147483648) : (x * y).toInt = x.toInt * y.toInt := by
  rw [Int32.toInt_mul]; exact bm32 h1 h2
theorem i_add {x y : Int32} (h1 : -2147483648 ≤ x.toInt + y.toInt) (h2 : x.toInt + y.toInt < 2147483648) : (x + y).toInt = x.toInt + y.toInt := by
  rw [Int32.toInt_add]; exact bm32 h1 h2
theorem i_sub {x y : Int32} (h1 : -2147483648 ≤ x.toInt - y.toInt) (h2 : x.toInt - y.toInt < 2147483648) : (x - y).toInt = x.toInt - y.toInt := by
  rw [Int32.toInt_sub]; exact bm32 h1 h2
theorem i_64 (x : Int32) : x.toInt64.toInt = x.toInt := Int32.toInt_toInt64 x
theorem i_nI {n : Nat} (h : n < 2147483648) : (nI n).toInt = n := Int32.toInt_ofNat_of_lt h
theorem i_rng (x : Int32) : -2147483648 ≤ x.toInt ∧ x.toInt < 2147483648 := ⟨Int32.le_toInt x, Int32.toInt_lt x⟩
def cb (c : Nat → Int32) : Prop := ∀ k, k < 25 → -20 ≤ (c k).toInt ∧ (c k).toInt ≤ 20
theorem addT_b {v Q : sI} {c : Int64} {M : Int} (hv : ib M v) (hQ : ib 262144 Q) (h1 : -80 ≤ c.toInt) (h2 : c.toInt ≤ 80) (hM : M ≤ 1000000000000) : ib (M + 20971520) (iaddT v Q c) := by
  have hc : ib 80 ((c, c) : sI) := ⟨Int.le_refl _, h1, h2⟩
  obtain ⟨e1, -, e3, -, p1, -, p3, -⟩ := four hQ hc (by omega)
  dsimp only at e1 e3 p1 p3
  obtain ⟨v0, v1, v2⟩ := hv
  have hn : (lmin (Q.1 * c) (Q.2 * c)).toInt ≤ (lmax (Q.1 * c) (Q.2 * c)).toInt ∧ -20971520 ≤ (lmin (Q.1 * c) (Q.2 * c)).toInt ∧ (lmax (Q.1 * c) (Q.2 * c)).toInt ≤ 20971520 := by
    simp only [l_min, l_max, e1, e3]
    refine ⟨?_, ?_, ?_⟩ <;> (repeat' split) <;> omega
  have s1 : (iaddT v Q c).1.toInt = v.1.toInt + (lmin (Q.1 * c) (Q.2 * c)).toInt := l_add (by omega) (by omega)
  have s2 : (iaddT v Q c).2.toInt = v.2.toInt + (lmax (Q.1 * c) (Q.2 * c)).toInt := l_add (by omega) (by omega)
  refine ⟨?_, ?_, ?_⟩ <;> omega
theorem madd_eq {v Q : sI} {c : Int32} (hQ : ib 262144 Q) (h1 : -80 ≤ c.toInt) (h2 : c.toInt ≤ 80) : maddT v Q c = iaddT v Q c.toInt64 := by
  have hc : ib 80 ((c.toInt64, c.toInt64) : sI) := ⟨Int.le_refl _, by show _ ≤ c.toInt64.toInt; rw [i_64]; exact h1, by show c.toInt64.toInt ≤ _; rw [i_64]; exact h2⟩
  obtain ⟨e1, -, e3, -, p1, -, p3, -⟩ := four hQ hc (by omega)
  dsimp only at e1 e3 p1 p3
  rw [i_64] at e1 e3
  obtain ⟨q0, -, -⟩ := hQ
  unfold maddT iaddT
  rw [Int64.mul_comm c.toInt64 Q.1, Int64.mul_comm c.toInt64 Q.2]
  by_cases h : 0 < c
  · rw [if_pos h, if_pos h]
    rw [i_lt] at h
    have h0 : (0 : Int32).toInt = 0 := rfl
    have hle : Q.1.toInt * c.toInt ≤ Q.2.toInt * c.toInt := Int.mul_le_mul_of_nonneg_right q0 (by omega)
    have a1 : lmin (Q.1 * c.toInt64) (Q.2 * c.toInt64) = Q.1 * c.toInt64 := by rw [l_inj, l_min, e1, e3, if_pos hle]
    have a2 : lmax (Q.1 * c.toInt64) (Q.2 * c.toInt64) = Q.2 * c.toInt64 := by rw [l_inj, l_max, e1, e3, if_pos hle]
    rw [a1, a2]
  · rw [if_neg h, if_neg h]
    rw [i_lt] at h
    have h0 : (0 : Int32).toInt = 0 := rfl
    have hle : Q.2.toInt * c.toInt ≤ Q.1.toInt * c.toInt := Int.mul_le_mul_of_nonpos_right q0 (by omega)
    have a1 : lmin (Q.1 * c.toInt64) (Q.2 * c.toInt64) = Q.2 * c.toInt64 := by rw [lmin_comm, l_inj, l_min, e1, e3, if_pos hle]
    have a2 : lmax (Q.1 * c.toInt64) (Q.2 * c.toInt64) = Q.1 * c.toInt64 := by rw [lmax_comm, l_inj, l_max, e1, e3, if_pos hle]
    rw [a1, a2]
theorem inn_b {F : Nat → Nat → sI → sI} {i N : Nat} (hF : ∀ j v M, i + j < N → ib M v → M ≤ 1000000000000 → ib (M + 20971520) (F i j v)) : ∀ (r j : Nat) (v : sI) (M : Int), i + j + r ≤ N → ib M v → M + 20971520 * r ≤ 1000000000000 → ib (M + 20971520 * r) (inn F i r j v) := by
  intro r
  induction r with
  | zero => intro j v M _ h _; rw [inn]; simpa using h
  | succ r ih =>
    intro j v M hj h hM
    rw [inn]
    have := ih (j + 1) (F i j v) (M + 20971520) (by omega) (hF j v M (by omega) h (by omega)) (by omega)
    rw [show M + 20971520 * ((r + 1 : Nat) : Int) = M + 20971520 + 20971520 * (r : Int) by omega]
    exact this
theorem ib_mono {M N : Int} {a : sI} (h : ib M a) (hMN : M ≤ N) : ib N a := ⟨h.1, by have := h.2.1; omega, by have := h.2.2; omega⟩
theorem out2_b {F : Nat → Nat → sI → sI} {N : Nat} (hN : N ≤ 5) (hF : ∀ i j v M, i + j < N → ib M v → M ≤ 1000000000000 → ib (M + 20971520) (F i j v)) : ∀ (r i : Nat) (v : sI) (M : Int), i + r ≤ N → ib M v → M + 104857600 * r ≤ 1000000000000 → ib (M + 104857600 * r) (out2 F N r i v) := by
  intro r
  induction r with
  | zero => intro i v M _ h _; rw [out2]; simpa using h
  | succ r ih =>
    intro i v M hi h hM
    rw [out2]
    have h1 := inn_b (i := i) (N := N) (fun j v M => hF i j v M) (N - i) 0 v M (by omega) h (by omega)
    have := ih (i + 1) _ (M + 104857600) (by omega) (ib_mono h1 (by omega)) (by omega)
    rw [show M + 104857600 * ((r + 1 : Nat) : Int) = M + 104857600 + 104857600 * (r : Int) by omega]
    exact this
theorem fac_b {c : Nat → Int32} (hc : cb c) {k n : Nat} (hk : k < 25) (hn : n ≤ 4) : (c k * nI n).toInt = (c k).toInt * n ∧ -80 ≤ (c k * nI n).toInt ∧ (c k * nI n).toInt ≤ 80 := by
  obtain ⟨c1, c2⟩ := hc k hk
  have hb := abs_mul (M := 20) (N := 4) c1 c2 (by omega : -4 ≤ (n : Int)) (by omega : (n : Int) ≤ 4)
  have e := i_mul (x := c k) (y := nI n) (by rw [i_nI (by omega)]; omega) (by rw [i_nI (by omega)]; omega)
  rw [i_nI (by omega)] at e
  exact ⟨e, by omega, by omega⟩
theorem ib_00 : ib 0 ((0, 0) : sI) := ⟨Int.le_refl _, by show _ ≤ (0 : Int64).toInt; decide, by show (0 : Int64).toInt ≤ _; decide⟩
section
variable {c : Nat → Int32} {X Y : sI}
theorem gV_b (hc : cb c) (hX : ib 512 X) (hY : ib 512 Y) : ∀ i j v M, i + j < 5 → ib M v → M ≤ 1000000000000 → ib (M + 20971520) (gV c X Y i j v) := by
  intro i j v M hij hv hM
  unfold gV
  split
  · exact ib_mono hv (by omega)
  · obtain ⟨c1, c2⟩ := hc (5 * i + j) (by omega)
    exact addT_b hv (cel_eq hX hY (by omega)).2 (by rw [i_64]; omega) (by rw [i_64]; omega) hM
theorem gS_b {b : Bool} (hc : cb c) (hX : ib 512 X) (hY : ib 512 Y) : ∀ i j v M, i + j < 4 → ib M v → M ≤ 1000000000000 → ib (M + 20971520) (gS b c X Y i j v) := by
  intro i j v M hij hv hM
  have hq := (cel_eq hX hY (i := i) (j := j) (by omega)).2
  unfold gS
  cases b with
  | true =>
    simp only [↓reduceIte]
    obtain ⟨-, c1, c2⟩ := fac_b hc (k := 5 * (i + 1) + j) (n := i + 1) (by omega) (by omega)
    by_cases h : c (5 * (i + 1) + j) * nI (i + 1) = 0
    · rw [if_pos h]; exact ib_mono hv (by omega)
    · rw [if_neg h]
      generalize c (5 * (i + 1) + j) * nI (i + 1) = cc at *
      exact addT_b hv hq (by rw [i_64]; exact c1) (by rw [i_64]; exact c2) hM
  | false =>
    simp only [Bool.false_eq_true, ↓reduceIte]
    obtain ⟨-, c1, c2⟩ := fac_b hc (k := 5 * i + (j + 1)) (n := j + 1) (by omega) (by omega)
    by_cases h : c (5 * i + (j + 1)) * nI (j + 1) = 0
    · rw [if_pos h]; exact ib_mono hv (by omega)
    · rw [if_neg h]
      generalize c (5 * i + (j + 1)) * nI (j + 1) = cc at *
      exact addT_b hv hq (by rw [i_64]; exact c1) (by rw [i_64]; exact c2) hM
theorem pV_b (hc : cb c) (hX : ib 512 X) (hY : ib 512 Y) : ib 524288000 (pV c X Y) := by
  have := out2_b (F := gV c X Y) (N := 5) (by omega) (gV_b hc hX hY) 5 0 (0, 0) 0 (by omega) ib_00 (by omega)
  exact ib_mono this (by omega)
theorem pS_b {b : Bool} (hc : cb c) (hX : ib 512 X) (hY : ib 512 Y) : ib 524288000 (pS b c X Y) := by
  have := out2_b (F := gS b c X Y) (N := 4) (by omega) (gS_b hc hX hY) 4 0 (0, 0) 0 (by omega) ib_00 (by omega)
  exact ib_mono this (by omega)
/-- the model's sum -/
def mS (wh : Nat) (c : Nat → Int32) (X Y : sI) : sI := out2 (mT wh c (pw X) (pw Y)) 5 5 0 (0, 0)
theorem mS_of {wh : Nat} {pX pY : Nat → sI} (h1 : ∀ t, t ≤ 4 → pX t = pw X t) (h2 : ∀ t, t ≤ 4 → pY t = pw Y t) : out2 (mT wh c pX pY) 5 5 0 (0, 0) = mS wh c X Y := by
  refine out2_congr (fun i j s h => ?_) 5 0 _ (by omega)
  unfold mT
  rw [h1 i (by omega), h1 (i - 1) (by omega), h2 j (by omega), h2 (j - 1) (by omega)]
theorem mS_0 (hc : cb c) (hX : ib 512 X) (hY : ib 512 Y) : mS 0 c X Y = pV c X Y := by
  refine out2_congr (fun i j s h => ?_) 5 0 _ (by omega)
  unfold mT gV
  by_cases h0 : c (5 * i + j) = 0
  · rw [if_pos h0, if_pos h0]
  · obtain ⟨c1, c2⟩ := hc (5 * i + j) (by omega)
    rw [if_neg h0, if_neg h0, if_pos rfl, (cel_eq hX hY (by omega)).1, madd_eq (cel_eq hX hY (by omega)).2 (by omega) (by omega)]
theorem inn_id {F : Nat → Nat → sI → sI} {i : Nat} (h : ∀ j s, F i j s = s) : ∀ (r j : Nat) (s : sI), inn F i r j s = s := by
  intro r
  induction r with
  | zero => intro j s; rfl
  | succ r ih => intro j s; rw [inn, h, ih]
theorem inn_sh {F G : Nat → Nat → sI → sI} {i N : Nat} (h : ∀ j s, i + j < N → F (i + 1) j s = G i j s) : ∀ (r j : Nat) (s : sI), i + j + r ≤ N → inn F (i + 1) r j s = inn G i r j s := by
  intro r
  induction r with
  | zero => intro j s _; rfl
  | succ r ih => intro j s hj; rw [inn, inn, h j s (by omega)]; exact ih (j + 1) _ (by omega)
theorem inn_sh2 {F G : Nat → Nat → sI → sI} {i N : Nat} (h : ∀ j s, i + j < N → F i (j + 1) s = G i j s) : ∀ (r j : Nat) (s : sI), i + j + r ≤ N → inn F i r (j + 1) s = inn G i r j s := by
  intro r
  induction r with
  | zero => intro j s _; rfl
  | succ r ih => intro j s hj; rw [inn, inn, h j s (by omega)]; exact ih (j + 1) _ (by omega)
theorem out2_sh {F G : Nat → Nat → sI → sI} (h : ∀ i j s, i + j < 4 → F (i + 1) j s = G i j s) : ∀ (r i : Nat) (s : sI), i + r ≤ 4 → out2 F 5 r (i + 1) s = out2 G 4 r i s := by
  intro r
  induction r with
  | zero => intro i s _; rfl
  | succ r ih =>
    intro i s hi
    rw [out2, out2, show 5 - (i + 1) = 4 - i by omega, inn_sh (N := 4) (fun j s => h i j s) (4 - i) 0 s (by omega)]
    exact ih (i + 1) _ (by omega)
theorem out2_sh2 {F G : Nat → Nat → sI → sI} (h0 : ∀ i s, F i 0 s = s) (h : ∀ i j s, i + j < 4 → F i (j + 1) s = G i j s) : ∀ (r i : Nat) (s : sI), i + r ≤ 4 → out2 F 5 r i s = out2 G 4 r i s := by
  intro r
  induction r with
  | zero => intro i s _; rfl
  | succ r ih =>
    intro i s hi
    rw [out2, out2, show 5 - i = (4 - i) + 1 by omega, inn, h0, inn_sh2 (N := 4) (fun j s => h i j s) (4 - i) 0 s (by omega)]
    exact ih (i + 1) _ (by omega)
theorem out2_last {F : Nat → Nat → sI → sI} {N : Nat} : ∀ (r i : Nat) (s : sI), out2 F N (r + 1) i s = inn F (i + r) (N - (i + r)) 0 (out2 F N r i s) := by
  intro r
  induction r with
  | zero => intro i s; rfl
  | succ r ih =>
    intro i s
    rw [out2, ih (i + 1), show i + 1 + r = i + (r + 1) by omega]
    rfl
theorem fac_0 (hc : cb c) {k n : Nat} (hk : k < 25) (hn : n ≤ 4) (h1 : 1 ≤ n) : (c k * nI n = 0) ↔ c k = 0 := by
  obtain ⟨e, -, -⟩ := fac_b hc hk hn
  rw [i_inj, i_inj (x := c k), e]
  have h0 : (0 : Int32).toInt = 0 := rfl
  rw [h0, Int.mul_eq_zero]
  constructor
  · intro h; omega
  · intro h; exact Or.inl h
theorem mS_1 (hc : cb c) (hX : ib 512 X) (hY : ib 512 Y) : mS 1 c X Y = pS true c X Y := by
  unfold mS pS
  rw [out2, inn_id (fun j s => by unfold mT; rw [if_neg (show ¬ (1 : Nat) = 0 by omega), if_pos rfl, if_pos rfl]; split <;> rfl)]
  refine out2_sh (fun i j s h => ?_) 4 0 _ (by omega)
  unfold mT gS
  have hf := fac_0 hc (k := 5 * (i + 1) + j) (n := i + 1) (by omega) (by omega) (by omega)
  obtain ⟨-, c1, c2⟩ := fac_b hc (k := 5 * (i + 1) + j) (n := i + 1) (by omega) (by omega)
  simp only [↓reduceIte]
  by_cases h0 : c (5 * (i + 1) + j) = 0
  · rw [if_pos h0, if_pos (hf.mpr h0)]
  · rw [if_neg h0, if_neg (fun e => h0 (hf.mp e)), if_neg (by omega), if_neg (by omega), Nat.add_sub_cancel, (cel_eq hX hY (by omega)).1, madd_eq (cel_eq hX hY (by omega)).2 c1 c2]
theorem mS_2 (hc : cb c) (hX : ib 512 X) (hY : ib 512 Y) : mS 2 c X Y = pS false c X Y := by
  unfold mS pS
  have h0 : ∀ i s, mT 2 c (pw X) (pw Y) i 0 s = s := fun i s => by
    unfold mT
    rw [if_neg (show ¬ (2 : Nat) = 0 by omega), if_neg (show ¬ (2 : Nat) = 1 by omega), if_pos rfl]; split <;> rfl
  rw [out2_last]
  show inn (mT 2 c (pw X) (pw Y)) 4 1 0 _ = _
  rw [inn, h0, inn]
  refine out2_sh2 h0 (fun i j s h => ?_) 4 0 _ (by omega)
  unfold mT gS
  have hf := fac_0 hc (k := 5 * i + (j + 1)) (n := j + 1) (by omega) (by omega) (by omega)
  obtain ⟨-, c1, c2⟩ := fac_b hc (k := 5 * i + (j + 1)) (n := j + 1) (by omega) (by omega)
  simp only [Bool.false_eq_true, ↓reduceIte]
  by_cases h0 : c (5 * i + (j + 1)) = 0
  · rw [if_pos h0, if_pos (hf.mpr h0)]
  · rw [if_neg h0, if_neg (fun e => h0 (hf.mp e)), if_neg (by omega), if_neg (by omega), if_neg (by omega), Nat.add_sub_cancel, (cel_eq hX hY (by omega)).1, madd_eq (cel_eq hX hY (by omega)).2 c1 c2]
end
theorem less_b {a b : sI} {M : Int} (ha : ib M a) (hb : ib M b) (hM : M ≤ 1000000000000000000) : ib (2 * M) (iless a b) := by
  obtain ⟨a0, a1, a2⟩ := ha
  obtain ⟨b0, b1, b2⟩ := hb
  have s1 : (iless a b).1.toInt = a.1.toInt - b.2.toInt := l_sub (by omega) (by omega)
  have s2 : (iless a b).2.toInt = a.2.toInt - b.1.toInt := l_sub (by omega) (by omega)
  refine ⟨?_, ?_, ?_⟩ <;> omega
theorem cross_b {a b c e : sI} (ha : ib 524288000 a) (hb : ib 524288000 b) (hc : ib 524288000 c) (he : ib 524288000 e) : ib 8589934592000000 (icross a b c e) := by
  have h1 : ib 4294967296000000 (iprod a b) := ib_prod ha hb (by omega) (by omega)
  have h2 : ib 4294967296000000 (iprod c e) := ib_prod hc he (by omega) (by omega)
  exact ib_mono (less_b h1 h2 (by omega)) (by omega)
theorem fD_b {cf cg : Nat → Int32} {X Y : sI} (hf : cb cf) (hg : cb cg) (hX : ib 512 X) (hY : ib 512 Y) : ib 8589934592000000 (fD cf cg X Y) := cross_b (pS_b hf hX hY) (pS_b hg hX hY) (pS_b hf hX hY) (pS_b hg hX hY)
theorem fD_nz {cf cg : Nat → Int32} {X Y : sI} (hf : cb cf) (hg : cb cg) (hX : ib 512 X) (hY : ib 512 Y) : nzD (fD cf cg X Y) := by
  obtain ⟨d0, -, -⟩ := fD_b hf hg hX hY
  intro h
  have h0 : (0 : Int64).toInt = 0 := rfl
  have h' : 0 < (fD cf cg X Y).1.toInt ∨ (fD cf cg X Y).2.toInt < 0 := by
    by_cases a : 0 < (fD cf cg X Y).1
    · rw [l_lt, h0] at a; exact Or.inl a
    · by_cases b : (fD cf cg X Y).2 < 0
      · rw [l_lt, h0] at b; exact Or.inr b
      · exact absurd ⟨a, b⟩ h
  rw [l_inj, l_inj, h0]
  omega
theorem quo_eq {A D : sI} (hA : ib 8589934592000000 A) (hD : ib 8589934592000000 D) (h1 : ¬ D.1 = 0) (h2 : ¬ D.2 = 0) : mquo A D = iquot A D := by
  have h0 : (0 : Int64).toInt = 0 := rfl
  have h64 : (64 : Int64).toInt = 64 := rfl
  obtain ⟨a0, a1, a2⟩ := hA
  obtain ⟨d0, d1, d2⟩ := hD
  rw [l_inj, h0] at h1 h2
  have m1 : (64 * A.1).toInt = 64 * A.1.toInt := by rw [l_mul (by rw [h64]; omega) (by rw [h64]; omega), h64]
  have m2 : (64 * A.2).toInt = 64 * A.2.toInt := by rw [l_mul (by rw [h64]; omega) (by rw [h64]; omega), h64]
  have n1 : (-(64 * A.1)).toInt = -(64 * A.1.toInt) := by rw [l_neg (by omega), m1]
  have n2 : (-(64 * A.2)).toInt = -(64 * A.2.toInt) := by rw [l_neg (by omega), m2]
  unfold mquo iquot quL quH updiv
  rw [dn_fdiv (x := 64 * A.1) (y := D.1) h1 (by omega) (by omega), dn_fdiv (x := 64 * A.1) (y := D.2) h2 (by omega) (by omega), dn_fdiv (x := 64 * A.2) (y := D.1) h1 (by omega) (by omega), dn_fdiv (x := 64 * A.2) (y := D.2) h2 (by omega) (by omega), dn_fdiv (x := -(64 * A.1)) (y := D.1) h1 (by omega) (by omega), dn_fdiv (x := -(64 * A.1)) (y := D.2) h2 (by omega) (by omega), dn_fdiv (x := -(64 * A.2)) (y := D.1) h1 (by omega) (by omega), dn_fdiv (x := -(64 * A.2)) (y := D.2) h2 (by omega) (by omega)]
  rw [lmin_assoc (lmin _ _), lmax_assoc (lmax _ _)]
/-- a box whose ends lie within -/
def okB (b : Nat → Int32) : Prop := (-512 ≤ (b 0).toInt ∧ (b 0).toInt ≤ (b 1).toInt ∧ (b 1).toInt ≤ 512) ∧ (-512 ≤ (b 2).toInt ∧ (b 2).toInt ≤ (b 3).toInt ∧ (b 3).toInt ≤ 512)
theorem okB_x {b : Nat → Int32} (h : okB b) : ib 512 (xb b) := ⟨by show (b 0).toInt64.toInt ≤ (b 1).toInt64.toInt; rw [i_64, i_64]; exact h.1.2.1, by show _ ≤ (b 0).toInt64.toInt; rw [i_64]; exact h.1.1, by show (b 1).toInt64.toInt ≤ _; rw [i_64]; exact h.1.2.2⟩
theorem okB_y {b : Nat → Int32} (h : okB b) : ib 512 (yb b) := ⟨by show (b 2).toInt64.toInt ≤ (b 3).toInt64.toInt; rw [i_64, i_64]; exact h.2.2.1, by show _ ≤ (b 2).toInt64.toInt; rw [i_64]; exact h.2.1, by show (b 3).toInt64.toInt ≤ _; rw [i_64]; exact h.2.2.2⟩
theorem mid_b {x y : Int32} (h1 : -512 ≤ x.toInt) (h2 : x.toInt ≤ y.toInt) (h3 : y.toInt ≤ 512) : (fdiv (x.toInt64 + y.toInt64) 2).toInt = (x.toInt + y.toInt) / 2 ∧ fdiv (x + y).toInt64 2 = fdiv (x.toInt64 + y.toInt64) 2 ∧ (fdiv (x.toInt64 + y.toInt64) 2).toInt32.toInt64 = fdiv (x.toInt64 + y.toInt64) 2 ∧ (fdiv (x.toInt64 + y.toInt64) 2).toInt32.toInt = (x.toInt + y.toInt) / 2 := by
  have e1 : (x.toInt64 + y.toInt64).toInt = x.toInt + y.toInt := by rw [l_add (by rw [i_64, i_64]; omega) (by rw [i_64, i_64]; omega), i_64, i_64]
  have e2 : (x + y).toInt64 = x.toInt64 + y.toInt64 := by rw [l_inj, i_64, i_add (by omega) (by omega), e1]
  have e3 : (fdiv (x.toInt64 + y.toInt64) 2).toInt = (x.toInt + y.toInt) / 2 := by rw [fdiv_2, e1]
  have e4 : (fdiv (x.toInt64 + y.toInt64) 2).toInt32.toInt = (x.toInt + y.toInt) / 2 := by
    rw [Int64.toInt_toInt32, e3]; exact bm32 (by omega) (by omega)
  exact ⟨e3, by rw [e2], by rw [l_inj, i_64, e4, e3], e4⟩
