/-! ===== the class's State and the model's row ===== -/
def RSf (f g st : Nat → Int32) : Prop := cb f ∧ cb g ∧ ∀ k, k < 25 → st k = f k ∧ st (25 + k) = g k
def RSo (n : Nat) (o st : Nat → Int32) : Prop := st 51 = nI n ∧ (∀ k, k < 4 * n → st (55 + k) = o k) ∧ ∀ k, k < n → okB (fun j => o (4 * k + j))
def RSd (n : Nat) (q st : Nat → Int32) : Prop := st 53 = nI n ∧ ∀ k, k < 4 * n → st (1111 + k) = q k
def RSe (n : Nat) (e v st : Nat → Int32) : Prop := st 54 = nI n ∧ (∀ k, k < n → st (1911 + 5 * k + 4) = v k ∧ ∀ j, j < 4 → st (1911 + 5 * k + j) = e (4 * k + j)) ∧ ∀ k, k < n → okB (fun j => e (4 * k + j))
/-- how many below n -/
def cnt (t : Nat → Bool) : Nat → Nat
  | 0 => 0
  | n + 1 => cnt t n + (if t n then 1 else 0)
/-- the place of the k-th among n, as the model counts it -/
def rnk (u : Nat → Int32) (n k : Nat) : Nat := cnt (fun i => if aI u (4 * i) (4 * k) = 0 then (if aI u (4 * k) (4 * i) = 0 then decide (i < k) else false) else true) n
def RSs (n : Nat) (g st : Nat → Int32) : Prop := st 52 = nI n ∧ (∀ k, k < n → rnk (fun t => st (311 + t)) n k < n ∧ ∀ j, j < 4 → g (4 * rnk (fun t => st (311 + t)) n k + j) = st (311 + (4 * k + j))) ∧ (∀ b, b < n → ∃ k, k < n ∧ rnk (fun t => st (311 + t)) n k = b) ∧ (∀ k k', k < n → k' < n → rnk (fun t => st (311 + t)) n k = rnk (fun t => st (311 + t)) n k' → k = k') ∧ ∀ i, i + 1 < n → aI g (4 * (i + 1)) (4 * i) = 0
def RS (P : sP) (l : Int32) (st : Nat → Int32) : Prop := okN P ∧ RSf (P.1 2) (P.1 4) st ∧ st 50 = l ∧ RSo (P.2 5) (P.1 6) st ∧ RSs (P.2 7) (P.1 8) st ∧ RSd (P.2 9) (P.1 10) st ∧ RSe (P.2 11) (P.1 12) (P.1 13) st
section
variable {n : Nat} {f g o q e v st st' : Nat → Int32}
theorem RSf_fr (h : RSf f g st) (hs : ∀ t, t < 50 → st' t = st t) : RSf f g st' := ⟨h.1, h.2.1, fun k hk => ⟨by rw [hs _ (by omega)]; exact (h.2.2 k hk).1, by rw [hs _ (by omega)]; exact (h.2.2 k hk).2⟩⟩
theorem RSo_fr (h : RSo n o st) (hn : n ≤ 64) (h1 : st' 51 = st 51) (hs : ∀ t, 55 ≤ t → t < 311 → st' t = st t) : RSo n o st' := ⟨h1.trans h.1, fun k hk => by rw [hs _ (by omega) (by omega)]; exact h.2.1 k hk, h.2.2⟩
theorem RSd_fr (h : RSd n q st) (hn : n ≤ 200) (h1 : st' 53 = st 53) (hs : ∀ t, 1111 ≤ t → t < 1911 → st' t = st t) : RSd n q st' := ⟨h1.trans h.1, fun k hk => by rw [hs _ (by omega) (by omega)]; exact h.2 k hk⟩
theorem RSe_fr (h : RSe n e v st) (hn : n ≤ 200) (h1 : st' 54 = st 54) (hs : ∀ t, 1911 ≤ t → t < 2911 → st' t = st t) : RSe n e v st' := ⟨h1.trans h.1, fun k hk => ⟨by rw [hs _ (by omega) (by omega)]; exact (h.2.1 k hk).1, fun j hj => by rw [hs _ (by omega) (by omega)]; exact (h.2.1 k hk).2 j hj⟩, h.2.2⟩
theorem cnt_congr {t t' : Nat → Bool} : ∀ n, (∀ i, i < n → t i = t' i) → cnt t n = cnt t' n := by
  intro n
  induction n with
  | zero => intro _; rfl
  | succ n ih => intro h; rw [cnt, cnt, ih (fun i hi => h i (by omega)), h n (by omega)]
theorem aI_congr {u u' : Nat → Int32} {a b a' b' : Nat} (ha : ∀ j, j < 4 → u (a + j) = u' (a' + j)) (hb : ∀ j, j < 4 → u (b + j) = u' (b' + j)) : aI u a b = aI u' a' b' := by
  have a0 := ha 0 (by omega)
  have b0 := hb 0 (by omega)
  simp only [Nat.add_zero] at a0 b0
  unfold aI
  rw [a0, b0, ha 1 (by omega), ha 2 (by omega), ha 3 (by omega), hb 1 (by omega), hb 2 (by omega), hb 3 (by omega)]
theorem rnk_congr {u u' : Nat → Int32} {n k : Nat} (hk : k < n) (h : ∀ t, t < 4 * n → u t = u' t) : rnk u n k = rnk u' n k := by
  refine cnt_congr n (fun i hi => ?_)
  rw [aI_congr (u' := u') (a' := 4 * i) (b' := 4 * k) (fun j hj => h _ (by omega)) (fun j hj => h _ (by omega)), aI_congr (u' := u') (a' := 4 * k) (b' := 4 * i) (fun j hj => h _ (by omega)) (fun j hj => h _ (by omega))]
theorem RSs_fr (h : RSs n g st) (hn : n ≤ 200) (h1 : st' 52 = st 52) (hs : ∀ t, 311 ≤ t → t < 1111 → st' t = st t) : RSs n g st' := by
  have hr : ∀ k, k < n → rnk (fun t => st' (311 + t)) n k = rnk (fun t => st (311 + t)) n k := fun k hk => rnk_congr hk (fun t ht => hs _ (by omega) (by omega))
  obtain ⟨a, b, c, d, e⟩ := h
  refine ⟨h1.trans a, fun k hk => ?_, fun b' hb' => ?_, fun k k' hk hk' => ?_, e⟩
  · rw [hr k hk]
    exact ⟨(b k hk).1, fun j hj => by rw [hs _ (by omega) (by omega)]; exact (b k hk).2 j hj⟩
  · obtain ⟨k, hk, e⟩ := c b' hb'
    exact ⟨k, hk, by rw [hr k hk]; exact e⟩
  · rw [hr k hk, hr k' hk']
    exact d k k' hk hk'
end
section
variable {P : sP} {l : Int32} {st : Nat → Int32} {x y z w : Int32}
theorem s4_lo {g : Nat → Int32} {k t : Nat} {x y z w : Int32} (h : t < k ∨ k + 4 ≤ t) : s4 g k x y z w t = g t := by
  rw [s4_eq, if_neg (by omega), if_neg (by omega), if_neg (by omega), if_neg (by omega)]
theorem up4_lo {g : Nat → Int32} {k t : Nat} {x y z w : Int32} (h : t < 4 * k ∨ 4 * k + 4 ≤ t) : up4 g k x y z w t = g t := by
  unfold up4
  rw [pk_un (by omega), pk_un (by omega), pk_un (by omega), pk_un (by omega)]
theorem up4_at {g : Nat → Int32} {k : Nat} {x y z w : Int32} : up4 g k x y z w (4 * k) = x ∧ up4 g k x y z w (4 * k + 1) = y ∧ up4 g k x y z w (4 * k + 2) = z ∧ up4 g k x y z w (4 * k + 3) = w := by
  unfold up4
  refine ⟨?_, ?_, ?_, ?_⟩
  · rw [pk_un (by omega), pk_un (by omega), pk_un (by omega), pk_us]
  · rw [pk_un (by omega), pk_un (by omega), pk_us]
  · rw [pk_un (by omega), pk_us]
  · rw [pk_us]
theorem s4_up4 {g h : Nat → Int32} {a n : Nat} {x y z w : Int32} (hh : ∀ k, k < 4 * n → g (a + k) = h k) : ∀ k, k < 4 * (n + 1) → s4 g (a + 4 * n) x y z w (a + k) = up4 h n x y z w k := by
  intro k hk
  obtain ⟨u0, u1, u2, u3⟩ := up4_at (g := h) (k := n) (x := x) (y := y) (z := z) (w := w)
  by_cases h1 : k < 4 * n
  · rw [s4_lo (by omega), up4_lo (by omega), hh k h1]
  · have hc : k = 4 * n ∨ k = 4 * n + 1 ∨ k = 4 * n + 2 ∨ k = 4 * n + 3 := by omega
    rw [s4_eq]
    rcases hc with rfl | rfl | rfl | rfl
    · rw [if_neg (by omega), if_neg (by omega), if_neg (by omega), if_pos rfl, u0]
    · rw [if_neg (by omega), if_neg (by omega), if_pos (by omega), u1]
    · rw [if_neg (by omega), if_pos (by omega), u2]
    · rw [if_pos (by omega), u3]
theorem okB_up4 {g : Nat → Int32} {n : Nat} (hB : okB (fun j => if j = 0 then x else if j = 1 then y else if j = 2 then z else w)) (h : ∀ k, k < n → okB (fun j => g (4 * k + j))) : ∀ k, k < n + 1 → okB (fun j => up4 g n x y z w (4 * k + j)) := by
  intro k hk
  obtain ⟨u0, u1, u2, u3⟩ := up4_at (g := g) (k := n) (x := x) (y := y) (z := z) (w := w)
  by_cases h1 : k < n
  · have := h k h1
    unfold okB at this ⊢
    dsimp only at this ⊢
    rw [up4_lo (by omega), up4_lo (by omega), up4_lo (by omega), up4_lo (by omega)]
    exact this
  · have hk' : k = n := by omega
    subst hk'
    unfold okB at hB ⊢
    dsimp only [Nat.add_zero] at hB ⊢
    rw [u0, u1, u2, u3]
    exact hB
abbrev b4 (x y z w : Int32) : Nat → Int32 := fun j => if j = 0 then x else if j = 1 then y else if j = 2 then z else w
theorem RS_add (h : RS P l st) (hn : P.2 5 < 64) (hB : okB (b4 x y z w)) : RS (oAdd P x y z w) l (mOp st (P.2 5) x y z w) := by
  obtain ⟨⟨n5, n7, n9, n11⟩, hf, hl, ho, hs, hd, he⟩ := h
  have lo : ∀ t, (t < 51 ∨ t = 52 ∨ t = 53 ∨ t = 54 ∨ 311 ≤ t) → mOp st (P.2 5) x y z w t = st t := fun t ht => by
    unfold mOp
    rw [pk_un (by omega), s4_lo (by omega)]
  refine ⟨⟨by show P.2 5 + 1 ≤ 64; omega, n7, n9, n11⟩, RSf_fr hf (fun t ht => lo t (by omega)), (lo 50 (by omega)).trans hl, ?_, RSs_fr (n := P.2 7) hs (by omega) (lo 52 (by omega)) (fun t h1 h2 => lo t (by omega)), RSd_fr (n := P.2 9) hd (by omega) (lo 53 (by omega)) (fun t h1 h2 => lo t (by omega)), RSe_fr (n := P.2 11) he (by omega) (lo 54 (by omega)) (fun t h1 h2 => lo t (by omega))⟩
  refine ⟨pk_us, fun k hk => ?_, okB_up4 hB ho.2.2⟩
  have hk' : k < 4 * (P.2 5 + 1) := hk
  show mOp st (P.2 5) x y z w (55 + k) = up4 (P.1 6) (P.2 5) x y z w k
  unfold mOp
  rw [pk_un (by omega)]
  exact s4_up4 ho.2.1 k hk'
theorem RS_dou (h : RS P l st) (hn : P.2 9 < P.2 11) : RS (oDou P x y z w) l (mDo st (P.2 9) x y z w) := by
  obtain ⟨⟨n5, n7, n9, n11⟩, hf, hl, ho, hs, hd, he⟩ := h
  have lo : ∀ t, (t < 53 ∨ t = 54 ∨ 55 ≤ t ∧ t < 1111 ∨ 1911 ≤ t) → mDo st (P.2 9) x y z w t = st t := fun t ht => by
    unfold mDo
    rw [pk_un (by omega), s4_lo (by omega)]
  refine ⟨⟨n5, n7, by show P.2 9 + 1 ≤ P.2 11; omega, n11⟩, RSf_fr hf (fun t ht => lo t (by omega)), (lo 50 (by omega)).trans hl, RSo_fr (n := P.2 5) ho (by omega) (lo 51 (by omega)) (fun t h1 h2 => lo t (by omega)), RSs_fr (n := P.2 7) hs (by omega) (lo 52 (by omega)) (fun t h1 h2 => lo t (by omega)), ?_, RSe_fr (n := P.2 11) he (by omega) (lo 54 (by omega)) (fun t h1 h2 => lo t (by omega))⟩
  refine ⟨pk_us, fun k hk => ?_⟩
  have hk' : k < 4 * (P.2 9 + 1) := hk
  show mDo st (P.2 9) x y z w (1111 + k) = up4 (P.1 10) (P.2 9) x y z w k
  unfold mDo
  rw [pk_un (by omega)]
  exact s4_up4 hd.2 k hk'
theorem RS_ent {v : Int32} (h : RS P l st) (hn : P.2 11 < 200) (hB : okB (b4 x y z w)) : RS (oEnt P v x y z w) l (mEn st (P.2 11) v x y z w) := by
  obtain ⟨⟨n5, n7, n9, n11⟩, hf, hl, ho, hs, hd, he⟩ := h
  have lo : ∀ t, (t < 54 ∨ 55 ≤ t ∧ t < 1911 + 5 * P.2 11) → mEn st (P.2 11) v x y z w t = st t := fun t ht => by
    unfold mEn
    rw [pk_un (by omega), pk_un (by omega), s4_lo (by omega)]
  refine ⟨⟨n5, by show P.2 7 ≤ P.2 11 + 1; omega, by show P.2 9 ≤ P.2 11 + 1; omega, by show P.2 11 + 1 ≤ 200; omega⟩, RSf_fr hf (fun t ht => lo t (by omega)), (lo 50 (by omega)).trans hl, RSo_fr (n := P.2 5) ho (by omega) (lo 51 (by omega)) (fun t h1 h2 => lo t (by omega)), RSs_fr (n := P.2 7) hs (by omega) (lo 52 (by omega)) (fun t h1 h2 => lo t (by omega)), RSd_fr (n := P.2 9) hd (by omega) (lo 53 (by omega)) (fun t h1 h2 => lo t (by omega)), ?_⟩
  refine ⟨pk_us, fun k hk => ?_, okB_up4 hB he.2.2⟩
  have hk' : k < P.2 11 + 1 := hk
  show mEn st (P.2 11) v x y z w (1911 + 5 * k + 4) = upd (P.1 13) (P.2 11) v k ∧ ∀ j, j < 4 → mEn st (P.2 11) v x y z w (1911 + 5 * k + j) = up4 (P.1 12) (P.2 11) x y z w (4 * k + j)
  by_cases h1 : k < P.2 11
  · obtain ⟨a, b⟩ := he.2.1 k h1
    refine ⟨?_, fun j hj => ?_⟩
    · rw [lo _ (by omega), pk_un (by omega)]; exact a
    · rw [lo _ (by omega), up4_lo (by omega)]; exact b j hj
  · have hk2 : k = P.2 11 := by omega
    rw [hk2]
    unfold mEn
    refine ⟨by rw [pk_un (by omega), pk_us, pk_us], fun j hj => ?_⟩
    obtain ⟨u0, u1, u2, u3⟩ := up4_at (g := P.1 12) (k := P.2 11) (x := x) (y := y) (z := z) (w := w)
    rw [pk_un (by omega), pk_un (by omega), s4_eq]
    have hc : j = 0 ∨ j = 1 ∨ j = 2 ∨ j = 3 := by omega
    rcases hc with rfl | rfl | rfl | rfl
    · rw [if_neg (by omega), if_neg (by omega), if_neg (by omega), if_pos (by omega), Nat.add_zero, u0]
    · rw [if_neg (by omega), if_neg (by omega), if_pos (by omega), u1]
    · rw [if_neg (by omega), if_pos (by omega), u2]
    · rw [if_pos (by omega), u3]
theorem RS_rm {k : Nat} (h : RS P l st) (hk : k < P.2 5) : RS (oRm P k) l (mCl st (P.2 5) k) := by
  obtain ⟨⟨n5, n7, n9, n11⟩, hf, hl, ho, hs, hd, he⟩ := h
  have lo : ∀ t, (t < 51 ∨ t = 52 ∨ t = 53 ∨ t = 54 ∨ 311 ≤ t) → mCl st (P.2 5) k t = st t := fun t ht => by
    unfold mCl
    rw [if_neg (by omega), if_neg (by omega)]
  refine ⟨⟨by show P.2 5 - 1 ≤ 64; omega, n7, n9, n11⟩, RSf_fr hf (fun t ht => lo t (by omega)), (lo 50 (by omega)).trans hl, ?_, RSs_fr (n := P.2 7) hs (by omega) (lo 52 (by omega)) (fun t h1 h2 => lo t (by omega)), RSd_fr (n := P.2 9) hd (by omega) (lo 53 (by omega)) (fun t h1 h2 => lo t (by omega)), RSe_fr (n := P.2 11) he (by omega) (lo 54 (by omega)) (fun t h1 h2 => lo t (by omega))⟩
  refine ⟨if_pos rfl, fun t ht => ?_, fun b hb => ?_⟩
  · have ht' : t < 4 * (P.2 5 - 1) := ht
    show mCl st (P.2 5) k (55 + t) = sw (P.1 6) k (P.2 5 - 1) t
    unfold mCl sw
    rw [if_neg (by omega)]
    by_cases h1 : 4 * k ≤ t ∧ t < 4 * k + 4
    · rw [if_pos (by omega), if_pos h1, ← ho.2.1 _ (by omega)]
      congr 1; omega
    · rw [if_neg (by omega), if_neg h1, if_neg (by omega)]
      exact ho.2.1 t (by omega)
  · have hb' : b < P.2 5 - 1 := hb
    show okB (fun j => sw (P.1 6) k (P.2 5 - 1) (4 * b + j))
    by_cases h1 : b = k
    · have := ho.2.2 (P.2 5 - 1) (by omega)
      unfold okB at this ⊢
      unfold sw
      dsimp only at this ⊢
      rw [if_pos (by omega), if_pos (by omega), if_pos (by omega), if_pos (by omega), show 4 * b + 0 - 4 * k + 4 * (P.2 5 - 1) = 4 * (P.2 5 - 1) + 0 by omega, show 4 * b + 1 - 4 * k + 4 * (P.2 5 - 1) = 4 * (P.2 5 - 1) + 1 by omega, show 4 * b + 2 - 4 * k + 4 * (P.2 5 - 1) = 4 * (P.2 5 - 1) + 2 by omega, show 4 * b + 3 - 4 * k + 4 * (P.2 5 - 1) = 4 * (P.2 5 - 1) + 3 by omega]
      exact this
    · have := ho.2.2 b (by omega)
      unfold okB at this ⊢
      unfold sw
      dsimp only at this ⊢
      rw [if_neg (by omega), if_neg (by omega), if_neg (by omega), if_neg (by omega), if_neg (by omega), if_neg (by omega), if_neg (by omega), if_neg (by omega)]
      exact this
end
