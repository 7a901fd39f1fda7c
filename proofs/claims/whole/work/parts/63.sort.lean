/-! ===== the solved ones: the class keeps them in order, the model counts ===== -/
def lxI (a0 a1 a2 a3 b0 b1 b2 b3 : Int) : Prop := a0 < b0 ∨ a0 = b0 ∧ (a2 < b2 ∨ a2 = b2 ∧ (a1 < b1 ∨ a1 = b1 ∧ a3 < b3))
theorem aI_lx {g : Nat → Int32} {a b : Nat} : aI g a b = 0 ↔ ¬ lxI (g a).toInt (g (a + 1)).toInt (g (a + 2)).toInt (g (a + 3)).toInt (g b).toInt (g (b + 1)).toInt (g (b + 2)).toInt (g (b + 3)).toInt := by
  have o : ¬ (1 : Int32) = 0 := by decide
  unfold aI lxI
  simp only [i_inj (x := g a), i_inj (x := g (a + 1)), i_inj (x := g (a + 2)), i_le]
  (repeat' split) <;> simp only [o, false_iff, true_iff, Classical.not_not] <;> omega
theorem aI_01 (g : Nat → Int32) (a b : Nat) : aI g a b = 0 ∨ aI g a b = 1 := by
  unfold aI
  (repeat' split) <;> first | exact Or.inl rfl | exact Or.inr rfl
theorem aI_tr {g : Nat → Int32} {a b c : Nat} (h1 : aI g b a = 0) (h2 : aI g c b = 0) : aI g c a = 0 := by
  rw [aI_lx] at h1 h2 ⊢
  unfold lxI at *
  omega
theorem aI_as {g : Nat → Int32} {a b : Nat} (h : ¬ aI g a b = 0) : aI g b a = 0 := by
  rw [aI_lx] at h ⊢
  unfold lxI at *
  omega
theorem aI_rf {g : Nat → Int32} {a : Nat} : aI g a a = 0 := by
  rw [aI_lx]
  unfold lxI
  omega
theorem icmp_i (x y : Int32) : (icmp x y = 0 ↔ x.toInt = y.toInt) ∧ (0 ≤ icmp x y ↔ y.toInt ≤ x.toInt) := by
  have a1 : ¬ (1 : Int32) = 0 := by decide
  have a2 : ¬ (-1 : Int32) = 0 := by decide
  have a3 : (0 : Int32) ≤ 1 := by decide
  have a4 : ¬ (0 : Int32) ≤ -1 := by decide
  have a5 : (0 : Int32) ≤ 0 := by decide
  unfold icmp
  by_cases h : y ≤ x
  · rw [if_pos h]
    by_cases e : x = y
    · rw [if_pos e]
      rw [i_inj] at e
      exact ⟨⟨fun _ => e, fun _ => rfl⟩, ⟨fun _ => by omega, fun _ => a5⟩⟩
    · rw [if_neg e]
      rw [i_inj] at e
      rw [i_le] at h
      exact ⟨⟨fun h => absurd h a1, fun h => absurd h e⟩, ⟨fun _ => h, fun _ => a3⟩⟩
  · rw [if_neg h]
    rw [i_le] at h
    exact ⟨⟨fun h => absurd h a2, fun e => by omega⟩, ⟨fun h => absurd h a4, fun e => by omega⟩⟩
theorem bcmp_aI {g : Nat → Int32} {p q : Nat} : 0 ≤ bcmp g p q ↔ aI g (4 * p) (4 * q) = 0 := by
  rw [aI_lx]
  unfold bcmp lxI
  dsimp only
  obtain ⟨a1, a2⟩ := icmp_i (g (4 * p)) (g (4 * q))
  obtain ⟨b1, b2⟩ := icmp_i (g (4 * p + 2)) (g (4 * q + 2))
  obtain ⟨c1, c2⟩ := icmp_i (g (4 * p + 1)) (g (4 * q + 1))
  obtain ⟨d1, d2⟩ := icmp_i (g (4 * p + 3)) (g (4 * q + 3))
  by_cases h1 : icmp (g (4 * p)) (g (4 * q)) = 0
  · have e1 := a1.mp h1
    rw [if_pos h1]
    by_cases h2 : icmp (g (4 * p + 2)) (g (4 * q + 2)) = 0
    · have e2 := b1.mp h2
      rw [if_pos h2]
      by_cases h3 : icmp (g (4 * p + 1)) (g (4 * q + 1)) = 0
      · have e3 := c1.mp h3
        rw [if_pos h3, d2]
        simp only [e1, e2, e3, Int.lt_irrefl, false_or, true_and]
        exact Int.not_lt.symm
      · have e3 := fun e => h3 (c1.mpr e)
        rw [if_neg h3, c2]
        simp only [e1, e2, Int.lt_irrefl, false_or, true_and]
        exact ⟨fun h hh => hh.elim (fun hh => by omega) (fun hh => e3 hh.1), fun h => Int.not_lt.mp (fun hh => h (Or.inl hh))⟩
    · have e2 := fun e => h2 (b1.mpr e)
      rw [if_neg h2, if_neg h2, b2]
      simp only [e1, Int.lt_irrefl, false_or, true_and]
      exact ⟨fun h hh => hh.elim (fun hh => by omega) (fun hh => e2 hh.1), fun h => Int.not_lt.mp (fun hh => h (Or.inl hh))⟩
  · have e1 := fun e => h1 (a1.mpr e)
    rw [if_neg h1, if_neg h1, if_neg h1, a2]
    exact ⟨fun h hh => hh.elim (fun hh => by omega) (fun hh => e1 hh.1), fun h => Int.not_lt.mp (fun hh => h (Or.inl hh))⟩
theorem insB_sp : ∀ (k : Nat) (g : Nat → Int32), ∃ p, p ≤ k ∧ (∀ i, i < p → ∀ t, t < 4 → insB g k (4 * i + t) = g (4 * i + t)) ∧ (∀ t, t < 4 → insB g k (4 * p + t) = g (4 * k + t)) ∧ (∀ i, p < i → i ≤ k → ∀ t, t < 4 → insB g k (4 * i + t) = g (4 * (i - 1) + t)) ∧ (∀ i, k < i → ∀ t, t < 4 → insB g k (4 * i + t) = g (4 * i + t)) ∧ (p = 0 ∨ aI g (4 * k) (4 * (p - 1)) = 0) ∧ (∀ i, p ≤ i → i < k → ¬ aI g (4 * k) (4 * i) = 0) := by
  intro k
  induction k with
  | zero => intro g; exact ⟨0, by omega, fun i hi => absurd hi (by omega), fun t _ => rfl, fun i h1 h2 => absurd h1 (by omega), fun i _ t _ => rfl, Or.inl rfl, fun i h1 h2 => absurd h2 (by omega)⟩
  | succ k ih =>
    intro g
    rw [insB]
    by_cases hc : 0 ≤ bcmp g (k + 1) k
    · rw [if_pos hc]
      rw [bcmp_aI] at hc
      exact ⟨k + 1, by omega, fun i _ t _ => rfl, fun t _ => rfl, fun i h1 h2 => absurd h1 (by omega), fun i _ t _ => rfl, Or.inr hc, fun i h1 h2 => absurd h2 (by omega)⟩
    · rw [if_neg hc]
      rw [bcmp_aI] at hc
      obtain ⟨p, p1, p2, p3, p4, p5, p6, p7⟩ := ih (sw g (k + 1) k)
      have s1 : ∀ i, i ≠ k → i ≠ k + 1 → ∀ t, t < 4 → sw g (k + 1) k (4 * i + t) = g (4 * i + t) := fun i h1 h2 t ht => by
        unfold sw
        rw [if_neg (by omega), if_neg (by omega)]
      have s2 : ∀ t, t < 4 → sw g (k + 1) k (4 * k + t) = g (4 * (k + 1) + t) := fun t ht => by
        unfold sw
        rw [if_neg (by omega), if_pos (by omega)]
        congr 1; omega
      have s3 : ∀ t, t < 4 → sw g (k + 1) k (4 * (k + 1) + t) = g (4 * k + t) := fun t ht => by
        unfold sw
        rw [if_pos (by omega)]
        congr 1; omega
      refine ⟨p, by omega, fun i hi t ht => ?_, fun t ht => ?_, fun i h1 h2 t ht => ?_, fun i h1 t ht => ?_, ?_, fun i h1 h2 => ?_⟩
      · rw [p2 i hi t ht, s1 i (by omega) (by omega) t ht]
      · rw [p3 t ht, s2 t ht]
      · by_cases hi : i = k + 1
        · rw [hi, p5 (k + 1) (by omega) t ht, s3 t ht]; rfl
        · rw [p4 i h1 (by omega) t ht, s1 (i - 1) (by omega) (by omega) t ht]
      · rw [p5 i (by omega) t ht, s1 i (by omega) (by omega) t ht]
      · rcases p6 with h | h
        · exact Or.inl h
        · by_cases h0 : p = 0
          · exact Or.inl h0
          · refine Or.inr ?_
            rw [← h]
            exact aI_congr (fun t ht => (s2 t ht).symm) (fun t ht => (s1 (p - 1) (by omega) (by omega) t ht).symm)
      · by_cases hi : i = k
        · rw [hi]; exact hc
        · intro h
          refine p7 i h1 (by omega) ?_
          rw [← h]
          exact aI_congr (fun t ht => s2 t ht) (fun t ht => s1 i hi (by omega) t ht)
theorem cnt_one {t : Nat → Bool} {k0 : Nat} : ∀ n, k0 < n → t k0 = true → (∀ k, k < n → t k = true → k = k0) → cnt t n = 1 := by
  have z : ∀ n, (∀ k, k < n → t k = false) → cnt t n = 0 := by
    intro n
    induction n with
    | zero => intro _; rfl
    | succ n ih => intro h; rw [cnt, ih (fun k hk => h k (by omega)), h n (by omega)]; rfl
  intro n
  induction n with
  | zero => intro h; exact absurd h (by omega)
  | succ n ih =>
    intro h0 h1 h2
    rw [cnt]
    by_cases hk : k0 = n
    · rw [← hk, h1, z k0 (fun k hk' => ?_)]
      · rfl
      · cases ht : t k with
        | false => rfl
        | true => exact absurd (h2 k (by omega) ht) (by omega)
    · rw [ih (by omega) h1 (fun k hk' => h2 k (by omega))]
      cases ht : t n with
      | false => rfl
      | true => exact absurd (h2 n (by omega) ht) (by omega)
theorem cnt_bij {ρ : Nat → Nat} {n : Nat} (hs : ∀ b, b < n → ∃ k, k < n ∧ ρ k = b) (hi : ∀ k k', k < n → k' < n → ρ k = ρ k' → k = k') : ∀ p, p ≤ n → cnt (fun i => decide (ρ i < p)) n = p := by
  intro p
  induction p with
  | zero =>
    intro _
    have : ∀ m, cnt (fun i => decide (ρ i < 0)) m = 0 := by
      intro m
      induction m with
      | zero => rfl
      | succ m ih => rw [cnt, ih]; rfl
    exact this n
  | succ p ih =>
    intro hp
    obtain ⟨k0, hk0, e0⟩ := hs p (by omega)
    have h1 : cnt (fun i => decide (ρ i = p)) n = 1 := cnt_one n hk0 (decide_eq_true e0) (fun k hk h => hi k k0 hk hk0 (by rw [e0]; exact of_decide_eq_true h))
    have h2 : ∀ m, cnt (fun i => decide (ρ i < p + 1)) m = cnt (fun i => decide (ρ i < p)) m + cnt (fun i => decide (ρ i = p)) m := by
      intro m
      induction m with
      | zero => rfl
      | succ m ih =>
        rw [cnt, cnt, cnt, ih]
        by_cases c1 : ρ m < p
        · simp [c1, show ρ m < p + 1 by omega, show ¬ ρ m = p by omega]; omega
        · by_cases c2 : ρ m = p
          · simp [c2]; omega
          · simp [c1, c2, show ¬ ρ m < p + 1 by omega]
    rw [h2, ih (by omega), h1]
theorem srt_le {g : Nat → Int32} {n : Nat} (h : ∀ i, i + 1 < n → aI g (4 * (i + 1)) (4 * i) = 0) : ∀ (r i : Nat), i + r < n → aI g (4 * (i + r)) (4 * i) = 0 := by
  intro r
  induction r with
  | zero => intro i _; exact aI_rf
  | succ r ih => intro i hi; exact aI_tr (ih i (by omega)) (h (i + r) (by omega))
section
variable {P : sP} {l : Int32} {st : Nat → Int32} {x y z w : Int32}
theorem RS_sol (h : RS P l st) (hn : P.2 7 < P.2 11) : RS (oSol P x y z w) l (mSo st (P.2 7) x y z w) := by
  obtain ⟨⟨n5, n7, n9, n11⟩, hf, hl, ho, hs, hd, he⟩ := h
  have lo : ∀ t, (t < 52 ∨ t = 53 ∨ t = 54 ∨ 55 ≤ t ∧ t < 311 ∨ 1111 ≤ t) → mSo st (P.2 7) x y z w t = st t := fun t ht => by
    unfold mSo
    rw [pk_un (by omega), s4_lo (by omega)]
  refine ⟨⟨n5, by show P.2 7 + 1 ≤ P.2 11; omega, n9, n11⟩, RSf_fr hf (fun t ht => lo t (by omega)), (lo 50 (by omega)).trans hl, RSo_fr (n := P.2 5) ho (by omega) (lo 51 (by omega)) (fun t h1 h2 => lo t (by omega)), ?_, RSd_fr (n := P.2 9) hd (by omega) (lo 53 (by omega)) (fun t h1 h2 => lo t (by omega)), RSe_fr (n := P.2 11) he (by omega) (lo 54 (by omega)) (fun t h1 h2 => lo t (by omega))⟩
  show RSs (P.2 7 + 1) (insB (up4 (P.1 8) (P.2 7) x y z w) (P.2 7)) (mSo st (P.2 7) x y z w)
  generalize hN : P.2 7 = n at *
  generalize P.1 8 = g at *
  obtain ⟨s1, s2, s3, s4', s5⟩ := hs
  obtain ⟨u, hu⟩ : ∃ u : Nat → Int32, u = fun t => st (311 + t) := ⟨_, rfl⟩
  obtain ⟨u', hu'⟩ : ∃ u' : Nat → Int32, u' = fun t => mSo st n x y z w (311 + t) := ⟨_, rfl⟩
  obtain ⟨g1, hg1⟩ : ∃ g1 : Nat → Int32, g1 = up4 g n x y z w := ⟨_, rfl⟩
  have ux : ∀ t, st (311 + t) = u t := fun t => by rw [hu]
  have ux' : ∀ t, mSo st n x y z w (311 + t) = u' t := fun t => by rw [hu']
  have u_lo : ∀ t, t < 4 * n → u' t = u t := fun t ht => by
    rw [← ux', ← ux]
    unfold mSo
    rw [pk_un (by omega), s4_lo (by omega)]
  have u_n : ∀ t, t < 4 → u' (4 * n + t) = g1 (4 * n + t) := fun t ht => by
    rw [← ux', hg1]
    unfold mSo
    rw [pk_un (by omega)]
    have := s4_up4 (g := st) (h := u) (a := 311) (n := n) (x := x) (y := y) (z := z) (w := w) (fun k hk => ux k) (4 * n + t) (by omega)
    rw [this]
    obtain ⟨a0, a1, a2, a3⟩ := up4_at (g := u) (k := n) (x := x) (y := y) (z := z) (w := w)
    obtain ⟨b0, b1, b2, b3⟩ := up4_at (g := g) (k := n) (x := x) (y := y) (z := z) (w := w)
    have hc : t = 0 ∨ t = 1 ∨ t = 2 ∨ t = 3 := by omega
    rcases hc with rfl | rfl | rfl | rfl
    · exact a0.trans b0.symm
    · exact a1.trans b1.symm
    · exact a2.trans b2.symm
    · exact a3.trans b3.symm
  have g_lo : ∀ i, i < n → ∀ t, t < 4 → g1 (4 * i + t) = g (4 * i + t) := fun i hi t ht => by rw [hg1, up4_lo (by omega)]
  have s2 : ∀ k, k < n → rnk u n k < n ∧ ∀ j, j < 4 → g (4 * rnk u n k + j) = u (4 * k + j) := by rw [hu]; exact s2
  have s3 : ∀ b, b < n → ∃ k, k < n ∧ rnk u n k = b := by rw [hu]; exact s3
  have s4' : ∀ k k', k < n → k' < n → rnk u n k = rnk u n k' → k = k' := by rw [hu]; exact s4'
  rw [← hg1]
  obtain ⟨p, p1, p2, p3, p4, p5, p6, p7⟩ := insB_sp n g1
  -- where the new one stands
  have below : ∀ i, i < p → i < n → aI g1 (4 * n) (4 * i) = 0 := fun i hi hin => by
    rcases p6 with h0 | h0
    · exact absurd hi (by omega)
    · have e1 : aI g (4 * (i + (p - 1 - i))) (4 * i) = 0 := srt_le s5 (p - 1 - i) i (by omega)
      rw [show i + (p - 1 - i) = p - 1 by omega] at e1
      have e2 : aI g1 (4 * (p - 1)) (4 * i) = 0 := by
        rw [← e1]
        exact aI_congr (fun t ht => g_lo (p - 1) (by omega) t ht) (fun t ht => g_lo i hin t ht)
      exact aI_tr e2 h0
  have cmp : ∀ k, k < n → (aI u' (4 * n) (4 * k) = 0 ↔ rnk u n k < p) := fun k hk => by
    obtain ⟨r1, r2⟩ := s2 k hk
    have e : aI u' (4 * n) (4 * k) = aI g1 (4 * n) (4 * rnk u n k) := aI_congr (fun t ht => u_n t ht) (fun t ht => by rw [u_lo _ (by omega), g_lo _ r1 t ht, r2 t ht])
    rw [e]
    constructor
    · intro h
      by_cases hp : rnk u n k < p
      · exact hp
      · exact absurd h (p7 _ (by omega) r1)
    · intro h; exact below _ h r1
  -- the new places
  have new : rnk u' (n + 1) n = p := by
    unfold rnk
    rw [cnt]
    have e0 : (if aI u' (4 * n) (4 * n) = 0 then (if aI u' (4 * n) (4 * n) = 0 then decide (n < n) else false) else true) = false := by
      rw [if_pos aI_rf, if_pos aI_rf]; exact decide_eq_false (by omega)
    have e1 : cnt (fun i => if aI u' (4 * i) (4 * n) = 0 then (if aI u' (4 * n) (4 * i) = 0 then decide (i < n) else false) else true) n = cnt (fun i => decide (rnk u n i < p)) n := by
      refine cnt_congr n (fun i hi => ?_)
      have c := cmp i hi
      by_cases h1 : aI u' (4 * n) (4 * i) = 0
      · rw [if_pos h1, decide_eq_true hi, decide_eq_true (c.mp h1)]
        split <;> rfl
      · rw [if_pos (aI_as h1), if_neg h1, decide_eq_false (fun h => h1 (c.mpr h))]
    rw [e0, e1, cnt_bij s3 s4' p p1]
    rfl
  have old : ∀ k, k < n → rnk u' (n + 1) k = if rnk u n k < p then rnk u n k else rnk u n k + 1 := fun k hk => by
    have e1 : rnk u' n k = rnk u n k := rnk_congr hk u_lo
    have e2 : rnk u' (n + 1) k = rnk u' n k + (if (if aI u' (4 * n) (4 * k) = 0 then (if aI u' (4 * k) (4 * n) = 0 then decide (n < k) else false) else true) = true then 1 else 0) := rfl
    rw [e2, e1]
    have c := cmp k hk
    by_cases h1 : aI u' (4 * n) (4 * k) = 0
    · rw [if_pos h1, if_pos (c.mp h1), decide_eq_false (show ¬ n < k by omega)]
      split <;> rfl
    · rw [if_neg h1, if_neg (fun h => h1 (c.mpr h))]
      rfl
  have box : ∀ i, i ≤ n → ∀ t, t < 4 → insB g1 n (4 * i + t) = if i < p then g1 (4 * i + t) else if i = p then g1 (4 * n + t) else g1 (4 * (i - 1) + t) := fun i hi t ht => by
    by_cases h1 : i < p
    · rw [if_pos h1, p2 i h1 t ht]
    · rw [if_neg h1]
      by_cases h2 : i = p
      · rw [if_pos h2, h2, p3 t ht]
      · rw [if_neg h2, p4 i (by omega) hi t ht]
  rw [show RSs (n + 1) (insB g1 n) (mSo st n x y z w) = (mSo st n x y z w 52 = nI (n + 1) ∧ (∀ k, k < n + 1 → rnk u' (n + 1) k < n + 1 ∧ ∀ j, j < 4 → insB g1 n (4 * rnk u' (n + 1) k + j) = mSo st n x y z w (311 + (4 * k + j))) ∧ (∀ b, b < n + 1 → ∃ k, k < n + 1 ∧ rnk u' (n + 1) k = b) ∧ (∀ k k', k < n + 1 → k' < n + 1 → rnk u' (n + 1) k = rnk u' (n + 1) k' → k = k') ∧ ∀ i, i + 1 < n + 1 → aI (insB g1 n) (4 * (i + 1)) (4 * i) = 0) by rw [hu']; rfl]
  refine ⟨pk_us, fun k hk => ?_, fun b hb => ?_, fun k k' hk hk' hkk => ?_, fun i hi => ?_⟩
  · simp only [ux']
    by_cases hkn : k = n
    · rw [hkn, new]
      refine ⟨by omega, fun j hj => ?_⟩
      rw [box p (by omega) j hj, if_neg (by omega), if_pos rfl, u_n j hj]
    · obtain ⟨r1, r2⟩ := s2 k (by omega)
      rw [old k (by omega)]
      by_cases hp : rnk u n k < p
      · rw [if_pos hp]
        refine ⟨by omega, fun j hj => ?_⟩
        rw [box _ (by omega) j hj, if_pos hp, g_lo _ r1 j hj, r2 j hj, u_lo _ (by omega)]
      · rw [if_neg hp]
        refine ⟨by omega, fun j hj => ?_⟩
        rw [box _ (by omega) j hj, if_neg (by omega), if_neg (by omega), Nat.add_sub_cancel, g_lo _ r1 j hj, r2 j hj, u_lo _ (by omega)]
  · by_cases h1 : b = p
    · exact ⟨n, by omega, by rw [new, h1]⟩
    · by_cases h2 : b < p
      · obtain ⟨k, hk, e⟩ := s3 b (by omega)
        exact ⟨k, by omega, by rw [old k hk, e, if_pos h2]⟩
      · obtain ⟨k, hk, e⟩ := s3 (b - 1) (by omega)
        exact ⟨k, by omega, by rw [old k hk, e, if_neg (by omega)]; omega⟩
  · by_cases h1 : k = n
    · by_cases h2 : k' = n
      · omega
      · rw [h1, new, old k' (by omega)] at hkk
        split at hkk <;> omega
    · by_cases h2 : k' = n
      · rw [h2, new, old k (by omega)] at hkk
        split at hkk <;> omega
      · rw [old k (by omega), old k' (by omega)] at hkk
        refine s4' k k' (by omega) (by omega) ?_
        split at hkk <;> split at hkk <;> omega
  · by_cases h1 : i + 1 < p
    · rw [aI_congr (u' := g) (a' := 4 * (i + 1)) (b' := 4 * i) (fun t ht => by rw [box _ (by omega) t ht, if_pos h1, g_lo _ (by omega) t ht]) (fun t ht => by rw [box _ (by omega) t ht, if_pos (by omega), g_lo _ (by omega) t ht])]
      exact s5 i (by omega)
    · by_cases h2 : i + 1 = p
      · rw [aI_congr (u' := g1) (a' := 4 * n) (b' := 4 * i) (fun t ht => by rw [box _ (by omega) t ht, if_neg h1, if_pos h2]) (fun t ht => by rw [box _ (by omega) t ht, if_pos (by omega)])]
        exact below i (by omega) (by omega)
      · by_cases h3 : i = p
        · rw [aI_congr (u' := g1) (a' := 4 * i) (b' := 4 * n) (fun t ht => by rw [box _ (by omega) t ht, if_neg h1, if_neg h2, Nat.add_sub_cancel]) (fun t ht => by rw [box _ (by omega) t ht, if_neg (by omega), if_pos h3])]
          exact aI_as (p7 i (by omega) (by omega))
        · rw [aI_congr (u' := g) (a' := 4 * (i - 1 + 1)) (b' := 4 * (i - 1)) (fun t ht => by rw [box _ (by omega) t ht, if_neg h1, if_neg h2, Nat.add_sub_cancel, g_lo _ (by omega) t ht, show i - 1 + 1 = i by omega]) (fun t ht => by rw [box _ (by omega) t ht, if_neg (by omega), if_neg h3, g_lo _ (by omega) t ht])]
          exact s5 (i - 1) (by omega)
end
