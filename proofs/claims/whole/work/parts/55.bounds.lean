/-! ===== bounds: nothing runs over ===== -/
def ib (M : Int) (a : sI) : Prop := a.1.toInt ≤ a.2.toInt ∧ -M ≤ a.1.toInt ∧ a.2.toInt ≤ M
theorem l_mul {x y : Int64} (h1 : -9223372036854775808 ≤ x.toInt * y.toInt) (h2 : x.toInt * y.toInt < 9223372036854775808) : (x * y).toInt = x.toInt * y.toInt := by
  rw [Int64.toInt_mul]; exact bm64 h1 h2
theorem l_add {x y : Int64} (h1 : -9223372036854775808 ≤ x.toInt + y.toInt) (h2 : x.toInt + y.toInt < 9223372036854775808) : (x + y).toInt = x.toInt + y.toInt := by
  rw [Int64.toInt_add]; exact bm64 h1 h2
theorem l_sub {x y : Int64} (h1 : -9223372036854775808 ≤ x.toInt - y.toInt) (h2 : x.toInt - y.toInt < 9223372036854775808) : (x - y).toInt = x.toInt - y.toInt := by
  rw [Int64.toInt_sub]; exact bm64 h1 h2
theorem l_min (x y : Int64) : (lmin x y).toInt = if x.toInt ≤ y.toInt then x.toInt else y.toInt := by
  unfold lmin
  by_cases h : y < x
  · rw [if_pos h]
    rw [l_lt] at h
    rw [if_neg (by omega)]
  · rw [if_neg h]
    rw [l_lt] at h
    rw [if_pos (by omega)]
theorem l_max (x y : Int64) : (lmax x y).toInt = if x.toInt ≤ y.toInt then y.toInt else x.toInt := by
  unfold lmax
  by_cases h : x < y
  · rw [if_pos h]
    rw [l_lt] at h
    rw [if_pos (by omega)]
  · rw [if_neg h]
    rw [l_lt] at h
    by_cases e : x.toInt ≤ y.toInt
    · rw [if_pos e]; omega
    · rw [if_neg e]
theorem abs_mul {x y M N : Int} (h1 : -M ≤ x) (h2 : x ≤ M) (h3 : -N ≤ y) (h4 : y ≤ N) : -(M * N) ≤ x * y ∧ x * y ≤ M * N := by
  have hM : 0 ≤ M := by omega
  have hN : 0 ≤ N := by omega
  have a : (x * y).natAbs ≤ (M * N).natAbs := by
    rw [Int.natAbs_mul, Int.natAbs_mul]
    exact Nat.mul_le_mul (by omega) (by omega)
  have b : 0 ≤ M * N := Int.mul_nonneg hM hN
  omega
theorem fdiv_64 (x : Int64) : (fdiv x 64).toInt = x.toInt / 64 := by
  have h : (64 : Int64).toInt = 64 := rfl
  rw [fdiv_int (by rw [h]; omega) (fun e => by rw [h] at e; omega), h]
  rfl
theorem fdiv_2 (x : Int64) : (fdiv x 2).toInt = x.toInt / 2 := by
  have h : (2 : Int64).toInt = 2 := rfl
  rw [fdiv_int (by rw [h]; omega) (fun e => by rw [h] at e; omega), h]
  rfl
/-- the four products -/
theorem four {a b : sI} {M N : Int} (ha : ib M a) (hb : ib N b) (hMN : M * N < 9223372036854775808) : (a.1 * b.1).toInt = a.1.toInt * b.1.toInt ∧ (a.1 * b.2).toInt = a.1.toInt * b.2.toInt ∧ (a.2 * b.1).toInt = a.2.toInt * b.1.toInt ∧ (a.2 * b.2).toInt = a.2.toInt * b.2.toInt ∧ (-(M * N) ≤ a.1.toInt * b.1.toInt ∧ a.1.toInt * b.1.toInt ≤ M * N) ∧ (-(M * N) ≤ a.1.toInt * b.2.toInt ∧ a.1.toInt * b.2.toInt ≤ M * N) ∧ (-(M * N) ≤ a.2.toInt * b.1.toInt ∧ a.2.toInt * b.1.toInt ≤ M * N) ∧ (-(M * N) ≤ a.2.toInt * b.2.toInt ∧ a.2.toInt * b.2.toInt ≤ M * N) := by
  obtain ⟨a0, a1, a2⟩ := ha
  obtain ⟨b0, b1, b2⟩ := hb
  have p1 := abs_mul a1 (by omega) b1 (by omega : b.1.toInt ≤ N)
  have p2 := abs_mul a1 (by omega) (by omega : -N ≤ b.2.toInt) b2
  have p3 := abs_mul (by omega : -M ≤ a.2.toInt) a2 b1 (by omega : b.1.toInt ≤ N)
  have p4 := abs_mul (by omega : -M ≤ a.2.toInt) a2 (by omega : -N ≤ b.2.toInt) b2
  exact ⟨l_mul (by omega) (by omega), l_mul (by omega) (by omega), l_mul (by omega) (by omega), l_mul (by omega) (by omega), p1, p2, p3, p4⟩
theorem ib_prod {a b : sI} {M N K : Int} (ha : ib M a) (hb : ib N b) (hMN : M * N < 9223372036854775808) (hK : M * N ≤ 64 * K) : ib K (iprod a b) := by
  obtain ⟨e1, e2, e3, e4, p1, p2, p3, p4⟩ := four ha hb hMN
  generalize M * N = Q at *
  generalize a.1.toInt * b.1.toInt = q1 at *
  generalize a.1.toInt * b.2.toInt = q2 at *
  generalize a.2.toInt * b.1.toInt = q3 at *
  generalize a.2.toInt * b.2.toInt = q4 at *
  have lo : (iprod a b).1.toInt = (lmin (lmin (a.1 * b.1) (a.1 * b.2)) (lmin (a.2 * b.1) (a.2 * b.2))).toInt / 64 := fdiv_64 _
  have hx : (lmax (lmax (a.1 * b.1) (a.1 * b.2)) (lmax (a.2 * b.1) (a.2 * b.2))).toInt ≤ Q ∧ -Q ≤ (lmax (lmax (a.1 * b.1) (a.1 * b.2)) (lmax (a.2 * b.1) (a.2 * b.2))).toInt := by
    simp only [l_max, e1, e2, e3, e4]
    constructor <;> (repeat' split) <;> omega
  have hn : (lmin (lmin (a.1 * b.1) (a.1 * b.2)) (lmin (a.2 * b.1) (a.2 * b.2))).toInt ≤ (lmax (lmax (a.1 * b.1) (a.1 * b.2)) (lmax (a.2 * b.1) (a.2 * b.2))).toInt ∧ -Q ≤ (lmin (lmin (a.1 * b.1) (a.1 * b.2)) (lmin (a.2 * b.1) (a.2 * b.2))).toInt := by
    simp only [l_min, l_max, e1, e2, e3, e4]
    constructor <;> (repeat' split) <;> omega
  have hi : (iprod a b).2.toInt = -((-(lmax (lmax (a.1 * b.1) (a.1 * b.2)) (lmax (a.2 * b.1) (a.2 * b.2))).toInt) / 64) := by
    show (-fdiv (-(lmax (lmax (a.1 * b.1) (a.1 * b.2)) (lmax (a.2 * b.1) (a.2 * b.2)))) 64).toInt = _
    have n1 := l_neg (x := lmax (lmax (a.1 * b.1) (a.1 * b.2)) (lmax (a.2 * b.1) (a.2 * b.2))) (by omega)
    have f1 := fdiv_64 (-(lmax (lmax (a.1 * b.1) (a.1 * b.2)) (lmax (a.2 * b.1) (a.2 * b.2))))
    rw [n1] at f1
    rw [l_neg (by omega), f1]
  refine ⟨?_, ?_, ?_⟩ <;> omega
theorem ib_64 : ib 64 ((64, 64) : sI) := ⟨Int.le_refl _, by show _ ≤ (64 : Int64).toInt; decide, by show (64 : Int64).toInt ≤ _; decide⟩
theorem one_r {a : sI} {M : Int} (ha : ib M a) (hM : M * 64 < 9223372036854775808) : iprod a (64, 64) = a := by
  have h64 : (64 : Int64).toInt = 64 := rfl
  have hb : ib 64 ((64, 64) : sI) := ib_64
  obtain ⟨e1, e2, e3, e4, p1, p2, p3, p4⟩ := four ha hb hM
  obtain ⟨a0, a1, a2⟩ := ha
  simp only [h64] at e1 e2 e3 e4 p1 p2 p3 p4
  refine Prod.ext ?_ ?_
  · rw [l_inj]
    show (fdiv (lmin (lmin (a.1 * 64) (a.1 * 64)) (lmin (a.2 * 64) (a.2 * 64))) 64).toInt = _
    rw [fdiv_64]
    simp only [l_min, e1, e3]
    (repeat' split) <;> omega
  · rw [l_inj]
    show (-fdiv (-(lmax (lmax (a.1 * 64) (a.1 * 64)) (lmax (a.2 * 64) (a.2 * 64)))) 64).toInt = _
    have hx : (lmax (lmax (a.1 * 64) (a.1 * 64)) (lmax (a.2 * 64) (a.2 * 64))).toInt = a.2.toInt * 64 := by
      simp only [l_max, e1, e3]
      (repeat' split) <;> omega
    have n1 := l_neg (x := lmax (lmax (a.1 * 64) (a.1 * 64)) (lmax (a.2 * 64) (a.2 * 64))) (by omega)
    have f1 := fdiv_64 (-(lmax (lmax (a.1 * 64) (a.1 * 64)) (lmax (a.2 * 64) (a.2 * 64))))
    rw [n1, hx] at f1
    rw [l_neg (by omega), f1]
    omega
theorem lmin_comm (x y : Int64) : lmin x y = lmin y x := by
  rw [l_inj, l_min, l_min]; (repeat' split) <;> omega
theorem lmax_comm (x y : Int64) : lmax x y = lmax y x := by
  rw [l_inj, l_max, l_max]; (repeat' split) <;> omega
theorem lmin_assoc (x y z : Int64) : lmin (lmin x y) z = lmin x (lmin y z) := by
  rw [l_inj]; simp only [l_min]; (repeat' split) <;> omega
theorem lmax_assoc (x y z : Int64) : lmax (lmax x y) z = lmax x (lmax y z) := by
  rw [l_inj]; simp only [l_max]; (repeat' split) <;> omega
theorem iprod_comm (a b : sI) : iprod a b = iprod b a := by
  unfold iprod prL prH
  rw [Int64.mul_comm a.1 b.1, Int64.mul_comm a.1 b.2, Int64.mul_comm a.2 b.1, Int64.mul_comm a.2 b.2]
  have h1 : lmin (lmin (b.1 * a.1) (b.2 * a.1)) (lmin (b.1 * a.2) (b.2 * a.2)) = lmin (lmin (b.1 * a.1) (b.1 * a.2)) (lmin (b.2 * a.1) (b.2 * a.2)) := by
    rw [l_inj]; simp only [l_min]; (repeat' split) <;> omega
  have h2 : lmax (lmax (b.1 * a.1) (b.2 * a.1)) (lmax (b.1 * a.2) (b.2 * a.2)) = lmax (lmax (b.1 * a.1) (b.1 * a.2)) (lmax (b.2 * a.1) (b.2 * a.2)) := by
    rw [l_inj]; simp only [l_max]; (repeat' split) <;> omega
  rw [h1, h2]
theorem one_l {a : sI} {M : Int} (ha : ib M a) (hM : M * 64 < 9223372036854775808) : iprod (64, 64) a = a := by
  rw [iprod_comm]; exact one_r ha hM
/-- the bound of a power -/
def pb : Nat → Int
  | 0 => 64
  | k + 1 => 8 * pb k
theorem ib_pw {X : sI} (hX : ib 512 X) : ∀ k, k ≤ 4 → ib (pb k) (pw X k) ∧ 64 ≤ pb k ∧ pb k ≤ 262144 := by
  have h0 : ib (pb 0) (pw X 0) := ib_64
  have h1 : ib (pb 1) (pw X 1) := ib_prod (M := pb 0) (N := 512) h0 hX (by decide) (by decide)
  have h2 : ib (pb 2) (pw X 2) := ib_prod (M := pb 1) (N := 512) h1 hX (by decide) (by decide)
  have h3 : ib (pb 3) (pw X 3) := ib_prod (M := pb 2) (N := 512) h2 hX (by decide) (by decide)
  have h4 : ib (pb 4) (pw X 4) := ib_prod (M := pb 3) (N := 512) h3 hX (by decide) (by decide)
  intro k hk
  match k, hk with
  | 0, _ => exact ⟨h0, by decide, by decide⟩
  | 1, _ => exact ⟨h1, by decide, by decide⟩
  | 2, _ => exact ⟨h2, by decide, by decide⟩
  | 3, _ => exact ⟨h3, by decide, by decide⟩
  | 4, _ => exact ⟨h4, by decide, by decide⟩
  | k + 5, h => exact absurd h (by omega)
theorem pb_mul0 : ∀ i, i < 5 → ∀ j, j < 5 → i + j ≤ 4 → pb i * pb j ≤ 64 * 262144 := by decide
theorem pb_mul (i j : Nat) (h : i + j ≤ 4) : pb i * pb j ≤ 64 * 262144 := pb_mul0 i (by omega) j (by omega) h
theorem cel_eq {X Y : sI} (hX : ib 512 X) (hY : ib 512 Y) {i j : Nat} (h : i + j ≤ 4) : iprod (pw X i) (pw Y j) = cel X Y i j ∧ ib 262144 (cel X Y i j) := by
  obtain ⟨x1, x2, x3⟩ := ib_pw hX i (by omega)
  obtain ⟨y1, y2, y3⟩ := ib_pw hY j (by omega)
  have hp := pb_mul i j h
  have hb : ib 262144 (iprod (pw X i) (pw Y j)) := ib_prod x1 y1 (by omega) hp
  have he : iprod (pw X i) (pw Y j) = cel X Y i j := by
    unfold cel
    by_cases hj : j = 0
    · rw [if_pos hj, hj]
      exact one_r x1 (by omega)
    · rw [if_neg hj]
      by_cases hi : i = 0
      · rw [if_pos hi, hi]
        exact one_l y1 (by omega)
      · rw [if_neg hi]
  exact ⟨he, he ▸ hb⟩
