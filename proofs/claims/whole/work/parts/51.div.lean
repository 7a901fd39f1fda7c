/-! ===== two ways to put a quotient down ===== -/
theorem l_rng (x : Int64) : -9223372036854775808 ≤ x.toInt ∧ x.toInt < 9223372036854775808 := ⟨Int64.le_toInt x, Int64.toInt_lt x⟩
theorem bm64 {z : Int} (h1 : -9223372036854775808 ≤ z) (h2 : z < 9223372036854775808) : z.bmod (2 ^ 64) = z := by
  rw [Int.bmod_def]; omega
theorem l_lt {x y : Int64} : x < y ↔ x.toInt < y.toInt := Int64.lt_iff_toInt_lt
theorem l_le {x y : Int64} : x ≤ y ↔ x.toInt ≤ y.toInt := Int64.le_iff_toInt_le
theorem l_inj {x y : Int64} : x = y ↔ x.toInt = y.toInt := Int64.toInt_inj.symm
theorem l_neg {x : Int64} (h : x.toInt ≠ -9223372036854775808) : (-x).toInt = -x.toInt := by
  rw [Int64.toInt_neg]; have := l_rng x; exact bm64 (by omega) (by omega)
theorem l_msb (x : Int64) : x.toBitVec.msb = decide (x.toInt < 0) := BitVec.msb_eq_toInt
theorem l_xor {x y : Int64} : (0 ≤ x ^^^ y) ↔ (x.toInt < 0 ↔ y.toInt < 0) := by
  have h : (x ^^^ y).toBitVec.msb = (x.toBitVec.msb ^^ y.toBitVec.msb) := by rw [Int64.toBitVec_xor, BitVec.msb_xor]
  rw [l_msb, l_msb, l_msb] at h
  rw [l_le]
  have h0 : (0 : Int64).toInt = 0 := rfl
  rw [h0]
  generalize x ^^^ y = z at h ⊢
  by_cases a : x.toInt < 0 <;> by_cases b : y.toInt < 0 <;> simp [a, b] at h ⊢ <;> omega
/-- the quotient put down, of whole numbers -/
def fl (x y : Int) : Int := if 0 < y then x / y else (-x) / (-y)
theorem ediv_of {x y q r : Int} (hy : 0 < y) (h : x = y * q + r) (h0 : 0 ≤ r) (h1 : r < y) : x / y = q := by
  rw [h, Int.mul_comm, Int.add_comm, Int.add_mul_ediv_right _ _ (by omega), Int.ediv_eq_zero_of_lt h0 h1, Int.zero_add]
theorem tdiv_le {x y : Int} : -(if x < 0 then -x else x) ≤ x.tdiv y ∧ x.tdiv y ≤ (if x < 0 then -x else x) := by
  have h : (x.tdiv y).natAbs ≤ x.natAbs := by rw [Int.natAbs_tdiv]; exact Nat.div_le_self _ _
  split <;> omega
theorem tdiv_half {x y : Int} (hy : 2 ≤ y ∨ y ≤ -2) : 2 * (x.tdiv y).natAbs ≤ x.natAbs := by
  rw [Int.natAbs_tdiv]
  show 2 * (x.natAbs / y.natAbs) ≤ _
  have h1 : 2 ≤ y.natAbs := by omega
  have h2 := Nat.div_mul_le_self x.natAbs y.natAbs
  have h3 : x.natAbs / y.natAbs * 2 ≤ x.natAbs / y.natAbs * y.natAbs := Nat.mul_le_mul_left _ h1
  omega
theorem tmod_b {x y : Int} (hy : y ≠ 0) : x = y * x.tdiv y + x.tmod y ∧ (0 ≤ x → 0 ≤ x.tmod y) ∧ (x < 0 → x.tmod y ≤ 0) ∧ (0 < y → x.tmod y < y ∧ -y < x.tmod y) ∧ (y < 0 → x.tmod y < -y ∧ y < x.tmod y) := by
  have a := Int.mul_tdiv_add_tmod x y
  have h : (x.tmod y).natAbs < y.natAbs := by rw [Int.natAbs_tmod]; exact Nat.mod_lt _ (by omega)
  refine ⟨a.symm, fun h => Int.tmod_nonneg _ h, fun hx => ?_, fun _ => by omega, fun _ => by omega⟩
  have := Int.tmod_nonneg y (show 0 ≤ -x by omega)
  rw [Int.neg_tmod] at this
  omega
theorem fdiv_int {x y : Int64} (hy : y.toInt ≠ 0) (h1 : y.toInt = -1 → x.toInt ≠ -9223372036854775808) : (fdiv x y).toInt = fl x.toInt y.toInt := by
  have rx := l_rng x
  have ry := l_rng y
  have tl := tdiv_le (x := x.toInt) (y := y.toInt)
  obtain ⟨m1, m2, m3, m4, m5⟩ := tmod_b (x := x.toInt) hy
  have hd : (x / y).toInt = x.toInt.tdiv y.toInt := by
    rw [Int64.toInt_div]
    refine bm64 ?_ ?_
    · split at tl <;> omega
    · by_cases hm : y.toInt = 1 ∨ y.toInt = -1
      · rcases hm with hm | hm
        · rw [hm, Int.tdiv_one]; omega
        · have := h1 hm; rw [hm] at tl ⊢; split at tl <;> omega
      · have := tdiv_half (x := x.toInt) (y := y.toInt) (by omega)
        omega
  have hm : (x / y * y).toInt = y.toInt * x.toInt.tdiv y.toInt := by
    rw [Int64.toInt_mul, hd, Int.mul_comm]
    refine bm64 ?_ ?_ <;> rcases Int.lt_trichotomy x.toInt 0 with c | c | c <;> first | omega | (rcases Int.lt_or_lt_of_ne hy with e | e <;> (have := m4; have := m5; omega))
  have hs : x.toInt.tmod y.toInt ≠ 0 → (x / y - 1).toInt = x.toInt.tdiv y.toInt - 1 := by
    intro hr
    rw [Int64.toInt_sub, hd]
    have h2 : 2 ≤ y.toInt ∨ y.toInt ≤ -2 := by
      rcases Int.lt_or_lt_of_ne hy with e | e
      · have := m5 e; omega
      · have := m4 e; omega
    have := tdiv_half (x := x.toInt) (y := y.toInt) h2
    exact bm64 (by show _ ≤ _ - (1 : Int64).toInt; have : (1 : Int64).toInt = 1 := rfl; omega) (by show _ - (1 : Int64).toInt < _; have : (1 : Int64).toInt = 1 := rfl; omega)
  unfold fdiv fl
  by_cases hp : 0 < y.toInt
  · rw [if_pos hp]
    have m4 := m4 hp
    by_cases hx : x.toInt < 0
    · rw [if_neg (fun h => by have := (l_xor.mp h).mp hx; omega)]
      have m3 := m3 hx
      by_cases he : x / y * y = x
      · rw [if_pos he, hd]
        rw [l_inj, hm] at he
        exact (ediv_of (r := 0) hp (by omega) (by omega) hp).symm
      · rw [if_neg he]
        rw [l_inj, hm] at he
        rw [hs (by omega)]
        refine (ediv_of (r := x.toInt.tmod y.toInt + y.toInt) hp ?_ (by omega) (by omega)).symm
        rw [Int.mul_sub, Int.mul_one]; omega
    · rw [if_pos (l_xor.mpr ⟨fun h => absurd h hx, fun h => absurd h (by omega)⟩), hd]
      exact (ediv_of (r := x.toInt.tmod y.toInt) hp m1 (m2 (by omega)) m4.1).symm
  · rw [if_neg hp]
    have hn : y.toInt < 0 := by omega
    have m5 := m5 hn
    by_cases hx : x.toInt < 0
    · rw [if_pos (l_xor.mpr ⟨fun _ => hn, fun _ => hx⟩), hd]
      have m3 := m3 hx
      refine (ediv_of (r := -x.toInt.tmod y.toInt) (by omega) ?_ (by omega) (by omega)).symm
      rw [Int.neg_mul]; omega
    · rw [if_neg (fun h => by have := (l_xor.mp h).mpr hn; omega)]
      have m2 := m2 (by omega)
      by_cases he : x / y * y = x
      · rw [if_pos he, hd]
        rw [l_inj, hm] at he
        refine (ediv_of (r := 0) (by omega) ?_ (by omega) (by omega)).symm
        rw [Int.neg_mul]; omega
      · rw [if_neg he]
        rw [l_inj, hm] at he
        rw [hs (by omega)]
        refine (ediv_of (r := -y.toInt - x.toInt.tmod y.toInt) (by omega) ?_ (by omega) (by omega)).symm
        rw [Int.mul_sub, Int.mul_one, Int.neg_mul]; omega
theorem dn_pos {x y : Int64} (hp : 0 < y.toInt) : (dn x y).toInt = x.toInt / y.toInt := by
  have rx := l_rng x
  have ry := l_rng y
  have tl := tdiv_le (x := x.toInt) (y := y.toInt)
  obtain ⟨m1, m2, m3, m4, -⟩ := tmod_b (x := x.toInt) (y := y.toInt) (by omega)
  have m4 := m4 hp
  have hd : (x / y).toInt = x.toInt.tdiv y.toInt := by
    rw [Int64.toInt_div]
    refine bm64 ?_ ?_
    · split at tl <;> omega
    · by_cases hm : y.toInt = 1
      · rw [hm, Int.tdiv_one]; omega
      · have := tdiv_half (x := x.toInt) (y := y.toInt) (by omega)
        omega
  have hm : (x / y * y).toInt = y.toInt * x.toInt.tdiv y.toInt := by
    rw [Int64.toInt_mul, hd, Int.mul_comm]
    refine bm64 ?_ ?_ <;> rcases Int.lt_trichotomy x.toInt 0 with c | c | c <;> omega
  have c0 : ¬ y < 0 := fun h => by have := l_lt.mp h; have h0 : (0 : Int64).toInt = 0 := rfl; omega
  unfold dn
  rw [if_neg c0, if_neg c0]
  by_cases hr : x < x / y * y
  · rw [if_pos hr]
    rw [l_lt, hm] at hr
    have h2 := tdiv_half (x := x.toInt) (y := y.toInt) (by omega)
    have h1 : (1 : Int64).toInt = 1 := rfl
    rw [Int64.toInt_sub, hd, h1, bm64 (by omega) (by omega)]
    refine (ediv_of (r := x.toInt.tmod y.toInt + y.toInt) hp ?_ (by omega) (by omega)).symm
    rw [Int.mul_sub, Int.mul_one]; omega
  · rw [if_neg hr, hd]
    rw [l_lt, hm] at hr
    exact (ediv_of (r := x.toInt.tmod y.toInt) hp m1 (by omega) m4.1).symm
theorem dn_fdiv {x y : Int64} (hy : y.toInt ≠ 0) (h1 : y.toInt ≠ -9223372036854775808) (h2 : y.toInt < 0 → x.toInt ≠ -9223372036854775808) : dn x y = fdiv x y := by
  rw [l_inj, fdiv_int hy (fun h => h2 (by omega))]
  unfold fl
  by_cases hp : 0 < y.toInt
  · rw [if_pos hp, dn_pos hp]
  · rw [if_neg hp]
    have hn : y.toInt < 0 := by omega
    have ny := l_neg h1
    have nx := l_neg (h2 hn)
    have c0 : y < 0 := l_lt.mpr hn
    have c1 : ¬ -y < 0 := fun h => by have := l_lt.mp h; have h0 : (0 : Int64).toInt = 0 := rfl; omega
    have e : dn x y = dn (-x) (-y) := by
      unfold dn
      rw [if_pos c0, if_pos c0, if_neg c1, if_neg c1]
    rw [e, dn_pos (by omega), nx, ny]
theorem dn_64 (x : Int64) : dn x 64 = fdiv x 64 := by
  have h : (64 : Int64).toInt = 64 := rfl
  exact dn_fdiv (by rw [h]; omega) (by rw [h]; omega) (fun e => by rw [h] at e; omega)
theorem dn_2 (x : Int64) : dn x 2 = fdiv x 2 := by
  have h : (2 : Int64).toInt = 2 := rfl
  exact dn_fdiv (by rw [h]; omega) (by rw [h]; omega) (fun e => by rw [h] at e; omega)
