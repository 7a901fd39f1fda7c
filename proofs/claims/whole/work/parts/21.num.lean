/-! ===== small numbers ===== -/
theorem lit_0 : (0 : Int32) = nI 0 := rfl
theorem lit_1 : (1 : Int32) = nI 1 := rfl
theorem lit_2 : (2 : Int32) = nI 2 := rfl
theorem lit_3 : (3 : Int32) = nI 3 := rfl
theorem lit_4 : (4 : Int32) = nI 4 := rfl
theorem lit_5 : (5 : Int32) = nI 5 := rfl
theorem lit_6 : (6 : Int32) = nI 6 := rfl
theorem lit_7 : (7 : Int32) = nI 7 := rfl
theorem lit_8 : (8 : Int32) = nI 8 := rfl
theorem lit_9 : (9 : Int32) = nI 9 := rfl
theorem lit_10 : (10 : Int32) = nI 10 := rfl
theorem lit_11 : (11 : Int32) = nI 11 := rfl
theorem lit_12 : (12 : Int32) = nI 12 := rfl
theorem lit_13 : (13 : Int32) = nI 13 := rfl
theorem lit_14 : (14 : Int32) = nI 14 := rfl
theorem lit_18 : (18 : Int32) = nI 18 := rfl
theorem lit_20 : (20 : Int32) = nI 20 := rfl
theorem lit_24 : (24 : Int32) = nI 24 := rfl
theorem lit_25 : (25 : Int32) = nI 25 := rfl
theorem lit_48 : (48 : Int32) = nI 48 := rfl
theorem lit_50 : (50 : Int32) = nI 50 := rfl
theorem lit_51 : (51 : Int32) = nI 51 := rfl
theorem lit_52 : (52 : Int32) = nI 52 := rfl
theorem lit_53 : (53 : Int32) = nI 53 := rfl
theorem lit_54 : (54 : Int32) = nI 54 := rfl
theorem lit_55 : (55 : Int32) = nI 55 := rfl
theorem lit_57 : (57 : Int32) = nI 57 := rfl
theorem lit_64 : (64 : Int32) = nI 64 := rfl
theorem lit_97 : (97 : Int32) = nI 97 := rfl
theorem lit_122 : (122 : Int32) = nI 122 := rfl
theorem lit_200 : (200 : Int32) = nI 200 := rfl
theorem lit_255 : (255 : Int32) = nI 255 := rfl
theorem lit_311 : (311 : Int32) = nI 311 := rfl
theorem lit_512 : (512 : Int32) = nI 512 := rfl
theorem lit_1111 : (1111 : Int32) = nI 1111 := rfl
theorem lit_1911 : (1911 : Int32) = nI 1911 := rfl
theorem lit_2911 : (2911 : Int32) = nI 2911 := rfl
theorem nI_mul' (a b : Nat) : nI a * nI b = nI (a * b) := (Int32.ofNat_mul a b).symm
theorem nI_lt' {a b : Nat} (ha : a < 2147483648) (hb : b < 2147483648) : (nI a < nI b) = (a < b) := propext (nI_ltI ha hb)
theorem nI_le' {a b : Nat} (ha : a < 2147483648) (hb : b < 2147483648) : (nI a ≤ nI b) = (a ≤ b) := propext (nI_leI ha hb)
theorem nI_eq' {a b : Nat} (ha : a < 2147483648) (hb : b < 2147483648) : (nI a = nI b) = (a = b) := propext (nI_eq ha hb)
theorem nI_cl {a : Nat} (ha : a < 2147483648) : (nI a).toNatClampNeg = a := nI_clamp ha
theorem nI_sub' {a b : Nat} (h : b ≤ a) : nI a - nI b = nI (a - b) := by
  have e : nI (a - b) + nI b = nI a := by rw [nI_add]; congr 1; omega
  rw [← e, Int32.add_sub_cancel]
theorem rb_in' {k n : Nat} (hk : k < 2147483648) : rb_in (nI k) n = decide (k < n) := by
  unfold rb_in
  rw [nI_cl hk, decide_eq_true (nI_pos (n := k) hk), Bool.true_and]
theorem rb_inS {x : Int32} {n : Nat} (h0 : ¬ x < 0) (h1 : x.toNatClampNeg < n) : rb_in x n = true := by
  unfold rb_in
  rw [decide_eq_true h0, decide_eq_true h1]; rfl
theorem nI_ofn (n : Nat) : Int32.ofNat n = nI n := rfl
theorem xx_zn0 {C : rb_C} {o : Nat} {ini : Bool} {pc : Nat} {ls : rb_L} {σ : rb_S} : rb_nxt C o ini (some .boolean) (.ok (.ireturn, 1)) pc ls [.int (nI 0)] σ = some (.inr (some (.int (nI 0)), σ)) := rfl
theorem xx_zn1 {C : rb_C} {o : Nat} {ini : Bool} {pc : Nat} {ls : rb_L} {σ : rb_S} : rb_nxt C o ini (some .boolean) (.ok (.ireturn, 1)) pc ls [.int (nI 1)] σ = some (.inr (some (.int (nI 1)), σ)) := rfl
theorem zz_tn0 : rb_tyok .boolean (.int (nI 0)) = true := rfl
theorem zz_tn1 : rb_tyok .boolean (.int (nI 1)) = true := rfl
