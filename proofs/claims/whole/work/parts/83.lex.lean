/-! ===== the text, token by token ===== -/
/-- what begins at p: 0 the end, 1 a word, 2 a number, 3 another letter -/
def lx_tk (g : Nat → Int32) (n p : Nat) : Int32 := if n ≤ p then 0 else if g p < 97 then (if g p < 48 then 3 else if 57 < g p then 3 else 2) else if 122 < g p then 3 else 1
def lx_wsF (g : Nat → Int32) : Nat → Nat → Nat
  | 0, p => p
  | r + 1, p => if g p = 32 then lx_wsF g r (p + 1) else p
def lx_ws (g : Nat → Int32) (n p : Nat) : Nat := lx_wsF g (n - p) p
def lx_teF (g : Nat → Int32) (n : Nat) (t : Int32) : Nat → Nat → Nat
  | 0, p => p
  | r + 1, p => if lx_tk g n p = t then lx_teF g n t r (p + 1) else p
def lx_te (g : Nat → Int32) (n s : Nat) : Nat := if lx_tk g n s = 3 then s + 1 else lx_teF g n (lx_tk g n s) (n - s) s
def lx_dgs (g : Nat → Int32) : Nat → Nat → Int32 → Int32
  | 0, _, v => v
  | r + 1, k, v => lx_dgs g r (k + 1) (10 * v + g k - 48)
section
variable {g : Nat → Int32} {n : Nat}
theorem tk_c (g : Nat → Int32) (n p : Nat) : lx_tk g n p = 0 ∨ lx_tk g n p = 1 ∨ lx_tk g n p = 2 ∨ lx_tk g n p = 3 := by
  unfold lx_tk
  (repeat' split) <;> simp
theorem tk_0 {p : Nat} : lx_tk g n p = 0 ↔ n ≤ p := by
  unfold lx_tk
  by_cases h : n ≤ p
  · simp [h]
  · simp only [h, if_false, iff_false]
    (repeat' split) <;> decide
theorem wsF_b : ∀ (r p : Nat), p ≤ lx_wsF g r p ∧ lx_wsF g r p ≤ p + r := by
  intro r
  induction r with
  | zero => intro p; exact ⟨Nat.le_refl _, Nat.le_refl _⟩
  | succ r ih =>
    intro p
    rw [lx_wsF]
    by_cases h : g p = 32
    · rw [if_pos h]
      have := ih (p + 1)
      omega
    · rw [if_neg h]
      omega
theorem ws_b {p : Nat} (h : p ≤ n) : p ≤ lx_ws g n p ∧ lx_ws g n p ≤ n := by
  have := wsF_b (g := g) (n - p) p
  unfold lx_ws
  omega
theorem wsF_n : ∀ (r p : Nat), lx_wsF g r p < p + r → ¬ g (lx_wsF g r p) = 32 := by
  intro r
  induction r with
  | zero => intro p h; exact absurd h (by rw [lx_wsF]; omega)
  | succ r ih =>
    intro p
    rw [lx_wsF]
    by_cases h : g p = 32
    · rw [if_pos h]
      intro h2
      exact ih (p + 1) (by omega)
    · rw [if_neg h]
      intro _
      exact h
theorem ws_fix {s : Nat} (h : s < n → ¬ g s = 32) : lx_ws g n s = s := by
  unfold lx_ws
  cases hr : n - s with
  | zero => rfl
  | succ r => rw [lx_wsF, if_neg (h (by omega))]
theorem ws_ws {p : Nat} (h : p ≤ n) : lx_ws g n (lx_ws g n p) = lx_ws g n p := by
  refine ws_fix (fun h2 => ?_)
  exact wsF_n (n - p) p (by unfold lx_ws at h2; omega)
theorem teF_b {t : Int32} : ∀ (r p : Nat), p ≤ lx_teF g n t r p ∧ lx_teF g n t r p ≤ p + r := by
  intro r
  induction r with
  | zero => intro p; exact ⟨Nat.le_refl _, Nat.le_refl _⟩
  | succ r ih =>
    intro p
    rw [lx_teF]
    by_cases h : lx_tk g n p = t
    · rw [if_pos h]
      have := ih (p + 1)
      omega
    · rw [if_neg h]
      omega
theorem te_b {s : Nat} (h : s ≤ n) : s ≤ lx_te g n s ∧ lx_te g n s ≤ n := by
  unfold lx_te
  by_cases h3 : lx_tk g n s = 3
  · rw [if_pos h3]
    have : ¬ n ≤ s := fun hh => by rw [tk_0.mpr hh] at h3; exact absurd h3 (by decide)
    omega
  · rw [if_neg h3]
    have := teF_b (g := g) (n := n) (t := lx_tk g n s) (n - s) s
    omega
theorem te_lt {s : Nat} (h : s < n) : s < lx_te g n s := by
  unfold lx_te
  by_cases h3 : lx_tk g n s = 3
  · rw [if_pos h3]; omega
  · rw [if_neg h3]
    obtain ⟨r, hr⟩ : ∃ r, n - s = r + 1 := ⟨n - s - 1, by omega⟩
    rw [hr, lx_teF, if_pos rfl]
    have := teF_b (g := g) (n := n) (t := lx_tk g n s) r (s + 1)
    omega
theorem te_0 {s : Nat} (h : n ≤ s) : lx_te g n s = s := by
  have h0 : lx_tk g n s = 0 := tk_0.mpr h
  unfold lx_te
  rw [h0, if_neg (by decide), show n - s = 0 by omega, lx_teF]
theorem teF_in {t : Int32} : ∀ (r p k : Nat), p ≤ k → k < lx_teF g n t r p → lx_tk g n k = t := by
  intro r
  induction r with
  | zero => intro p k h1 h2; rw [lx_teF] at h2; omega
  | succ r ih =>
    intro p k h1
    rw [lx_teF]
    by_cases h : lx_tk g n p = t
    · rw [if_pos h]
      intro h2
      by_cases e : k = p
      · rw [e]; exact h
      · exact ih (p + 1) k (by omega) h2
    · rw [if_neg h]
      intro h2
      omega
theorem te_in {s k : Nat} (h3 : ¬ lx_tk g n s = 3) (h1 : s ≤ k) (h2 : k < lx_te g n s) : lx_tk g n k = lx_tk g n s := by
  unfold lx_te at h2
  rw [if_neg h3] at h2
  exact teF_in _ _ _ h1 h2
/-- a sign that stands alone -/
theorem tk_sg {s : Nat} {x : Int32} (hx : x = 45 ∨ x = 59) (h : s < n) (hg : g s = x) : lx_tk g n s = 3 := by
  unfold lx_tk
  rw [if_neg (by omega), hg]
  rcases hx with rfl | rfl <;> decide
theorem tk_2 {s : Nat} : lx_tk g n s = 2 ↔ s < n ∧ ¬ g s < 48 ∧ ¬ 57 < g s := by
  unfold lx_tk
  by_cases h : n ≤ s
  · rw [if_pos h]
    constructor
    · intro h2; exact absurd h2 (by decide)
    · intro h2; omega
  · rw [if_neg h]
    by_cases h1 : g s < 97
    · rw [if_pos h1]
      by_cases h2 : g s < 48
      · rw [if_pos h2]
        exact ⟨fun h => absurd h (by decide), fun h => absurd h2 h.2.1⟩
      · rw [if_neg h2]
        by_cases h3 : 57 < g s
        · rw [if_pos h3]
          exact ⟨fun h => absurd h (by decide), fun h => absurd h3 h.2.2⟩
        · rw [if_neg h3]
          exact ⟨fun _ => ⟨by omega, h2, h3⟩, fun _ => rfl⟩
    · rw [if_neg h1]
      have h57 : 57 < g s := by
        rw [i_lt] at h1 ⊢
        have z1 : (97 : Int32).toInt = 97 := rfl
        have z2 : (57 : Int32).toInt = 57 := rfl
        omega
      by_cases h2 : 122 < g s
      · rw [if_pos h2]
        exact ⟨fun h => absurd h (by decide), fun h => absurd h57 h.2.2⟩
      · rw [if_neg h2]
        exact ⟨fun h => absurd h (by decide), fun h => absurd h57 h.2.2⟩
theorem tk_1 {s : Nat} : lx_tk g n s = 1 ↔ s < n ∧ ¬ g s < 97 ∧ ¬ 122 < g s := by
  unfold lx_tk
  by_cases h : n ≤ s
  · rw [if_pos h]
    constructor
    · intro h2; exact absurd h2 (by decide)
    · intro h2; omega
  · rw [if_neg h]
    by_cases h1 : g s < 97
    · rw [if_pos h1]
      refine ⟨fun h => ?_, fun h => absurd h1 h.2.1⟩
      by_cases h2 : g s < 48
      · rw [if_pos h2] at h; exact absurd h (by decide)
      · rw [if_neg h2] at h
        by_cases h3 : 57 < g s
        · rw [if_pos h3] at h; exact absurd h (by decide)
        · rw [if_neg h3] at h; exact absurd h (by decide)
    · rw [if_neg h1]
      by_cases h2 : 122 < g s
      · rw [if_pos h2]
        exact ⟨fun h => absurd h (by decide), fun h => absurd h2 h.2.2⟩
      · rw [if_neg h2]
        exact ⟨fun _ => ⟨by omega, h1, h2⟩, fun _ => rfl⟩
end
/-! ===== the words ===== -/
def lx_nm1 (g : Nat → Int32) (l s : Nat) (a : Int32) : Int32 := if l = 1 then (if g s = a then 1 else 0) else 0
def lx_nm3 (g : Nat → Int32) (l s : Nat) (a b c : Int32) : Int32 := if l = 3 then (if g s = a then (if g (s + 1) = b then (if g (s + 2) = c then 1 else 0) else 0) else 0) else 0
def lx_nm5 (g : Nat → Int32) (l s : Nat) (a b c e f : Int32) : Int32 := if l = 5 then (if g s = a then (if g (s + 1) = b then (if g (s + 2) = c then (if g (s + 3) = e then (if g (s + 4) = f then 1 else 0) else 0) else 0) else 0) else 0) else 0
def lx_kwl (g : Nat → Int32) (l s : Nat) : Int32 := if lx_nm3 g l s 97 108 108 = 0 then (if lx_nm1 g l s 102 = 0 then (if lx_nm1 g l s 103 = 0 then (if lx_nm5 g l s 108 101 97 115 116 = 0 then (if lx_nm3 g l s 98 111 120 = 0 then -1 else 4) else 3) else 2) else 1) else 0
def lx_kw (g : Nat → Int32) (n s : Nat) : Int32 := lx_kwl g (lx_te g n s - s) s
section
variable {g : Nat → Int32} {n : Nat}
theorem nm1_1 {l s : Nat} {a : Int32} (h : ¬ lx_nm1 g l s a = 0) : 0 < l ∧ g s = a := by
  unfold lx_nm1 at h
  by_cases h1 : l = 1
  · rw [if_pos h1] at h
    by_cases h2 : g s = a
    · exact ⟨by omega, h2⟩
    · rw [if_neg h2] at h; exact absurd rfl h
  · rw [if_neg h1] at h; exact absurd rfl h
theorem nm3_1 {l s : Nat} {a b c : Int32} (h : ¬ lx_nm3 g l s a b c = 0) : 0 < l ∧ g s = a := by
  unfold lx_nm3 at h
  by_cases h1 : l = 3
  · rw [if_pos h1] at h
    by_cases h2 : g s = a
    · exact ⟨by omega, h2⟩
    · rw [if_neg h2] at h; exact absurd rfl h
  · rw [if_neg h1] at h; exact absurd rfl h
theorem nm5_1 {l s : Nat} {a b c e f : Int32} (h : ¬ lx_nm5 g l s a b c e f = 0) : 0 < l ∧ g s = a := by
  unfold lx_nm5 at h
  by_cases h1 : l = 5
  · rw [if_pos h1] at h
    by_cases h2 : g s = a
    · exact ⟨by omega, h2⟩
    · rw [if_neg h2] at h; exact absurd rfl h
  · rw [if_neg h1] at h; exact absurd rfl h
theorem kwl_c (g : Nat → Int32) (l s : Nat) : lx_kwl g l s = -1 ∨ lx_kwl g l s = 0 ∨ lx_kwl g l s = 1 ∨ lx_kwl g l s = 2 ∨ lx_kwl g l s = 3 ∨ lx_kwl g l s = 4 := by
  unfold lx_kwl
  (repeat' split) <;> simp
theorem kw_c (g : Nat → Int32) (n s : Nat) : lx_kw g n s = -1 ∨ lx_kw g n s = 0 ∨ lx_kw g n s = 1 ∨ lx_kw g n s = 2 ∨ lx_kw g n s = 3 ∨ lx_kw g n s = 4 := kwl_c _ _ _
theorem kw_1 {s : Nat} (h : ¬ lx_kw g n s = -1) : lx_tk g n s = 1 := by
  have key : ∀ a : Int32, (¬ a < 97 ∧ ¬ 122 < a) → 0 < lx_te g n s - s ∧ g s = a → lx_tk g n s = 1 := fun a ha h2 => by
    have hs : s < n := by
      by_cases hh : n ≤ s
      · rw [te_0 hh] at h2; omega
      · omega
    rw [tk_1]
    exact ⟨hs, by rw [h2.2]; exact ha.1, by rw [h2.2]; exact ha.2⟩
  unfold lx_kw lx_kwl at h
  by_cases h1 : lx_nm3 g (lx_te g n s - s) s 97 108 108 = 0
  · rw [if_pos h1] at h
    by_cases h2 : lx_nm1 g (lx_te g n s - s) s 102 = 0
    · rw [if_pos h2] at h
      by_cases h3 : lx_nm1 g (lx_te g n s - s) s 103 = 0
      · rw [if_pos h3] at h
        by_cases h4 : lx_nm5 g (lx_te g n s - s) s 108 101 97 115 116 = 0
        · rw [if_pos h4] at h
          by_cases h5 : lx_nm3 g (lx_te g n s - s) s 98 111 120 = 0
          · rw [if_pos h5] at h; exact absurd rfl h
          · exact key 98 (by decide) (nm3_1 h5)
        · exact key 108 (by decide) (nm5_1 h4)
      · exact key 103 (by decide) (nm1_1 h3)
    · exact key 102 (by decide) (nm1_1 h2)
  · exact key 97 (by decide) (nm3_1 h1)
end
/-! ===== the numbers ===== -/
def lx_inR (lo hi v : Int32) : Int32 := if v < lo then 0 else if hi < v then 0 else 1
/-- whether a sign stands ahead, where one may -/
def lx_ng (g : Nat → Int32) (n : Nat) (sg : Bool) (s : Nat) : Bool := sg && (lx_tk g n s == 3) && (g s == 45)
def lx_ns (g : Nat → Int32) (n : Nat) (sg : Bool) (s : Nat) : Nat := if lx_ng g n sg s = true then lx_ws g n (lx_te g n s) else s
def lx_fv (g : Nat → Int32) (n s : Nat) : Int32 := lx_dgs g (lx_te g n s - s) s 0
def lx_nv (g : Nat → Int32) (n : Nat) (sg : Bool) (s : Nat) : Int32 := if lx_ng g n sg s = true then -lx_fv g n (lx_ns g n sg s) else lx_fv g n (lx_ns g n sg s)
def lx_fOK (g : Nat → Int32) (n s : Nat) (lo hi v : Int32) : Prop := lx_tk g n s = 2 ∧ lx_te g n s - s < 4 ∧ lx_inR lo hi v = 1
def lx_nOK (g : Nat → Int32) (n : Nat) (sg : Bool) (lo hi : Int32) (s : Nat) : Prop := lx_fOK g n (lx_ns g n sg s) lo hi (lx_nv g n sg s)
theorem inR_01 (lo hi v : Int32) : lx_inR lo hi v = 0 ∨ lx_inR lo hi v = 1 := by
  unfold lx_inR
  (repeat' split) <;> simp
theorem inR_1 {lo hi v : Int32} (h : lx_inR lo hi v = 1) : lo.toInt ≤ v.toInt ∧ v.toInt ≤ hi.toInt := by
  unfold lx_inR at h
  by_cases h1 : v < lo
  · rw [if_pos h1] at h; exact absurd h (by decide)
  · rw [if_neg h1] at h
    by_cases h2 : hi < v
    · rw [if_pos h2] at h; exact absurd h (by decide)
    · rw [i_lt] at h1 h2
      omega
theorem ns_b {g : Nat → Int32} {n : Nat} {sg : Bool} {s : Nat} (h : s ≤ n) : s ≤ lx_ns g n sg s ∧ lx_ns g n sg s ≤ n := by
  unfold lx_ns
  by_cases h1 : lx_ng g n sg s = true
  · rw [if_pos h1]
    have a := te_b (g := g) h
    have b := ws_b (g := g) a.2
    omega
  · rw [if_neg h1]
    omega
theorem ng_f {g : Nat → Int32} {n s : Nat} : lx_ns g n false s = s ∧ lx_nv g n false s = lx_fv g n s := ⟨rfl, rfl⟩
/-- of the number k of a clause of kind K: may it have a sign; its bounds, by the one before -/
def lx_bs (K : Int32) (k : Nat) : Bool := if K = 4 then true else if k = 0 then (if K = 3 then false else true) else false
def lx_bl (K : Int32) (k : Nat) (w : Int32) : Int32 := if K = 3 then 1 else if K = 4 then (if k = 1 ∨ k = 3 then w + 1 else -512) else if k = 0 then -20 else 0
def lx_bh (K : Int32) (k : Nat) (w : Int32) : Int32 := if K = 3 then 64 else if K = 4 then 512 else if k = 0 then 20 else if k = 1 then 4 else 4 - w
def lx_wn (K : Int32) : Nat := if K = 4 then 4 else if K = 3 then 1 else if K = 1 then 3 else if K = 2 then 3 else 0
def lx_sk (g : Nat → Int32) (n : Nat) (K : Int32) (s : Nat) : Nat → Nat
  | 0 => s
  | k + 1 => lx_ws g n (lx_te g n (lx_ns g n (lx_bs K k) (lx_sk g n K s k)))
def lx_vk (g : Nat → Int32) (n : Nat) (K : Int32) (s k : Nat) : Int32 := lx_nv g n (lx_bs K k) (lx_sk g n K s k)
def lx_ok (g : Nat → Int32) (n : Nat) (K : Int32) (s k : Nat) : Prop := lx_nOK g n (lx_bs K k) (lx_bl K k (lx_vk g n K s (k - 1))) (lx_bh K k (lx_vk g n K s (k - 1))) (lx_sk g n K s k)
theorem sk_b {g : Nat → Int32} {n : Nat} {K : Int32} {s : Nat} (h : s ≤ n) : ∀ k, s ≤ lx_sk g n K s k ∧ lx_sk g n K s k ≤ n := by
  intro k
  induction k with
  | zero => exact ⟨Nat.le_refl _, h⟩
  | succ k ih =>
    have a := ns_b (g := g) (sg := lx_bs K k) ih.2
    have b := te_b (g := g) a.2
    have c := ws_b (g := g) b.2
    rw [lx_sk]
    omega
/-! ===== the clauses ===== -/
def lx_s0 (g : Nat → Int32) (n s : Nat) : Nat := lx_ws g n (lx_te g n s)
def lx_nx (g : Nat → Int32) (n s : Nat) : Nat := lx_sk g n (lx_kw g n s) (lx_s0 g n s) (lx_wn (lx_kw g n s))
def lx_ClOK (g : Nat → Int32) (n s : Nat) : Prop := ¬ lx_kw g n s = -1 ∧ ∀ k, k < lx_wn (lx_kw g n s) → lx_ok g n (lx_kw g n s) (lx_s0 g n s) k
def lx_ClNo (g : Nat → Int32) (n s q : Nat) : Prop := (lx_kw g n s = -1 ∧ q = s) ∨ (¬ lx_kw g n s = -1 ∧ ∃ k, k < lx_wn (lx_kw g n s) ∧ (∀ i, i < k → lx_ok g n (lx_kw g n s) (lx_s0 g n s) i) ∧ ¬ lx_ok g n (lx_kw g n s) (lx_s0 g n s) k ∧ q = lx_ns g n (lx_bs (lx_kw g n s) k) (lx_sk g n (lx_kw g n s) (lx_s0 g n s) k))
def lx_smc (g : Nat → Int32) (n s : Nat) : Prop := lx_tk g n s = 3 ∧ g s = 59
def lx_RdOK (g : Nat → Int32) (n : Nat) : Nat → Nat → List Nat → Prop
  | 0, _, _ => False
  | r + 1, s, cs => lx_ClOK g n s ∧ ((lx_tk g n (lx_nx g n s) = 0 ∧ cs = [s]) ∨ (lx_smc g n (lx_nx g n s) ∧ ∃ cs', cs = s :: cs' ∧ lx_RdOK g n r (lx_s0 g n (lx_nx g n s)) cs'))
def lx_RdNo (g : Nat → Int32) (n : Nat) : Nat → Nat → Nat → Prop
  | 0, _, _ => False
  | r + 1, s, q => lx_ClNo g n s q ∨ (lx_ClOK g n s ∧ q = lx_nx g n s ∧ ¬ lx_tk g n q = 0 ∧ (¬ lx_smc g n q ∨ r = 0)) ∨ (lx_ClOK g n s ∧ lx_smc g n (lx_nx g n s) ∧ lx_RdNo g n r (lx_s0 g n (lx_nx g n s)) q)
section
variable {g : Nat → Int32} {n : Nat}
theorem s0_b {s : Nat} (h : s ≤ n) : s ≤ lx_s0 g n s ∧ lx_s0 g n s ≤ n := by
  have b := te_b (g := g) h
  have c := ws_b (g := g) b.2
  unfold lx_s0
  omega
theorem nx_b {s : Nat} (h : s ≤ n) : s ≤ lx_nx g n s ∧ lx_nx g n s ≤ n := by
  have a := s0_b (g := g) h
  have b := sk_b (g := g) (K := lx_kw g n s) a.2 (lx_wn (lx_kw g n s))
  unfold lx_nx
  omega
theorem least_no {P : Nat → Prop} : ∀ w : Nat, (∀ k, k < w → P k) ∨ ∃ k, k < w ∧ (∀ i, i < k → P i) ∧ ¬ P k := by
  intro w
  induction w with
  | zero => exact Or.inl (fun k hk => absurd hk (Nat.not_lt_zero k))
  | succ w ih =>
    rcases ih with h | ⟨k, h1, h2, h3⟩
    · by_cases hp : P w
      · refine Or.inl (fun k hk => ?_)
        by_cases e : k = w
        · rw [e]; exact hp
        · exact h k (by omega)
      · exact Or.inr ⟨w, by omega, h, hp⟩
    · exact Or.inr ⟨k, by omega, h2, h3⟩
theorem cl_all (s : Nat) : lx_ClOK g n s ∨ ∃ q, lx_ClNo g n s q := by
  by_cases h : lx_kw g n s = -1
  · exact Or.inr ⟨s, Or.inl ⟨h, rfl⟩⟩
  · rcases least_no (P := lx_ok g n (lx_kw g n s) (lx_s0 g n s)) (lx_wn (lx_kw g n s)) with h1 | ⟨k, h1, h2, h3⟩
    · exact Or.inl ⟨h, h1⟩
    · exact Or.inr ⟨_, Or.inr ⟨h, k, h1, h2, h3, rfl⟩⟩
theorem cl_b {s q : Nat} (hs : s ≤ n) (h : lx_ClNo g n s q) : q ≤ n := by
  rcases h with ⟨-, rfl⟩ | ⟨-, k, -, -, -, rfl⟩
  · exact hs
  · exact (ns_b (sk_b (s0_b hs).2 k).2).2
theorem rd_all : ∀ (r s : Nat), s ≤ n → (∃ cs, lx_RdOK g n (r + 1) s cs) ∨ ∃ q, q ≤ n ∧ lx_RdNo g n (r + 1) s q := by
  intro r
  induction r with
  | zero =>
    intro s hs
    rcases cl_all (g := g) (n := n) s with h | ⟨q, h⟩
    · by_cases h0 : lx_tk g n (lx_nx g n s) = 0
      · exact Or.inl ⟨[s], h, Or.inl ⟨h0, rfl⟩⟩
      · exact Or.inr ⟨lx_nx g n s, (nx_b hs).2, Or.inr (Or.inl ⟨h, rfl, h0, Or.inr rfl⟩)⟩
    · exact Or.inr ⟨q, cl_b hs h, Or.inl h⟩
  | succ r ih =>
    intro s hs
    rcases cl_all (g := g) (n := n) s with h | ⟨q, h⟩
    · by_cases h0 : lx_tk g n (lx_nx g n s) = 0
      · exact Or.inl ⟨[s], h, Or.inl ⟨h0, rfl⟩⟩
      · by_cases h1 : lx_smc g n (lx_nx g n s)
        · rcases ih (lx_s0 g n (lx_nx g n s)) (s0_b (nx_b hs).2).2 with ⟨cs, hc⟩ | ⟨q, hq, hc⟩
          · exact Or.inl ⟨s :: cs, h, Or.inr ⟨h1, cs, rfl, hc⟩⟩
          · exact Or.inr ⟨q, hq, Or.inr (Or.inr ⟨h, h1, hc⟩)⟩
        · exact Or.inr ⟨lx_nx g n s, (nx_b hs).2, Or.inr (Or.inl ⟨h, rfl, h0, Or.inl h1⟩)⟩
    · exact Or.inr ⟨q, cl_b hs h, Or.inl h⟩
end
