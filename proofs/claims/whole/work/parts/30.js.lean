/-! ===== the judge's spans (cells 13, 14, 17 .. 43, 46 .. 84) as pairs of numbers ===== -/
abbrev sI : Type := Int64 × Int64
def iprod (a b : sI) : sI := (prL a.1 a.2 b.1 b.2, prH a.1 a.2 b.1 b.2)
def iquot (a b : sI) : sI := (quL a.1 a.2 b.1 b.2, quH a.1 a.2 b.1 b.2)
def iless (a b : sI) : sI := (a.1 - b.2, a.2 - b.1)
def ishare (a b : sI) : sI := (lmax a.1 b.1, lmin a.2 b.2)
def iaddT (s a : sI) (c : Int64) : sI := (s.1 + lmin (a.1 * c) (a.2 * c), s.2 + lmax (a.1 * c) (a.2 * c))
def js (σ : rb_S) (Z : Nat → sI) : rb_S := (fun k => if 13 ≤ k ∧ k ≤ 84 ∧ k ≠ 15 ∧ k ≠ 16 ∧ k ≠ 44 ∧ k ≠ 45 then some (sp (Z k).1 (Z k).2) else σ.1 k, σ.2)
theorem js_at {σ : rb_S} {Z : Nat → sI} {k : Nat} (h : 13 ≤ k ∧ k ≤ 84 ∧ k ≠ 15 ∧ k ≠ 16 ∧ k ≠ 44 ∧ k ≠ 45) : (js σ Z).1 k = some (sp (Z k).1 (Z k).2) := if_pos h
theorem js_no {σ : rb_S} {Z : Nat → sI} {k : Nat} (h : ¬ (13 ≤ k ∧ k ≤ 84 ∧ k ≠ 15 ∧ k ≠ 16 ∧ k ≠ 44 ∧ k ≠ 45)) : (js σ Z).1 k = σ.1 k := if_neg h
theorem js_wr {σ : rb_S} {Z : Nat → sI} {k : Nat} {p : sI} (h : 13 ≤ k ∧ k ≤ 84 ∧ k ≠ 15 ∧ k ≠ 16 ∧ k ≠ 44 ∧ k ≠ 45) : rb_wr (js σ Z) k (sp p.1 p.2) = js σ (va_up Z k p) := by
  refine Prod.ext ?_ rfl
  funext j
  show va_up (js σ Z).1 k (some (sp p.1 p.2)) j = (js σ (va_up Z k p)).1 j
  by_cases hj : j = k
  · rw [hj, va_up_self, js_at h, va_up_self]
  · rw [va_up_ne _ _ hj]
    unfold js
    show (if _ then some (sp (Z j).1 (Z j).2) else _) = (if _ then some (sp (va_up Z k p j).1 (va_up Z k p j).2) else _)
    rw [va_up_ne _ _ hj]
theorem js_2 {σ : rb_S} {Z : Nat → sI} : (js σ Z).2 = σ.2 := rfl
theorem js_js {σ : rb_S} {Z Z' : Nat → sI} : js (js σ Z) Z' = js σ Z' := by
  refine Prod.ext ?_ rfl
  funext j
  show (if _ then _ else (js σ Z).1 j) = (if _ then _ else σ.1 j)
  by_cases h : 13 ≤ j ∧ j ≤ 84 ∧ j ≠ 15 ∧ j ≠ 16 ∧ j ≠ 44 ∧ j ≠ 45
  · rw [if_pos h, if_pos h]
  · rw [if_neg h, if_neg h, js_no h]
section
variable {d t a b : Nat} {σ : rb_S} {Z : Nat → sI}
theorem j_become {x y : Int64} (h : 13 ≤ t ∧ t ≤ 84 ∧ t ≠ 15 ∧ t ≠ 16 ∧ t ≠ 44 ∧ t ≠ 45) : rb_R (d + 1) 62 [.ref t, .long x, .long y] (js σ Z) = some (none, js σ (va_up Z t (x, y))) := by
  rw [q_become (js_at h), ← js_wr h]
theorem j_prod (h : 13 ≤ t ∧ t ≤ 84 ∧ t ≠ 15 ∧ t ≠ 16 ∧ t ≠ 44 ∧ t ≠ 45) (ha : 13 ≤ a ∧ a ≤ 84 ∧ a ≠ 15 ∧ a ≠ 16 ∧ a ≠ 44 ∧ a ≠ 45) (hb : 13 ≤ b ∧ b ≤ 84 ∧ b ≠ 15 ∧ b ≠ 16 ∧ b ≠ 44 ∧ b ≠ 45) : rb_R (d + 2) 63 [.ref t, .ref a, .ref b] (js σ Z) = some (none, js σ (va_up Z t (iprod (Z a) (Z b)))) := by
  rw [q_prod (js_at h) (js_at ha) (js_at hb), ← js_wr h]
  rfl
theorem j_quot (h : 13 ≤ t ∧ t ≤ 84 ∧ t ≠ 15 ∧ t ≠ 16 ∧ t ≠ 44 ∧ t ≠ 45) (ha : 13 ≤ a ∧ a ≤ 84 ∧ a ≠ 15 ∧ a ≠ 16 ∧ a ≠ 44 ∧ a ≠ 45) (hb : 13 ≤ b ∧ b ≤ 84 ∧ b ≠ 15 ∧ b ≠ 16 ∧ b ≠ 44 ∧ b ≠ 45) (h1 : ¬ (Z b).1 = 0) (h2 : ¬ (Z b).2 = 0) : rb_R (d + 3) 64 [.ref t, .ref a, .ref b] (js σ Z) = some (none, js σ (va_up Z t (iquot (Z a) (Z b)))) := by
  rw [q_quot (js_at h) (js_at ha) (js_at hb) h1 h2, ← js_wr h]
  rfl
theorem j_less (h : 13 ≤ t ∧ t ≤ 84 ∧ t ≠ 15 ∧ t ≠ 16 ∧ t ≠ 44 ∧ t ≠ 45) (ha : 13 ≤ a ∧ a ≤ 84 ∧ a ≠ 15 ∧ a ≠ 16 ∧ a ≠ 44 ∧ a ≠ 45) (hb : 13 ≤ b ∧ b ≤ 84 ∧ b ≠ 15 ∧ b ≠ 16 ∧ b ≠ 44 ∧ b ≠ 45) : rb_R (d + 2) 65 [.ref t, .ref a, .ref b] (js σ Z) = some (none, js σ (va_up Z t (iless (Z a) (Z b)))) := by
  rw [q_less (js_at h) (js_at ha) (js_at hb), ← js_wr h]
  rfl
theorem j_share (h : 13 ≤ t ∧ t ≤ 84 ∧ t ≠ 15 ∧ t ≠ 16 ∧ t ≠ 44 ∧ t ≠ 45) (ha : 13 ≤ a ∧ a ≤ 84 ∧ a ≠ 15 ∧ a ≠ 16 ∧ a ≠ 44 ∧ a ≠ 45) (hb : 13 ≤ b ∧ b ≤ 84 ∧ b ≠ 15 ∧ b ≠ 16 ∧ b ≠ 44 ∧ b ≠ 45) : rb_R (d + 2) 66 [.ref t, .ref a, .ref b] (js σ Z) = some (none, js σ (va_up Z t (ishare (Z a) (Z b)))) := by
  rw [q_shared (js_at h) (js_at ha) (js_at hb), ← js_wr h]
  rfl
theorem j_addT {f : Int64} (h : 13 ≤ t ∧ t ≤ 84 ∧ t ≠ 15 ∧ t ≠ 16 ∧ t ≠ 44 ∧ t ≠ 45) (ha : 13 ≤ a ∧ a ≤ 84 ∧ a ≠ 15 ∧ a ≠ 16 ∧ a ≠ 44 ∧ a ≠ 45) (hne : a ≠ t) : rb_R (d + 2) 67 [.ref t, .ref a, .long f] (js σ Z) = some (none, js σ (va_up Z t (iaddT (Z t) (Z a) f))) := by
  rw [q_addT (js_at h) (js_at ha) hne, ← js_wr h]
  rfl
theorem j_hasZero (h : 13 ≤ t ∧ t ≤ 84 ∧ t ≠ 15 ∧ t ≠ 16 ∧ t ≠ 44 ∧ t ≠ 45) : rb_R (d + 1) 68 [.ref t] (js σ Z) = some (some (.int (if 0 < (Z t).1 then 0 else if (Z t).2 < 0 then 0 else 1)), js σ Z) := q_hasZero (js_at h)
theorem j_isNothing (h : 13 ≤ t ∧ t ≤ 84 ∧ t ≠ 15 ∧ t ≠ 16 ∧ t ≠ 44 ∧ t ≠ 45) : rb_R (d + 1) 69 [.ref t] (js σ Z) = some (some (.int (if (Z t).1 ≤ (Z t).2 then 0 else 1)), js σ Z) := q_isNothing (js_at h)
theorem j_within (h : 13 ≤ t ∧ t ≤ 84 ∧ t ≠ 15 ∧ t ≠ 16 ∧ t ≠ 44 ∧ t ≠ 45) (ha : 13 ≤ a ∧ a ≤ 84 ∧ a ≠ 15 ∧ a ≠ 16 ∧ a ≠ 44 ∧ a ≠ 45) : rb_R (d + 1) 70 [.ref t, .ref a] (js σ Z) = some (some (.int (if (Z t).1 ≤ (Z a).1 then 0 else if (Z a).2 ≤ (Z t).2 then 0 else 1)), js σ Z) := q_within (js_at h) (js_at ha)
theorem j_width (h : 13 ≤ t ∧ t ≤ 84 ∧ t ≠ 15 ∧ t ≠ 16 ∧ t ≠ 44 ∧ t ≠ 45) : rb_R (d + 1) 71 [.ref t] (js σ Z) = some (some (.long ((Z t).2 - (Z t).1)), js σ Z) := q_width (js_at h)
theorem j_middle (h : 13 ≤ t ∧ t ≤ 84 ∧ t ≠ 15 ∧ t ≠ 16 ∧ t ≠ 44 ∧ t ≠ 45) : rb_R (d + 2) 72 [.ref t] (js σ Z) = some (some (.long (fdiv ((Z t).1 + (Z t).2) 2)), js σ Z) := q_middle (js_at h)
theorem j_told {w : Int32} (h : 13 ≤ t ∧ t ≤ 84 ∧ t ≠ 15 ∧ t ≠ 16 ∧ t ≠ 44 ∧ t ≠ 45) : rb_R (d + 2) 73 [.ref t, .int w] (js σ Z) = some (some (.int (lmax (-1000000000) (lmin 1000000000 (if w = 0 then (Z t).1 else (Z t).2))).toInt32), js σ Z) := q_told (js_at h)
theorem j_isR (h : 13 ≤ t ∧ t ≤ 84 ∧ t ≠ 15 ∧ t ≠ 16 ∧ t ≠ 44 ∧ t ≠ 45) {As : List Value} : rb_isR (js σ Z) 5 (.ref t :: As) = true := by
  show (match (js σ Z).1 t with | some (.inr (c, _)) => c == 5 | _ => false) = true
  rw [js_at h]
  rfl
/-- what kind of object lies there -/
theorem isR_of {σ : rb_S} {a ci : Nat} {fs : List Value} (h : σ.1 a = some (.inr (ci, fs))) {As : List Value} : rb_isR σ ci (.ref a :: As) = true := by
  show (match σ.1 a with | some (.inr (c, _)) => c == ci | _ => false) = true
  rw [h]
  show (ci == ci) = true
  exact beq_self_eq_true ci
end
/-! ===== sums over the places ===== -/
def inn {α : Type} (F : Nat → Nat → α → α) (i : Nat) : Nat → Nat → α → α
  | 0, _, s => s
  | r + 1, j, s => inn F i r (j + 1) (F i j s)
def out2 {α : Type} (F : Nat → Nat → α → α) (N : Nat) : Nat → Nat → α → α
  | 0, _, s => s
  | r + 1, i, s => out2 F N r (i + 1) (inn F i (N - i) 0 s)
/-- one term of a value -/
def fV (c : Nat → Int32) (G : Nat → sI) (i j : Nat) (v : sI) : sI := if c (5 * i + j) = 0 then v else iaddT v (G (5 * i + j)) (c (5 * i + j)).toInt64
def vsum (c : Nat → Int32) (G : Nat → sI) : sI := out2 (fV c G) 5 5 0 (0, 0)
theorem l_vin {d s p gr ga gb e i : Nat} {σ : rb_S} {Z : Nat → sI} {c : Nat → Int32} {gf : Nat → Option Nat} {K : Option rb_B} (hs : 13 ≤ s ∧ s ≤ 84 ∧ s ≠ 15 ∧ s ≠ 16 ∧ s ≠ 44 ∧ s ≠ 45) (hp : σ.1 p = some (.inr (3, [.ref e]))) (he : σ.1 e = some (.inl (0, 25, .inl c))) (hp0 : 85 ≤ p) (he0 : 85 ≤ e) (hg : σ.1 gr = some (.inr (1, [.ref ga]))) (hga : σ.1 ga = some (.inl (2, 25, .inr (.inr (.inr (.inr gf)))))) (hgr : (gr = 15 ∧ ga = 16 ∧ gb = 17) ∨ (gr = 44 ∧ ga = 45 ∧ gb = 46)) (hgf : ∀ k, k < 25 → gf k = some (gb + k)) (hsg : s < gb ∨ gb + 25 ≤ s) (hi : i ≤ 4) : ∀ (r j : Nat) (v : sI) (w : Option Value), j + r = 5 - i →
    (∀ w, rb_lim (rb_stp (rb_R (d + 2)) rb_m35) (58, [some (.ref s), some (.ref p), some (.ref gr), some (.int (nI i)), some (.int (nI (5 - i))), w], [], js σ (va_up Z s (inn (fV c (fun k => Z (gb + k))) i r j v))) = K) →
    rb_lim (rb_stp (rb_R (d + 2)) rb_m35) (16, [some (.ref s), some (.ref p), some (.ref gr), some (.int (nI i)), some (.int (nI j)), w], [], js σ (va_up Z s v)) = K := by
  intro r
  induction r with
  | zero =>
    intro j v w hj hK
    have hj' : j = 5 - i := by omega
    subst hj'
    rw [rb_ls 16 58 40]
    simp (disch := omega) only [rb_gs_eq, rb_cs_go, rb_cs_end, rb_cs_ite, Nat.reduceAdd, Nat.zero_add, wr_at, wr_wr, true_and, and_true, and_self, true_or, or_true, false_or, or_false, ↓reduceIte, Nat.reduceLT, Nat.reduceLeDiff, Nat.reduceEqDiff, lg_cmp_ge, lg_cmp_le, lg_cmp_gt, lg_cmp_lt, lg_cmp_eq, Bool.false_eq_true, reduceCtorEq, mg_i, mg_l, decide_true, beq_self_eq_true, Nat.reduceBEq, st_35, dX2_valueInto_0, xx_aloadn0, xx_aloadn0N, dX2_valueInto_1, xx_lconst, kl_0, dX2_valueInto_2, dX2_valueInto_3, xx_ivV, zz_c0, zz_c3, zz_c1, zz_c2, zz_c5, zz_c8, zz_c6, zz_R, List.length_cons, List.length_nil, List.take_succ_cons, List.take_zero, List.drop_succ_cons, List.drop_zero, List.reverse_cons, List.reverse_nil, List.nil_append, List.cons_append, rb_cat, List.map_cons, List.map_nil, List.sum_cons, List.sum_nil, Value.category, rb_isR, rb_isS, Option.toList_some, Option.toList_none, tv_2_85, dX2_valueInto_6, xx_iconst, kc_0, dX2_valueInto_7, xx_istoren3, zz_invi, zz_invr, zz_invz, zz_invn, zz_invl, dX2_valueInto_8, xx_iloadn3, dX2_valueInto_9, kc_4, dX2_valueInto_10, xx_icgt, rb_jp, Int.cast_ofNat_Int, Int.reduceAdd, Int.reduceLE, Int.reduceToNat, Int.reduceNeg, dX2_valueInto_13, dX2_valueInto_14, xx_istore4, dX2_valueInto_16, dX2_valueInto_17, xx_iload4, dX2_valueInto_19, xx_iadd, dX2_valueInto_20, dX2_valueInto_21, dX2_valueInto_24, xx_aloadn1, xx_aloadn1N, dX2_valueInto_25, dX2_valueInto_26, dX2_valueInto_28, tv_2_144, dX2_valueInto_31, xx_istore5, dX2_valueInto_33, xx_iload5, dX2_valueInto_35, xx_ifeq, dX2_valueInto_38, dX2_valueInto_39, xx_aloadn2, xx_aloadn2N, dX2_valueInto_40, dX2_valueInto_41, dX2_valueInto_43, tv_2_149, dX2_valueInto_46, dX2_valueInto_48, xx_i2l, dX2_valueInto_49, tv_2_152, dX2_valueInto_52, xx_iinc4, kc_1, dX2_valueInto_55, xx_goto, dX2_valueInto_58, xx_iinc3, dX2_valueInto_61, dX2_valueInto_64, xx_vret, lit_0, lit_1, lit_2, lit_3, lit_4, lit_5, lit_6, lit_7, lit_8, lit_9, lit_10, lit_11, lit_12, lit_13, lit_14, lit_18, lit_20, lit_24, lit_25, lit_48, lit_50, lit_51, lit_52, lit_53, lit_54, lit_55, lit_57, lit_64, lit_97, lit_122, lit_200, lit_255, lit_311, lit_512, lit_1111, lit_1911, lit_2911, nI_add, nI_mul', nI_lt', nI_le', nI_eq', rb_in', nI_cl, nI_sub', Nat.reduceMul, decide_true, decide_eq_true_eq, Nat.not_lt, Nat.zero_le, Nat.not_lt_zero, Nat.reduceSub, Nat.add_zero, if_pos, if_neg, nI_ofn, xx_zn0, xx_zn1, zz_tn0, zz_tn1, ↓reduceIte]
    exact hK w
  | succ r ih =>
    intro j v w hj hK
    have hp' : (js σ (va_up Z s v)).1 p = some (.inr (3, [.ref e])) := by rw [js_no (k := p) (by omega)]; exact hp
    have he' : (js σ (va_up Z s v)).1 e = some (.inl (0, 25, .inl c)) := by rw [js_no (k := e) (by omega)]; exact he
    have hg' : (js σ (va_up Z s v)).1 gr = some (.inr (1, [.ref ga])) := by rw [js_no (k := gr) (by omega)]; exact hg
    have hga' : (js σ (va_up Z s v)).1 ga = some (.inl (2, 25, .inr (.inr (.inr (.inr gf))))) := by rw [js_no (k := ga) (by omega)]; exact hga
    have e1 := q_pat (d := d) (i := i) (j := j) hp' he' (by omega)
    have e2 := q_gat (d := d) (i := i) (j := j) hg' hga' (by omega) (hgf _ (by omega))
    have e3 := j_addT (d := d) (σ := σ) (Z := va_up Z s v) (f := (c (5 * i + j)).toInt64) (t := s) (a := gb + (5 * i + j)) hs (by omega) (by omega)
    have e4 : va_up (va_up Z s v) s (iaddT ((va_up Z s v) s) ((va_up Z s v) (gb + (5 * i + j))) (c (5 * i + j)).toInt64) = va_up Z s (iaddT v (Z (gb + (5 * i + j))) (c (5 * i + j)).toInt64) := by
      rw [va_up_self, va_up_ne _ _ (show gb + (5 * i + j) ≠ s by omega)]
      funext q
      unfold va_up
      by_cases hq : q = s <;> simp [hq]
    rw [e4] at e3
    rw [rb_ls 16 58 60]
    have hK' := hK
    rw [inn] at hK'
    unfold fV at hK'
    by_cases c1 : c (5 * i + j) = 0
    · rw [if_pos c1] at hK'
      simp (disch := omega) only [rb_gs_eq, rb_cs_go, rb_cs_end, rb_cs_ite, Nat.reduceAdd, Nat.zero_add, wr_at, wr_wr, true_and, and_true, and_self, true_or, or_true, false_or, or_false, ↓reduceIte, Nat.reduceLT, Nat.reduceLeDiff, Nat.reduceEqDiff, lg_cmp_ge, lg_cmp_le, lg_cmp_gt, lg_cmp_lt, lg_cmp_eq, Bool.false_eq_true, reduceCtorEq, mg_i, mg_l, decide_true, beq_self_eq_true, Nat.reduceBEq, st_35, dX2_valueInto_0, xx_aloadn0, xx_aloadn0N, dX2_valueInto_1, xx_lconst, kl_0, dX2_valueInto_2, dX2_valueInto_3, xx_ivV, zz_c0, zz_c3, zz_c1, zz_c2, zz_c5, zz_c8, zz_c6, zz_R, List.length_cons, List.length_nil, List.take_succ_cons, List.take_zero, List.drop_succ_cons, List.drop_zero, List.reverse_cons, List.reverse_nil, List.nil_append, List.cons_append, rb_cat, List.map_cons, List.map_nil, List.sum_cons, List.sum_nil, Value.category, rb_isR, rb_isS, Option.toList_some, Option.toList_none, tv_2_85, dX2_valueInto_6, xx_iconst, kc_0, dX2_valueInto_7, xx_istoren3, zz_invi, zz_invr, zz_invz, zz_invn, zz_invl, dX2_valueInto_8, xx_iloadn3, dX2_valueInto_9, kc_4, dX2_valueInto_10, xx_icgt, rb_jp, Int.cast_ofNat_Int, Int.reduceAdd, Int.reduceLE, Int.reduceToNat, Int.reduceNeg, dX2_valueInto_13, dX2_valueInto_14, xx_istore4, dX2_valueInto_16, dX2_valueInto_17, xx_iload4, dX2_valueInto_19, xx_iadd, dX2_valueInto_20, dX2_valueInto_21, dX2_valueInto_24, xx_aloadn1, xx_aloadn1N, dX2_valueInto_25, dX2_valueInto_26, dX2_valueInto_28, tv_2_144, dX2_valueInto_31, xx_istore5, dX2_valueInto_33, xx_iload5, dX2_valueInto_35, xx_ifeq, dX2_valueInto_38, dX2_valueInto_39, xx_aloadn2, xx_aloadn2N, dX2_valueInto_40, dX2_valueInto_41, dX2_valueInto_43, tv_2_149, dX2_valueInto_46, dX2_valueInto_48, xx_i2l, dX2_valueInto_49, tv_2_152, dX2_valueInto_52, xx_iinc4, kc_1, dX2_valueInto_55, xx_goto, dX2_valueInto_58, xx_iinc3, dX2_valueInto_61, dX2_valueInto_64, xx_vret, lit_4, nI_add, nI_lt', e1, c1, hp', if_pos, if_neg, nI_1]
      exact ih (j + 1) v _ (by omega) hK'
    · rw [if_neg c1] at hK'
      simp (disch := omega) only [rb_gs_eq, rb_cs_go, rb_cs_end, rb_cs_ite, Nat.reduceAdd, Nat.zero_add, wr_at, wr_wr, true_and, and_true, and_self, true_or, or_true, false_or, or_false, ↓reduceIte, Nat.reduceLT, Nat.reduceLeDiff, Nat.reduceEqDiff, lg_cmp_ge, lg_cmp_le, lg_cmp_gt, lg_cmp_lt, lg_cmp_eq, Bool.false_eq_true, reduceCtorEq, mg_i, mg_l, decide_true, beq_self_eq_true, Nat.reduceBEq, st_35, dX2_valueInto_0, xx_aloadn0, xx_aloadn0N, dX2_valueInto_1, xx_lconst, kl_0, dX2_valueInto_2, dX2_valueInto_3, xx_ivV, zz_c0, zz_c3, zz_c1, zz_c2, zz_c5, zz_c8, zz_c6, zz_R, List.length_cons, List.length_nil, List.take_succ_cons, List.take_zero, List.drop_succ_cons, List.drop_zero, List.reverse_cons, List.reverse_nil, List.nil_append, List.cons_append, rb_cat, List.map_cons, List.map_nil, List.sum_cons, List.sum_nil, Value.category, rb_isR, rb_isS, Option.toList_some, Option.toList_none, tv_2_85, dX2_valueInto_6, xx_iconst, kc_0, dX2_valueInto_7, xx_istoren3, zz_invi, zz_invr, zz_invz, zz_invn, zz_invl, dX2_valueInto_8, xx_iloadn3, dX2_valueInto_9, kc_4, dX2_valueInto_10, xx_icgt, rb_jp, Int.cast_ofNat_Int, Int.reduceAdd, Int.reduceLE, Int.reduceToNat, Int.reduceNeg, dX2_valueInto_13, dX2_valueInto_14, xx_istore4, dX2_valueInto_16, dX2_valueInto_17, xx_iload4, dX2_valueInto_19, xx_iadd, dX2_valueInto_20, dX2_valueInto_21, dX2_valueInto_24, xx_aloadn1, xx_aloadn1N, dX2_valueInto_25, dX2_valueInto_26, dX2_valueInto_28, tv_2_144, dX2_valueInto_31, xx_istore5, dX2_valueInto_33, xx_iload5, dX2_valueInto_35, xx_ifeq, dX2_valueInto_38, dX2_valueInto_39, xx_aloadn2, xx_aloadn2N, dX2_valueInto_40, dX2_valueInto_41, dX2_valueInto_43, tv_2_149, dX2_valueInto_46, dX2_valueInto_48, xx_i2l, dX2_valueInto_49, tv_2_152, dX2_valueInto_52, xx_iinc4, kc_1, dX2_valueInto_55, xx_goto, dX2_valueInto_58, xx_iinc3, dX2_valueInto_61, dX2_valueInto_64, xx_vret, lit_4, nI_add, nI_lt', e1, e2, e3, c1, hp', hg', js_at hs, if_pos, if_neg, nI_1]
      exact ih (j + 1) _ _ (by omega) hK'
