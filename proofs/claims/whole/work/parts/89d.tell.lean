/-! ===== what clauses do, on both sides ===== -/
def eC (K : Int32) (v : Nat → Int32) (x : sP × Int32 × Nat) : sP × Int32 × Nat := if K = 0 then (oClr (va_up (va_up x.1.1 2 (zer (x.1.1 2) 25)) 4 (zer (x.1.1 4) 25), x.1.2), 4, 0) else if K = 3 then (x.1, v 0, x.2.2) else if K = 4 then (oAdd (oClr x.1) (v 0) (v 1) (v 2) (v 3), x.2) else ((va_up x.1.1 (2 + 2 * (if K = 1 then 0 else 1)) (upd (x.1.1 (2 + 2 * (if K = 1 then 0 else 1))) (5 * (v 1).toNatClampNeg + (v 2).toNatClampNeg) (v 0)), x.1.2), x.2)
def eCs (g : Nat → Int32) (n : Nat) : List Nat → sP × Int32 × Nat → sP × Int32 × Nat
  | [], x => x
  | s :: cs, x => eCs g n cs (eC (lx_kw g n s) (lx_vk g n (lx_kw g n s) (lx_s0 g n s)) x)
theorem RS_all {P : sP} {l : Int32} {st : Nat → Int32} (h : RS P l st) : RS (oClr (va_up (va_up P.1 2 (zer (P.1 2) 25)) 4 (zer (P.1 4) 25), P.2)) 4 (upd (zer st 2911) 50 4) := by
  have z : ∀ t, t < 2911 → t ≠ 50 → upd (zer st 2911) 50 4 t = 0 := fun t ht h50 => by
    rw [pk_un h50]
    exact if_pos ht
  have zc : cb (zer (P.1 2) 25) ∧ cb (zer (P.1 4) 25) := by
    constructor
    · intro k hk
      rw [show zer (P.1 2) 25 k = 0 from if_pos hk]
      exact ⟨by decide, by decide⟩
    · intro k hk
      rw [show zer (P.1 4) 25 k = 0 from if_pos hk]
      exact ⟨by decide, by decide⟩
  refine ⟨⟨Nat.zero_le _, Nat.zero_le _, Nat.zero_le _, Nat.zero_le _⟩, ⟨zc.1, zc.2, fun k hk => ⟨?_, ?_⟩⟩, pk_us, ⟨z 51 (by omega) (by omega), fun k hk => absurd hk (Nat.not_lt_zero k), fun k hk => absurd hk (Nat.not_lt_zero k)⟩, ⟨z 52 (by omega) (by omega), fun k hk => absurd hk (Nat.not_lt_zero k), fun k hk => absurd hk (Nat.not_lt_zero k), fun k k' hk => absurd hk (Nat.not_lt_zero k), fun i hi => absurd hi (Nat.not_lt_zero _)⟩, ⟨z 53 (by omega) (by omega), fun k hk => absurd hk (Nat.not_lt_zero k)⟩, ⟨z 54 (by omega) (by omega), fun k hk => absurd hk (Nat.not_lt_zero k), fun k hk => absurd hk (Nat.not_lt_zero k)⟩⟩
  · show upd (zer st 2911) 50 4 k = zer (P.1 2) 25 k
    rw [z k (by omega) (by omega), show zer (P.1 2) 25 k = 0 from if_pos hk]
  · show upd (zer st 2911) 50 4 (25 + k) = zer (P.1 4) 25 k
    rw [z (25 + k) (by omega) (by omega), show zer (P.1 4) 25 k = 0 from if_pos hk]
theorem RS_eff {g : Nat → Int32} {n s : Nat} {P : sP} {l : Int32} {st : Nat → Int32} {hn : Nat} (hok : lx_ClOK g n s) (hR : RS P l st) : RS (eC (lx_kw g n s) (lx_vk g n (lx_kw g n s) (lx_s0 g n s)) (P, l, hn)).1 (eC (lx_kw g n s) (lx_vk g n (lx_kw g n s) (lx_s0 g n s)) (P, l, hn)).2.1 (eM (lx_kw g n s) (lx_vk g n (lx_kw g n s) (lx_s0 g n s)) (st, hn)).1 ∧ (eC (lx_kw g n s) (lx_vk g n (lx_kw g n s) (lx_s0 g n s)) (P, l, hn)).2.2 = (eM (lx_kw g n s) (lx_vk g n (lx_kw g n s) (lx_s0 g n s)) (st, hn)).2 ∧ ((eC (lx_kw g n s) (lx_vk g n (lx_kw g n s) (lx_s0 g n s)) (P, l, hn)).2.2 = hn ∨ (eC (lx_kw g n s) (lx_vk g n (lx_kw g n s) (lx_s0 g n s)) (P, l, hn)).2.2 = 0) := by
  obtain ⟨hK, ho⟩ := hok
  have tri : ∀ (K : Int32) (q : Nat), q ≤ 1 → ¬ K = 0 → ¬ K = 3 → ¬ K = 4 → (if K = 1 then 0 else 1) = q → (∀ k, k < 3 → lx_ok g n K (lx_s0 g n s) k) → RS (eC K (lx_vk g n K (lx_s0 g n s)) (P, l, hn)).1 (eC K (lx_vk g n K (lx_s0 g n s)) (P, l, hn)).2.1 (eM K (lx_vk g n K (lx_s0 g n s)) (st, hn)).1 ∧ (eC K (lx_vk g n K (lx_s0 g n s)) (P, l, hn)).2.2 = (eM K (lx_vk g n K (lx_s0 g n s)) (st, hn)).2 ∧ ((eC K (lx_vk g n K (lx_s0 g n s)) (P, l, hn)).2.2 = hn ∨ (eC K (lx_vk g n K (lx_s0 g n s)) (P, l, hn)).2.2 = 0) := by
    intro K q hq h0 h3 h4 hKq ho
    obtain ⟨i, j, ei, ej, hij⟩ := ij_T (g := g) (n := n) h3 h4 (ho 1 (by omega)) (ho 2 (by omega))
    have q0 := inR_1 (((okT h3 h4).1.mp (ho 0 (by omega))).2.2)
    have v0 := (vkT (g := g) (n := n) h3 h4 (t := lx_s0 g n s)).1
    rw [← v0] at q0
    have z1 : (-20 : Int32).toInt = -20 := rfl
    have z2 : (20 : Int32).toInt = 20 := rfl
    unfold eC eM
    rw [if_neg h0, if_neg h3, if_neg h4, if_neg h0, if_neg h3, if_neg h4, hKq, ei, ej, nI_cl (by omega), nI_cl (by omega)]
    exact ⟨RS_put (k := 5 * i + j) hR hq (by omega) (by omega) (by omega), rfl, Or.inl rfl⟩
  rcases (kw_c g n s).resolve_left hK with k | k | k | k | k
  · rw [k]
    exact ⟨RS_all hR, rfl, Or.inr rfl⟩
  · rw [k] at ho ⊢
    rw [wn_l.2.1] at ho
    exact tri 1 0 (by omega) (by decide) (by decide) (by decide) rfl ho
  · rw [k] at ho ⊢
    rw [wn_l.2.2.1] at ho
    exact tri 2 1 (by omega) (by decide) (by decide) (by decide) rfl ho
  · rw [k]
    exact ⟨RS_least hR, rfl, Or.inl rfl⟩
  · rw [k] at ho ⊢
    rw [wn_l.2.2.2.2] at ho
    have a0 := inR_1 (ho 0 (by omega)).2.2
    have a1 := inR_1 (ho 1 (by omega)).2.2
    have a2 := inR_1 (ho 2 (by omega)).2.2
    have a3 := inR_1 (ho 3 (by omega)).2.2
    have z1 : (-512 : Int32).toInt = -512 := rfl
    have z2 : (512 : Int32).toInt = 512 := rfl
    have z3 : (1 : Int32).toInt = 1 := rfl
    have c0 : (-512 : Int32).toInt ≤ (lx_vk g n 4 (lx_s0 g n s) 0).toInt ∧ (lx_vk g n 4 (lx_s0 g n s) 0).toInt ≤ (512 : Int32).toInt := a0
    have c2 : (-512 : Int32).toInt ≤ (lx_vk g n 4 (lx_s0 g n s) 2).toInt ∧ (lx_vk g n 4 (lx_s0 g n s) 2).toInt ≤ (512 : Int32).toInt := a2
    have c1 : (lx_vk g n 4 (lx_s0 g n s) 0 + 1).toInt ≤ (lx_vk g n 4 (lx_s0 g n s) 1).toInt ∧ (lx_vk g n 4 (lx_s0 g n s) 1).toInt ≤ (512 : Int32).toInt := a1
    have c3 : (lx_vk g n 4 (lx_s0 g n s) 2 + 1).toInt ≤ (lx_vk g n 4 (lx_s0 g n s) 3).toInt ∧ (lx_vk g n 4 (lx_s0 g n s) 3).toInt ≤ (512 : Int32).toInt := a3
    rw [i_add (by omega) (by omega)] at c1 c3
    refine ⟨RS_begin hR ?_, rfl, Or.inl rfl⟩
    refine ⟨⟨?_, ?_, ?_⟩, ?_, ?_, ?_⟩
    · show -512 ≤ (lx_vk g n 4 (lx_s0 g n s) 0).toInt; omega
    · show (lx_vk g n 4 (lx_s0 g n s) 0).toInt ≤ (lx_vk g n 4 (lx_s0 g n s) 1).toInt; omega
    · show (lx_vk g n 4 (lx_s0 g n s) 1).toInt ≤ 512; omega
    · show -512 ≤ (lx_vk g n 4 (lx_s0 g n s) 2).toInt; omega
    · show (lx_vk g n 4 (lx_s0 g n s) 2).toInt ≤ (lx_vk g n 4 (lx_s0 g n s) 3).toInt; omega
    · show (lx_vk g n 4 (lx_s0 g n s) 3).toInt ≤ 512; omega
theorem RS_effs {g : Nat → Int32} {n : Nat} : ∀ (cs : List Nat) (P : sP) (l : Int32) (st : Nat → Int32) (hn : Nat), (∀ s, s ∈ cs → lx_ClOK g n s) → RS P l st → RS (eCs g n cs (P, l, hn)).1 (eCs g n cs (P, l, hn)).2.1 (eMs g n cs (st, hn)).1 ∧ (eCs g n cs (P, l, hn)).2.2 = (eMs g n cs (st, hn)).2 ∧ ((eCs g n cs (P, l, hn)).2.2 = hn ∨ (eCs g n cs (P, l, hn)).2.2 = 0) := by
  intro cs
  induction cs with
  | nil => intro P l st hn _ hR; exact ⟨hR, rfl, Or.inl rfl⟩
  | cons s cs ih =>
    intro P l st hn hok hR
    obtain ⟨e1, e2, e3⟩ := RS_eff (hn := hn) (hok s List.mem_cons_self) hR
    rw [eCs, eMs]
    obtain ⟨x, hx⟩ : ∃ x, eC (lx_kw g n s) (lx_vk g n (lx_kw g n s) (lx_s0 g n s)) (P, l, hn) = x := ⟨_, rfl⟩
    obtain ⟨y, hy⟩ : ∃ y, eM (lx_kw g n s) (lx_vk g n (lx_kw g n s) (lx_s0 g n s)) (st, hn) = y := ⟨_, rfl⟩
    rw [hx, hy] at e1
    rw [hx, hy] at e2
    rw [hx] at e3
    rw [hx, hy]
    obtain ⟨x1, x2, x3⟩ := x
    obtain ⟨y1, y2⟩ := y
    dsimp only at e1 e2 e3
    subst e2
    obtain ⟨f1, f2, f3⟩ := ih x1 x2 y1 x3 (fun s hs => hok s (List.mem_cons_of_mem _ hs)) e1
    refine ⟨f1, f2, ?_⟩
    rcases f3 with f3 | f3
    · rcases e3 with e3 | e3
      · exact Or.inl (f3.trans e3)
      · exact Or.inr (f3.trans e3)
    · exact Or.inr f3
theorem rd_cls {g : Nat → Int32} {n : Nat} : ∀ (r s : Nat) (cs : List Nat), lx_RdOK g n r s cs → ∀ s', s' ∈ cs → lx_ClOK g n s' := by
  intro r
  induction r with
  | zero => intro s cs h; exact h.elim
  | succ r ih =>
    intro s cs h s' hs'
    obtain ⟨hok, hh⟩ := h
    rcases hh with ⟨-, hcs⟩ | ⟨-, cs', hcs, hrec⟩
    · rw [hcs] at hs'
      rw [List.mem_singleton.mp hs']
      exact hok
    · rw [hcs] at hs'
      rcases List.mem_cons.mp hs' with e | e
      · rw [e]; exact hok
      · exact ih _ _ hrec s' e
section
variable {C : rb_C} {o pc : Nat} {ini : Bool} {ret : Option FieldType} {ls : rb_L} {st : List Value} {σ : rb_S}
theorem sw_d : rb_nxt C o ini ret (.ok (.tableswitch 120 0 4 #[33, 50, 68, 86, 97], 33)) pc ls (.int 0 :: st) σ = rb_jp pc 33 ls st σ ∧ rb_nxt C o ini ret (.ok (.tableswitch 120 0 4 #[33, 50, 68, 86, 97], 33)) pc ls (.int 1 :: st) σ = rb_jp pc 50 ls st σ ∧ rb_nxt C o ini ret (.ok (.tableswitch 120 0 4 #[33, 50, 68, 86, 97], 33)) pc ls (.int 2 :: st) σ = rb_jp pc 68 ls st σ ∧ rb_nxt C o ini ret (.ok (.tableswitch 120 0 4 #[33, 50, 68, 86, 97], 33)) pc ls (.int 3 :: st) σ = rb_jp pc 86 ls st σ ∧ rb_nxt C o ini ret (.ok (.tableswitch 120 0 4 #[33, 50, 68, 86, 97], 33)) pc ls (.int 4 :: st) σ = rb_jp pc 97 ls st σ := ⟨rfl, rfl, rfl, rfl, rfl⟩
end
/-- what is held, told anew -/
def hw (σ : rb_S) (hn : Nat) : rb_S := rb_wr σ 100 (brw 101 (nI 1) (nI hn))
section
variable {d n : Nat} {σ τ : rb_S} {g kd nb : Nat → Int32} {c t s e : Int32} {P : sP} {l : Int32} {Z : Nat → sI}
theorem hw_no {hn k : Nat} (h : k ≠ 100) : (hw σ hn).1 k = σ.1 k := wr_ne h
theorem hw_100 {hn : Nat} : (hw σ hn).1 100 = some (brw 101 (nI 1) (nI hn)) := wr_at
theorem q_number {k j : Nat} (h9 : σ.1 9 = some (.inr (4, [.ref 7, .ref 10, .ref 11, .int c, .int t, .int s, .int e]))) (h10 : σ.1 10 = some (.inl (0, 24, .inl kd))) (h11 : σ.1 11 = some (.inl (0, 96, .inl nb))) (hk : k < 24) (hj : j < 4) : rb_R (d + 2) 49 [.ref 9, .int (nI k), .int (nI j)] σ = some (some (.int (nb (4 * k + j))), σ) := by
  have e1 := c_number (d := d) (σ := σ) (kd := kd) (nb := nb) (c := c) (t := t) (s := s) (e := e) hk hj
  rw [ro_self h9 h10 h11] at e1
  exact e1
theorem q_kind {k : Nat} (h9 : σ.1 9 = some (.inr (4, [.ref 7, .ref 10, .ref 11, .int c, .int t, .int s, .int e]))) (h10 : σ.1 10 = some (.inl (0, 24, .inl kd))) (hk : k < 24) : rb_R (d + 1) 48 [.ref 9, .int (nI k)] σ = some (some (.int (kd k)), σ) := by
  have g1 : ¬ nI k < 0 := nI_pos (by omega)
  have g2 : ¬ nI 24 ≤ nI k := nI_ge (by omega) (by omega)
  have r1 : rb_in (nI k) 24 = true := by rw [rb_in' (by omega)]; exact decide_eq_true (by omega)
  have k1 : (nI k).toNatClampNeg = k := nI_cl (by omega)
  rw [en_48 (k := 60) (ls := [some (.ref 9), some (.int (nI k))]) rfl]
  simp only [rb_gg_eq, rb_ct_go, rb_ct_end, rb_ct_ite, Nat.reduceAdd, Nat.zero_add, wr_at, wr_wr, true_and, and_true, and_self, true_or, or_true, false_or, or_false, ↓reduceIte, Nat.reduceLT, Nat.reduceLeDiff, Nat.reduceEqDiff, lg_cmp_ge, lg_cmp_le, lg_cmp_gt, lg_cmp_lt, lg_cmp_eq, Bool.false_eq_true, reduceCtorEq, mg_i, mg_l, decide_true, beq_self_eq_true, Nat.reduceBEq, st_48, dX4_clauseKind_0, xx_iloadn1, dX4_clauseKind_1, xx_iflt, rb_jp, Int.cast_ofNat_Int, Int.reduceAdd, Int.reduceLE, Int.reduceToNat, Int.reduceNeg, dX4_clauseKind_4, dX4_clauseKind_5, xx_aloadn0, xx_aloadn0N, dX4_clauseKind_6, xx_getf, zz_f, zz_g, zz_v, List.getElem?_cons_zero, List.getElem?_cons_succ, tf_4_9, dX4_clauseKind_9, xx_alen, zz_vi, zz_va, dX4_clauseKind_10, xx_icge, dX4_clauseKind_13, dX4_clauseKind_14, dX4_clauseKind_17, dX4_clauseKind_18, xx_iald, zz_yi, zz_yx, dX4_clauseKind_19, xx_goto, dX4_clauseKind_22, xx_iconst, kc_m1, dX4_clauseKind_23, xx_iret, xx_zret0, xx_zret1, h9, h10, nI_ofn, g1, g2, r1, k1]
theorem c_doClause {k hn w : Nat} (h6 : σ.1 6 = some cO) (h9 : σ.1 9 = some (.inr (4, [.ref 7, .ref 10, .ref 11, .int c, .int t, .int s, .int e]))) (h10 : σ.1 10 = some (.inl (0, 24, .inl kd))) (h11 : σ.1 11 = some (.inl (0, 96, .inl nb))) (hk : k < 24) (hok : lx_ClOK g n w) (hkd : kd k = lx_kw g n w) (ha : agr g n (lx_kw g n w) (lx_s0 g n w) k (lx_wn (lx_kw g n w)) nb) : rb_R (d + 5) 126 [.ref 6, .int (nI k)] (nw (hw σ hn) P l Z) = some (none, nw (hw σ (eC (lx_kw g n w) (lx_vk g n (lx_kw g n w) (lx_s0 g n w)) (P, l, hn)).2.2) (eC (lx_kw g n w) (lx_vk g n (lx_kw g n w) (lx_s0 g n w)) (P, l, hn)).1 (eC (lx_kw g n w) (lx_vk g n (lx_kw g n w) (lx_s0 g n w)) (P, l, hn)).2.1 Z) := by
  have j6 : ∀ hn P l, (nw (hw σ hn) P l Z).1 6 = some cO := fun hn P l => (nw_no (by omega)).trans ((hw_no (by omega)).trans h6)
  have j9 : ∀ hn P l, (nw (hw σ hn) P l Z).1 9 = _ := fun hn P l => (nw_no (by omega)).trans ((hw_no (by omega)).trans h9)
  have j10 : ∀ hn P l, (nw (hw σ hn) P l Z).1 10 = _ := fun hn P l => (nw_no (by omega)).trans ((hw_no (by omega)).trans h10)
  have j11 : ∀ hn P l, (nw (hw σ hn) P l Z).1 11 = _ := fun hn P l => (nw_no (by omega)).trans ((hw_no (by omega)).trans h11)
  have j100 : ∀ hn P l, (nw (hw σ hn) P l Z).1 100 = some (brw 101 (nI 1) (nI hn)) := fun hn P l => (nw_no (by omega)).trans hw_100
  have l0 : rb_R (d + 4) 49 [.ref 9, .int (nI k), .int 0] (nw (hw σ hn) P l Z) = some (some (.int (nb (4 * k + 0))), nw (hw σ hn) P l Z) := q_number (d := d + 2) (j9 hn P l) (j10 hn P l) (j11 hn P l) hk (j := 0) (by omega)
  have l1 : rb_R (d + 4) 49 [.ref 9, .int (nI k), .int 1] (nw (hw σ hn) P l Z) = some (some (.int (nb (4 * k + 1))), nw (hw σ hn) P l Z) := q_number (d := d + 2) (j9 hn P l) (j10 hn P l) (j11 hn P l) hk (j := 1) (by omega)
  have l2 : rb_R (d + 4) 49 [.ref 9, .int (nI k), .int 2] (nw (hw σ hn) P l Z) = some (some (.int (nb (4 * k + 2))), nw (hw σ hn) P l Z) := q_number (d := d + 2) (j9 hn P l) (j10 hn P l) (j11 hn P l) hk (j := 2) (by omega)
  have l3 : rb_R (d + 4) 49 [.ref 9, .int (nI k), .int 3] (nw (hw σ hn) P l Z) = some (some (.int (nb (4 * k + 3))), nw (hw σ hn) P l Z) := q_number (d := d + 2) (j9 hn P l) (j10 hn P l) (j11 hn P l) hk (j := 3) (by omega)
  have lk := q_kind (d := d + 3) (j9 hn P l) (j10 hn P l) hk
  obtain ⟨hK, ho⟩ := hok
  rcases (kw_c g n w).resolve_left hK with kk | kk | kk | kk | kk
  · rw [hkd, kk] at lk
    rw [kk, en_126 (k := 80) (ls := [some (.ref 6), some (.int (nI k)), none, none, none]) rfl]
    have m1 := n_clear (d := d + 1) (σ := hw σ hn) (P := P) (l := l) (Z := Z)
    have m2 := fun P l => q_rclear (d := d + 3) (j100 hn P l)
    have m3 : ∀ P l, rb_wr (nw (hw σ hn) P l Z) 100 (brw 101 (nI 1) 0) = nw (hw σ 0) P l Z := fun P l => by
      rw [nw_out (by omega)]
      unfold hw
      rw [wr_wr]
      rfl
    simp only [m3] at m2
    simp only [rb_gg_eq, rb_ct_go, rb_ct_end, rb_ct_ite, Nat.reduceAdd, Nat.zero_add, wr_at, wr_wr, true_and, and_true, and_self, true_or, or_true, false_or, or_false, ↓reduceIte, Nat.reduceLT, Nat.reduceLeDiff, Nat.reduceEqDiff, lg_cmp_ge, lg_cmp_le, lg_cmp_gt, lg_cmp_lt, lg_cmp_eq, Bool.false_eq_true, reduceCtorEq, mg_i, mg_l, decide_true, beq_self_eq_true, Nat.reduceBEq, st_126, dX8_doClause_0, xx_aloadn0, xx_aloadn0N, dX8_doClause_1, xx_getf, zz_f, zz_g, zz_v, List.getElem?_cons_zero, List.getElem?_cons_succ, tf_8_21, dX8_doClause_4, xx_iloadn1, dX8_doClause_5, xx_iconst, kc_0, dX8_doClause_6, xx_ivV, zz_c0, zz_c3, zz_c1, zz_c2, zz_c5, zz_c8, zz_c6, zz_R, List.length_cons, List.length_nil, List.take_succ_cons, List.take_zero, List.drop_succ_cons, List.drop_zero, List.reverse_cons, List.reverse_nil, List.nil_append, List.cons_append, rb_cat, List.map_cons, List.map_nil, List.sum_cons, List.sum_nil, Value.category, rb_isR, rb_isS, Option.toList_some, Option.toList_none, tv_8_226, dX8_doClause_9, xx_istoren2, zz_invi, zz_invr, zz_invz, zz_invn, zz_invl, dX8_doClause_10, dX8_doClause_11, dX8_doClause_14, dX8_doClause_15, kc_1, dX8_doClause_16, dX8_doClause_19, xx_istoren3, dX8_doClause_20, dX8_doClause_21, dX8_doClause_24, dX8_doClause_25, kc_2, dX8_doClause_26, dX8_doClause_29, xx_istore4, dX8_doClause_31, dX8_doClause_32, dX8_doClause_35, dX8_doClause_36, tv_8_229, dX8_doClause_39, rb_jp, Int.cast_ofNat_Int, Int.reduceAdd, Int.reduceLE, Int.reduceToNat, Int.reduceNeg, dX8_doClause_72, dX8_doClause_73, tf_8_35, dX8_doClause_76, tv_8_232, dX8_doClause_79, dX8_doClause_80, tf_8_48, dX8_doClause_83, tv_8_107, dX8_doClause_86, xx_goto, dX8_doClause_89, dX8_doClause_90, dX8_doClause_93, dX8_doClause_94, tv_8_84, dX8_doClause_97, xx_iloadn3, dX8_doClause_98, xx_iload4, dX8_doClause_100, xx_iloadn2, dX8_doClause_101, tv_8_94, dX8_doClause_104, dX8_doClause_107, dX8_doClause_108, dX8_doClause_111, dX8_doClause_112, dX8_doClause_115, dX8_doClause_116, dX8_doClause_118, dX8_doClause_119, dX8_doClause_122, dX8_doClause_125, dX8_doClause_126, dX8_doClause_129, dX8_doClause_130, tv_8_165, dX8_doClause_133, dX8_doClause_136, dX8_doClause_137, dX8_doClause_140, dX8_doClause_141, dX8_doClause_142, dX8_doClause_144, dX8_doClause_145, dX8_doClause_148, dX8_doClause_149, kc_3, dX8_doClause_150, dX8_doClause_153, tv_8_154, dX8_doClause_156, dX8_doClause_159, xx_vret, j6, j9, j100, l0, l1, l2, lk, sw_d, nw_85, m1, m2]
    rfl
  · rw [kk] at ho ha
    rw [wn_l.2.1] at ho ha
    rw [hkd, kk] at lk
    obtain ⟨i, j, ei, ej, hij⟩ := ij_T (g := g) (n := n) (K := 1) (by decide) (by decide) (ho 1 (by omega)) (ho 2 (by omega))
    rw [ha 0 (by omega)] at l0
    rw [ha 1 (by omega), ei] at l1
    rw [ha 2 (by omega), ej] at l2
    have m1 : rb_R (d + 4) 40 [.ref 86, .int (nI i), .int (nI j), .int (lx_vk g n 1 (lx_s0 g n w) 0)] (nw (hw σ hn) P l Z) = some (none, nw (hw σ hn) (va_up P.1 (2 + 2 * 0) (upd (P.1 (2 + 2 * 0)) (5 * i + j) (lx_vk g n 1 (lx_s0 g n w) 0)), P.2) l Z) := n_change (d := d + 2) (q := 0) (by omega) hij
    have m0 : rb_R (d + 4) 76 [.ref 85, .int 0] (nw (hw σ hn) P l Z) = some (some (.ref 86), nw (hw σ hn) P l Z) := n_poly
    have E : eC 1 (lx_vk g n 1 (lx_s0 g n w)) (P, l, hn) = ((va_up P.1 (2 + 2 * 0) (upd (P.1 (2 + 2 * 0)) (5 * i + j) (lx_vk g n 1 (lx_s0 g n w) 0)), P.2), l, hn) := by
      show ((va_up P.1 (2 + 2 * 0) (upd (P.1 (2 + 2 * 0)) (5 * (lx_vk g n 1 (lx_s0 g n w) 1).toNatClampNeg + (lx_vk g n 1 (lx_s0 g n w) 2).toNatClampNeg) (lx_vk g n 1 (lx_s0 g n w) 0)), P.2), l, hn) = _
      rw [ei, ej, nI_cl (by omega), nI_cl (by omega)]
    rw [kk, E, en_126 (k := 80) (ls := [some (.ref 6), some (.int (nI k)), none, none, none]) rfl]
    simp only [rb_gg_eq, rb_ct_go, rb_ct_end, rb_ct_ite, Nat.reduceAdd, Nat.zero_add, wr_at, wr_wr, true_and, and_true, and_self, true_or, or_true, false_or, or_false, ↓reduceIte, Nat.reduceLT, Nat.reduceLeDiff, Nat.reduceEqDiff, lg_cmp_ge, lg_cmp_le, lg_cmp_gt, lg_cmp_lt, lg_cmp_eq, Bool.false_eq_true, reduceCtorEq, mg_i, mg_l, decide_true, beq_self_eq_true, Nat.reduceBEq, st_126, dX8_doClause_0, xx_aloadn0, xx_aloadn0N, dX8_doClause_1, xx_getf, zz_f, zz_g, zz_v, List.getElem?_cons_zero, List.getElem?_cons_succ, tf_8_21, dX8_doClause_4, xx_iloadn1, dX8_doClause_5, xx_iconst, kc_0, dX8_doClause_6, xx_ivV, zz_c0, zz_c3, zz_c1, zz_c2, zz_c5, zz_c8, zz_c6, zz_R, List.length_cons, List.length_nil, List.take_succ_cons, List.take_zero, List.drop_succ_cons, List.drop_zero, List.reverse_cons, List.reverse_nil, List.nil_append, List.cons_append, rb_cat, List.map_cons, List.map_nil, List.sum_cons, List.sum_nil, Value.category, rb_isR, rb_isS, Option.toList_some, Option.toList_none, tv_8_226, dX8_doClause_9, xx_istoren2, zz_invi, zz_invr, zz_invz, zz_invn, zz_invl, dX8_doClause_10, dX8_doClause_11, dX8_doClause_14, dX8_doClause_15, kc_1, dX8_doClause_16, dX8_doClause_19, xx_istoren3, dX8_doClause_20, dX8_doClause_21, dX8_doClause_24, dX8_doClause_25, kc_2, dX8_doClause_26, dX8_doClause_29, xx_istore4, dX8_doClause_31, dX8_doClause_32, dX8_doClause_35, dX8_doClause_36, tv_8_229, dX8_doClause_39, rb_jp, Int.cast_ofNat_Int, Int.reduceAdd, Int.reduceLE, Int.reduceToNat, Int.reduceNeg, dX8_doClause_72, dX8_doClause_73, tf_8_35, dX8_doClause_76, tv_8_232, dX8_doClause_79, dX8_doClause_80, tf_8_48, dX8_doClause_83, tv_8_107, dX8_doClause_86, xx_goto, dX8_doClause_89, dX8_doClause_90, dX8_doClause_93, dX8_doClause_94, tv_8_84, dX8_doClause_97, xx_iloadn3, dX8_doClause_98, xx_iload4, dX8_doClause_100, xx_iloadn2, dX8_doClause_101, tv_8_94, dX8_doClause_104, dX8_doClause_107, dX8_doClause_108, dX8_doClause_111, dX8_doClause_112, dX8_doClause_115, dX8_doClause_116, dX8_doClause_118, dX8_doClause_119, dX8_doClause_122, dX8_doClause_125, dX8_doClause_126, dX8_doClause_129, dX8_doClause_130, tv_8_165, dX8_doClause_133, dX8_doClause_136, dX8_doClause_137, dX8_doClause_140, dX8_doClause_141, dX8_doClause_142, dX8_doClause_144, dX8_doClause_145, dX8_doClause_148, dX8_doClause_149, kc_3, dX8_doClause_150, dX8_doClause_153, tv_8_154, dX8_doClause_156, dX8_doClause_159, xx_vret, j6, j9, l0, l1, l2, lk, sw_d, nw_85, nw_86, m0, m1]
  · rw [kk] at ho ha
    rw [wn_l.2.2.1] at ho ha
    rw [hkd, kk] at lk
    obtain ⟨i, j, ei, ej, hij⟩ := ij_T (g := g) (n := n) (K := 2) (by decide) (by decide) (ho 1 (by omega)) (ho 2 (by omega))
    rw [ha 0 (by omega)] at l0
    rw [ha 1 (by omega), ei] at l1
    rw [ha 2 (by omega), ej] at l2
    have m1 : rb_R (d + 4) 40 [.ref 88, .int (nI i), .int (nI j), .int (lx_vk g n 2 (lx_s0 g n w) 0)] (nw (hw σ hn) P l Z) = some (none, nw (hw σ hn) (va_up P.1 (2 + 2 * 1) (upd (P.1 (2 + 2 * 1)) (5 * i + j) (lx_vk g n 2 (lx_s0 g n w) 0)), P.2) l Z) := n_change (d := d + 2) (q := 1) (by omega) hij
    have m0 : rb_R (d + 4) 76 [.ref 85, .int 1] (nw (hw σ hn) P l Z) = some (some (.ref 88), nw (hw σ hn) P l Z) := n_poly
    have E : eC 2 (lx_vk g n 2 (lx_s0 g n w)) (P, l, hn) = ((va_up P.1 (2 + 2 * 1) (upd (P.1 (2 + 2 * 1)) (5 * i + j) (lx_vk g n 2 (lx_s0 g n w) 0)), P.2), l, hn) := by
      show ((va_up P.1 (2 + 2 * 1) (upd (P.1 (2 + 2 * 1)) (5 * (lx_vk g n 2 (lx_s0 g n w) 1).toNatClampNeg + (lx_vk g n 2 (lx_s0 g n w) 2).toNatClampNeg) (lx_vk g n 2 (lx_s0 g n w) 0)), P.2), l, hn) = _
      rw [ei, ej, nI_cl (by omega), nI_cl (by omega)]
    rw [kk, E, en_126 (k := 80) (ls := [some (.ref 6), some (.int (nI k)), none, none, none]) rfl]
    simp only [rb_gg_eq, rb_ct_go, rb_ct_end, rb_ct_ite, Nat.reduceAdd, Nat.zero_add, wr_at, wr_wr, true_and, and_true, and_self, true_or, or_true, false_or, or_false, ↓reduceIte, Nat.reduceLT, Nat.reduceLeDiff, Nat.reduceEqDiff, lg_cmp_ge, lg_cmp_le, lg_cmp_gt, lg_cmp_lt, lg_cmp_eq, Bool.false_eq_true, reduceCtorEq, mg_i, mg_l, decide_true, beq_self_eq_true, Nat.reduceBEq, st_126, dX8_doClause_0, xx_aloadn0, xx_aloadn0N, dX8_doClause_1, xx_getf, zz_f, zz_g, zz_v, List.getElem?_cons_zero, List.getElem?_cons_succ, tf_8_21, dX8_doClause_4, xx_iloadn1, dX8_doClause_5, xx_iconst, kc_0, dX8_doClause_6, xx_ivV, zz_c0, zz_c3, zz_c1, zz_c2, zz_c5, zz_c8, zz_c6, zz_R, List.length_cons, List.length_nil, List.take_succ_cons, List.take_zero, List.drop_succ_cons, List.drop_zero, List.reverse_cons, List.reverse_nil, List.nil_append, List.cons_append, rb_cat, List.map_cons, List.map_nil, List.sum_cons, List.sum_nil, Value.category, rb_isR, rb_isS, Option.toList_some, Option.toList_none, tv_8_226, dX8_doClause_9, xx_istoren2, zz_invi, zz_invr, zz_invz, zz_invn, zz_invl, dX8_doClause_10, dX8_doClause_11, dX8_doClause_14, dX8_doClause_15, kc_1, dX8_doClause_16, dX8_doClause_19, xx_istoren3, dX8_doClause_20, dX8_doClause_21, dX8_doClause_24, dX8_doClause_25, kc_2, dX8_doClause_26, dX8_doClause_29, xx_istore4, dX8_doClause_31, dX8_doClause_32, dX8_doClause_35, dX8_doClause_36, tv_8_229, dX8_doClause_39, rb_jp, Int.cast_ofNat_Int, Int.reduceAdd, Int.reduceLE, Int.reduceToNat, Int.reduceNeg, dX8_doClause_72, dX8_doClause_73, tf_8_35, dX8_doClause_76, tv_8_232, dX8_doClause_79, dX8_doClause_80, tf_8_48, dX8_doClause_83, tv_8_107, dX8_doClause_86, xx_goto, dX8_doClause_89, dX8_doClause_90, dX8_doClause_93, dX8_doClause_94, tv_8_84, dX8_doClause_97, xx_iloadn3, dX8_doClause_98, xx_iload4, dX8_doClause_100, xx_iloadn2, dX8_doClause_101, tv_8_94, dX8_doClause_104, dX8_doClause_107, dX8_doClause_108, dX8_doClause_111, dX8_doClause_112, dX8_doClause_115, dX8_doClause_116, dX8_doClause_118, dX8_doClause_119, dX8_doClause_122, dX8_doClause_125, dX8_doClause_126, dX8_doClause_129, dX8_doClause_130, tv_8_165, dX8_doClause_133, dX8_doClause_136, dX8_doClause_137, dX8_doClause_140, dX8_doClause_141, dX8_doClause_142, dX8_doClause_144, dX8_doClause_145, dX8_doClause_148, dX8_doClause_149, kc_3, dX8_doClause_150, dX8_doClause_153, tv_8_154, dX8_doClause_156, dX8_doClause_159, xx_vret, j6, j9, l0, l1, l2, lk, sw_d, nw_85, nw_88, m0, m1]
  · rw [kk] at ho ha
    rw [wn_l.2.2.2.1] at ho ha
    rw [hkd, kk] at lk
    rw [ha 0 (by omega)] at l0
    have E : eC 3 (lx_vk g n 3 (lx_s0 g n w)) (P, l, hn) = (P, lx_vk g n 3 (lx_s0 g n w) 0, hn) := rfl
    rw [kk, E, en_126 (k := 80) (ls := [some (.ref 6), some (.int (nI k)), none, none, none]) rfl]
    simp only [rb_gg_eq, rb_ct_go, rb_ct_end, rb_ct_ite, Nat.reduceAdd, Nat.zero_add, wr_at, wr_wr, true_and, and_true, and_self, true_or, or_true, false_or, or_false, ↓reduceIte, Nat.reduceLT, Nat.reduceLeDiff, Nat.reduceEqDiff, lg_cmp_ge, lg_cmp_le, lg_cmp_gt, lg_cmp_lt, lg_cmp_eq, Bool.false_eq_true, reduceCtorEq, mg_i, mg_l, decide_true, beq_self_eq_true, Nat.reduceBEq, st_126, dX8_doClause_0, xx_aloadn0, xx_aloadn0N, dX8_doClause_1, xx_getf, zz_f, zz_g, zz_v, List.getElem?_cons_zero, List.getElem?_cons_succ, tf_8_21, dX8_doClause_4, xx_iloadn1, dX8_doClause_5, xx_iconst, kc_0, dX8_doClause_6, xx_ivV, zz_c0, zz_c3, zz_c1, zz_c2, zz_c5, zz_c8, zz_c6, zz_R, List.length_cons, List.length_nil, List.take_succ_cons, List.take_zero, List.drop_succ_cons, List.drop_zero, List.reverse_cons, List.reverse_nil, List.nil_append, List.cons_append, rb_cat, List.map_cons, List.map_nil, List.sum_cons, List.sum_nil, Value.category, rb_isR, rb_isS, Option.toList_some, Option.toList_none, tv_8_226, dX8_doClause_9, xx_istoren2, zz_invi, zz_invr, zz_invz, zz_invn, zz_invl, dX8_doClause_10, dX8_doClause_11, dX8_doClause_14, dX8_doClause_15, kc_1, dX8_doClause_16, dX8_doClause_19, xx_istoren3, dX8_doClause_20, dX8_doClause_21, dX8_doClause_24, dX8_doClause_25, kc_2, dX8_doClause_26, dX8_doClause_29, xx_istore4, dX8_doClause_31, dX8_doClause_32, dX8_doClause_35, dX8_doClause_36, tv_8_229, dX8_doClause_39, rb_jp, Int.cast_ofNat_Int, Int.reduceAdd, Int.reduceLE, Int.reduceToNat, Int.reduceNeg, dX8_doClause_72, dX8_doClause_73, tf_8_35, dX8_doClause_76, tv_8_232, dX8_doClause_79, dX8_doClause_80, tf_8_48, dX8_doClause_83, tv_8_107, dX8_doClause_86, xx_goto, dX8_doClause_89, dX8_doClause_90, dX8_doClause_93, dX8_doClause_94, tv_8_84, dX8_doClause_97, xx_iloadn3, dX8_doClause_98, xx_iload4, dX8_doClause_100, xx_iloadn2, dX8_doClause_101, tv_8_94, dX8_doClause_104, dX8_doClause_107, dX8_doClause_108, dX8_doClause_111, dX8_doClause_112, dX8_doClause_115, dX8_doClause_116, dX8_doClause_118, dX8_doClause_119, dX8_doClause_122, dX8_doClause_125, dX8_doClause_126, dX8_doClause_129, dX8_doClause_130, tv_8_165, dX8_doClause_133, dX8_doClause_136, dX8_doClause_137, dX8_doClause_140, dX8_doClause_141, dX8_doClause_142, dX8_doClause_144, dX8_doClause_145, dX8_doClause_148, dX8_doClause_149, kc_3, dX8_doClause_150, dX8_doClause_153, tv_8_154, dX8_doClause_156, dX8_doClause_159, xx_vret, j6, j9, l0, l1, l2, lk, sw_d, nw_85, n_chgS]
  · rw [kk] at ho ha
    rw [wn_l.2.2.2.2] at ho ha
    rw [hkd, kk] at lk
    rw [ha 0 (by omega)] at l0
    rw [ha 1 (by omega)] at l1
    rw [ha 2 (by omega)] at l2
    rw [ha 3 (by omega)] at l3
    have E : eC 4 (lx_vk g n 4 (lx_s0 g n w)) (P, l, hn) = (oAdd (oClr P) (lx_vk g n 4 (lx_s0 g n w) 0) (lx_vk g n 4 (lx_s0 g n w) 1) (lx_vk g n 4 (lx_s0 g n w) 2) (lx_vk g n 4 (lx_s0 g n w) 3), l, hn) := rfl
    rw [kk, E, en_126 (k := 80) (ls := [some (.ref 6), some (.int (nI k)), none, none, none]) rfl]
    simp only [rb_gg_eq, rb_ct_go, rb_ct_end, rb_ct_ite, Nat.reduceAdd, Nat.zero_add, wr_at, wr_wr, true_and, and_true, and_self, true_or, or_true, false_or, or_false, ↓reduceIte, Nat.reduceLT, Nat.reduceLeDiff, Nat.reduceEqDiff, lg_cmp_ge, lg_cmp_le, lg_cmp_gt, lg_cmp_lt, lg_cmp_eq, Bool.false_eq_true, reduceCtorEq, mg_i, mg_l, decide_true, beq_self_eq_true, Nat.reduceBEq, st_126, dX8_doClause_0, xx_aloadn0, xx_aloadn0N, dX8_doClause_1, xx_getf, zz_f, zz_g, zz_v, List.getElem?_cons_zero, List.getElem?_cons_succ, tf_8_21, dX8_doClause_4, xx_iloadn1, dX8_doClause_5, xx_iconst, kc_0, dX8_doClause_6, xx_ivV, zz_c0, zz_c3, zz_c1, zz_c2, zz_c5, zz_c8, zz_c6, zz_R, List.length_cons, List.length_nil, List.take_succ_cons, List.take_zero, List.drop_succ_cons, List.drop_zero, List.reverse_cons, List.reverse_nil, List.nil_append, List.cons_append, rb_cat, List.map_cons, List.map_nil, List.sum_cons, List.sum_nil, Value.category, rb_isR, rb_isS, Option.toList_some, Option.toList_none, tv_8_226, dX8_doClause_9, xx_istoren2, zz_invi, zz_invr, zz_invz, zz_invn, zz_invl, dX8_doClause_10, dX8_doClause_11, dX8_doClause_14, dX8_doClause_15, kc_1, dX8_doClause_16, dX8_doClause_19, xx_istoren3, dX8_doClause_20, dX8_doClause_21, dX8_doClause_24, dX8_doClause_25, kc_2, dX8_doClause_26, dX8_doClause_29, xx_istore4, dX8_doClause_31, dX8_doClause_32, dX8_doClause_35, dX8_doClause_36, tv_8_229, dX8_doClause_39, rb_jp, Int.cast_ofNat_Int, Int.reduceAdd, Int.reduceLE, Int.reduceToNat, Int.reduceNeg, dX8_doClause_72, dX8_doClause_73, tf_8_35, dX8_doClause_76, tv_8_232, dX8_doClause_79, dX8_doClause_80, tf_8_48, dX8_doClause_83, tv_8_107, dX8_doClause_86, xx_goto, dX8_doClause_89, dX8_doClause_90, dX8_doClause_93, dX8_doClause_94, tv_8_84, dX8_doClause_97, xx_iloadn3, dX8_doClause_98, xx_iload4, dX8_doClause_100, xx_iloadn2, dX8_doClause_101, tv_8_94, dX8_doClause_104, dX8_doClause_107, dX8_doClause_108, dX8_doClause_111, dX8_doClause_112, dX8_doClause_115, dX8_doClause_116, dX8_doClause_118, dX8_doClause_119, dX8_doClause_122, dX8_doClause_125, dX8_doClause_126, dX8_doClause_129, dX8_doClause_130, tv_8_165, dX8_doClause_133, dX8_doClause_136, dX8_doClause_137, dX8_doClause_140, dX8_doClause_141, dX8_doClause_142, dX8_doClause_144, dX8_doClause_145, dX8_doClause_148, dX8_doClause_149, kc_3, dX8_doClause_150, dX8_doClause_153, tv_8_154, dX8_doClause_156, dX8_doClause_159, xx_vret, j6, j9, l0, l1, l2, l3, lk, sw_d, nw_85, n_begin]
theorem l_tell {N : Nat} (h6 : σ.1 6 = some cO) (h9 : σ.1 9 = some (.inr (4, [.ref 7, .ref 10, .ref 11, .int c, .int t, .int s, .int e]))) (h10 : σ.1 10 = some (.inl (0, 24, .inl kd))) (h11 : σ.1 11 = some (.inl (0, 96, .inl nb))) (hN : N ≤ 24) : ∀ (cs : List Nat) (k : Nat) (P : sP) (l : Int32) (hn : Nat), k + cs.length = N → Arr g n kd nb k cs → (∀ w, w ∈ cs → lx_ClOK g n w) → rb_lim (rb_stp (rb_R (d + 5)) rb_m104) (25, [some (.ref 6), some (.int (nI N)), some (.int (nI k))], [], nw (hw σ hn) P l Z) = rb_lim (rb_stp (rb_R (d + 5)) rb_m104) (47, [some (.ref 6), some (.int (nI N)), some (.int (nI N))], [], nw (hw σ (eCs g n cs (P, l, hn)).2.2) (eCs g n cs (P, l, hn)).1 (eCs g n cs (P, l, hn)).2.1 Z) := by
  have j6 : ∀ hn P l, (nw (hw σ hn) P l Z).1 6 = some cO := fun hn P l => (nw_no (by omega)).trans ((hw_no (by omega)).trans h6)
  intro cs
  induction cs with
  | nil =>
    intro k P l hn hk _ _
    have hk' : k = N := by simpa using hk
    subst hk'
    have g1 : nI k ≤ nI k := by rw [nI_le' (by omega) (by omega)]; omega
    rw [rb_ls 25 47 60]
    simp only [rb_gs_eq, rb_cs_go, rb_cs_end, rb_cs_ite, Nat.reduceAdd, Nat.zero_add, wr_at, wr_wr, true_and, and_true, and_self, true_or, or_true, false_or, or_false, ↓reduceIte, Nat.reduceLT, Nat.reduceLeDiff, Nat.reduceEqDiff, lg_cmp_ge, lg_cmp_le, lg_cmp_gt, lg_cmp_lt, lg_cmp_eq, Bool.false_eq_true, reduceCtorEq, mg_i, mg_l, decide_true, beq_self_eq_true, Nat.reduceBEq, st_104, dX8_tell_0, xx_aloadn0, xx_aloadn0N, dX8_tell_1, xx_getf, zz_f, zz_g, zz_v, List.getElem?_cons_zero, List.getElem?_cons_succ, tf_8_21, dX8_tell_4, xx_ivV, zz_c0, zz_c3, zz_c1, zz_c2, zz_c5, zz_c8, zz_c6, zz_R, List.length_cons, List.length_nil, List.take_succ_cons, List.take_zero, List.drop_succ_cons, List.drop_zero, List.reverse_cons, List.reverse_nil, List.nil_append, List.cons_append, rb_cat, List.map_cons, List.map_nil, List.sum_cons, List.sum_nil, Value.category, rb_isR, rb_isS, Option.toList_some, Option.toList_none, tv_8_65, dX8_tell_7, xx_ldc, zz_I, zz_S, ti_8_68, dX8_tell_9, xx_iceq, rb_jp, Int.cast_ofNat_Int, Int.reduceAdd, Int.reduceLE, Int.reduceToNat, Int.reduceNeg, dX8_tell_12, ti_8_69, dX8_tell_14, xx_iret, xx_zret0, xx_zret1, dX8_tell_15, dX8_tell_16, dX8_tell_19, tv_8_70, dX8_tell_22, xx_istoren1, zz_invi, zz_invr, zz_invz, zz_invn, zz_invl, dX8_tell_23, xx_iconst, kc_0, dX8_tell_24, xx_istoren2, dX8_tell_25, xx_iloadn2, dX8_tell_26, xx_iloadn1, dX8_tell_27, xx_icge, dX8_tell_30, dX8_tell_31, xx_bipush, kb_24, dX8_tell_33, dX8_tell_36, dX8_tell_37, dX8_tell_38, tv_8_73, dX8_tell_41, xx_iinc2, kc_1, dX8_tell_44, xx_goto, dX8_tell_47, dX8_tell_48, tf_8_12, dX8_tell_51, tv_8_62, dX8_tell_54, dX8_tell_55, g1, eCs, ne_eq, not_false_eq_true, Nat.reduceEqDiff]
    rfl
  | cons w cs ih =>
    intro k P l hn hk hA hok
    have hl : (w :: cs).length = cs.length + 1 := rfl
    rw [hl] at hk
    have g1 : ¬ nI N ≤ nI k := nI_ge (by omega) (by omega)
    have g2 : ¬ (24 : Int32) ≤ nI k := by rw [lit_24]; exact nI_ge (by omega) (by omega)
    have e1 := c_doClause (d := d) (Z := Z) (P := P) (l := l) (hn := hn) h6 h9 h10 h11 (show k < 24 by omega) (hok w List.mem_cons_self) hA.1.1 hA.1.2
    rw [eCs]
    obtain ⟨x, hx⟩ : ∃ x, eC (lx_kw g n w) (lx_vk g n (lx_kw g n w) (lx_s0 g n w)) (P, l, hn) = x := ⟨_, rfl⟩
    rw [hx] at e1 ⊢
    obtain ⟨x1, x2, x3⟩ := x
    dsimp only at e1
    rw [rb_ls 25 47 60]
    simp only [rb_gs_eq, rb_cs_go, rb_cs_end, rb_cs_ite, Nat.reduceAdd, Nat.zero_add, wr_at, wr_wr, true_and, and_true, and_self, true_or, or_true, false_or, or_false, ↓reduceIte, Nat.reduceLT, Nat.reduceLeDiff, Nat.reduceEqDiff, lg_cmp_ge, lg_cmp_le, lg_cmp_gt, lg_cmp_lt, lg_cmp_eq, Bool.false_eq_true, reduceCtorEq, mg_i, mg_l, decide_true, beq_self_eq_true, Nat.reduceBEq, st_104, dX8_tell_0, xx_aloadn0, xx_aloadn0N, dX8_tell_1, xx_getf, zz_f, zz_g, zz_v, List.getElem?_cons_zero, List.getElem?_cons_succ, tf_8_21, dX8_tell_4, xx_ivV, zz_c0, zz_c3, zz_c1, zz_c2, zz_c5, zz_c8, zz_c6, zz_R, List.length_cons, List.length_nil, List.take_succ_cons, List.take_zero, List.drop_succ_cons, List.drop_zero, List.reverse_cons, List.reverse_nil, List.nil_append, List.cons_append, rb_cat, List.map_cons, List.map_nil, List.sum_cons, List.sum_nil, Value.category, rb_isR, rb_isS, Option.toList_some, Option.toList_none, tv_8_65, dX8_tell_7, xx_ldc, zz_I, zz_S, ti_8_68, dX8_tell_9, xx_iceq, rb_jp, Int.cast_ofNat_Int, Int.reduceAdd, Int.reduceLE, Int.reduceToNat, Int.reduceNeg, dX8_tell_12, ti_8_69, dX8_tell_14, xx_iret, xx_zret0, xx_zret1, dX8_tell_15, dX8_tell_16, dX8_tell_19, tv_8_70, dX8_tell_22, xx_istoren1, zz_invi, zz_invr, zz_invz, zz_invn, zz_invl, dX8_tell_23, xx_iconst, kc_0, dX8_tell_24, xx_istoren2, dX8_tell_25, xx_iloadn2, dX8_tell_26, xx_iloadn1, dX8_tell_27, xx_icge, dX8_tell_30, dX8_tell_31, xx_bipush, kb_24, dX8_tell_33, dX8_tell_36, dX8_tell_37, dX8_tell_38, tv_8_73, dX8_tell_41, xx_iinc2, kc_1, dX8_tell_44, xx_goto, dX8_tell_47, dX8_tell_48, tf_8_12, dX8_tell_51, tv_8_62, dX8_tell_54, dX8_tell_55, j6, g1, g2, e1, nI_1, ne_eq, not_false_eq_true, Nat.reduceEqDiff]
    exact ih (k + 1) x1 x2 x3 (by omega) hA.2 (fun w hw => hok w (List.mem_cons_of_mem _ hw))
end
