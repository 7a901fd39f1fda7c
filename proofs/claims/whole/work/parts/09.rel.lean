/-! ===== THE SMALL MACHINE BESIDE THE MACHINE: values, cells, locals, heaps ===== -/
def rb_cv (φ : Nat → Nat) : Value → Value
  | .ref k => .ref (φ k)
  | v => v
def rb_cc (φ : Nat → Nat) (c : (Nat → Int32) ⊕ (Nat → Int64) ⊕ (Nat → UInt32) ⊕ (Nat → UInt64) ⊕ (Nat → Option Nat)) : (Nat → Int32) ⊕ (Nat → Int64) ⊕ (Nat → UInt32) ⊕ (Nat → UInt64) ⊕ (Nat → Option Nat) := match c with
  | .inr (.inr (.inr (.inr f))) => .inr (.inr (.inr (.inr fun j => (f j).map φ)))
  | c => c
def rb_ce (φ : Nat → Nat) (cA : Nat → ClassId) : va_E → va_E
  | .inl (t, n, c) => .inl (cA t, n, rb_cc φ c)
  | .inr (ci, fs) => .inr (ci, fs.map (rb_cv φ))
theorem rb_cv_cat {φ : Nat → Nat} (v : Value) : (rb_cv φ v).category = v.category := by cases v <;> rfl
def rb_tys (cA : Nat → ClassId) : List (ClassId × FieldType) := [(cA 0, .int), (cA 1, .long), (cA 2, .object RX5), (cA 3, .object RX6)]
/-- the heap H holds what σ says: the script below 'base' as it was, all that was made from 'base' on -/
def rb_rel (D : va_G) (cA : Nat → ClassId) (φ : Nat → Nat) (base L : Nat) (xs : Nat → Int32) (Hs : Heap) (σ : rb_S) (H : Heap) : Prop :=
  6 ≤ σ.2.1 ∧ H.size = base + (σ.2.1 - 6) ∧ (∀ q, q < base → H[q]? = Hs[q]?) ∧
    ∀ (k : Nat) (c : va_E), σ.1 k = some c → (k = 0 ∧ c = .inl (9, L, .inl xs)) ∨ (6 ≤ k ∧ k < σ.2.1 ∧ va_at D vwCl (φ k, rb_ce φ cA c) H ∧ ∀ (n : Nat) (g : Nat → Int32), c ≠ .inl (9, n, .inl g))
/-- what holds of the tables and of what was there before: in every state that is met -/
def rb_KK (D : va_G) (cA : Nat → ClassId) (φ : Nat → Nat) (base b L : Nat) (xs : Nat → Int32) (Hs : Heap) (adV : Nat → Nat) (U : State) : Prop :=
  va_K D vwCl (rb_tys cA) U ∧ va_X b L xs U Hs ∧ (∀ (k : Nat) (a : String) (i : Nat) (y : MethodName) (h : String), lw_tbl[k]? = some (.methodLinkNest a i y h) → va_Nw (.methodLinkNest a i y h) U) ∧
    (va_AO RX5 U ∧ va_AO RX6 U) ∧ (∀ i, i < 5 → vk_R RX4 (rb_strI.getD i 0) (rb_strT.getD i "") (φ (i + 1)) U) ∧ vk_S 5 rb_strN rb_strB (fun i => φ (i + 1)) adV (fun q => base ≤ q) U Hs ∧
    va_Z "java/lang/String" "COMPACT_STRINGS" "Z" (.int 1) (fun q => base ≤ q) U Hs ∧ va_Zq "jdk/internal/util/Preconditions" "SIOOBE_FORMATTER" "Ljava/util/function/BiFunction;" (fun q => base ≤ q) U Hs
theorem rb_KK.warm {D : va_G} {cA : Nat → ClassId} {φ : Nat → Nat} {base b L : Nat} {xs : Nat → Int32} {Hs : Heap} {adV : Nat → Nat} {s U : State} (hW : s.WarmedH U.vm) (h : rb_KK D cA φ base b L xs Hs adV s) : rb_KK D cA φ base b L xs Hs adV U := by
  obtain ⟨h1, h2, h3, ⟨h4, h5⟩, h6, h7, h8, h9⟩ := h
  exact ⟨va_K.moved hW.alike h1, va_X.moved hW.alike h2, fun k a i y hh e => va_Nw.warmM hW (h3 k a i y hh e), ⟨va_AO.moved hW.alike h4, va_AO.moved hW.alike h5⟩, fun i hi => vk_R.warm hW (h6 i hi), vk_S.moved hW.alike h7, va_Z.moved hW.alike h8, va_Zq.moved hW.alike h9⟩
theorem rb_KK.same {D : va_G} {cA : Nat → ClassId} {φ : Nat → Nat} {base b L : Nat} {xs : Nat → Int32} {Hs : Heap} {adV : Nat → Nat} {u U : State} (hv : U.vm = u.vm) (h : rb_KK D cA φ base b L xs Hs adV u) : rb_KK D cA φ base b L xs Hs adV U := by
  obtain ⟨h1, h2, h3, ⟨h4, h5⟩, h6, h7, h8, h9⟩ := h
  have ha : u.vm.Alike U.vm := by rw [hv]; exact Vm.Alike.refl _
  exact ⟨va_K.moved ha h1, va_X.moved ha h2, fun k a i y hh e => va_Nw.same rfl hv.symm (h3 k a i y hh e), ⟨va_AO.moved ha h4, va_AO.moved ha h5⟩, fun i hi => vk_R.same hv (h6 i hi), vk_S.moved ha h7, va_Z.moved ha h8, va_Zq.moved ha h9⟩
theorem rb_rel.dyn {D : va_G} {cA : Nat → ClassId} {φ : Nat → Nat} {base L : Nat} {xs : Nat → Int32} {Hs : Heap} {σ : rb_S} {H : Heap} {k : Nat} {c : va_E} (h : rb_rel D cA φ base L xs Hs σ H) (hk : σ.1 k = some c) (hn : c ≠ .inl (9, L, .inl xs)) : 6 ≤ k ∧ k < σ.2.1 ∧ va_at D vwCl (φ k, rb_ce φ cA c) H ∧ ∀ (n : Nat) (g : Nat → Int32), c ≠ .inl (9, n, .inl g) := by
  rcases h.2.2.2 k c hk with q | q
  · exact absurd q.2 hn
  · exact q
/-- a cell is written -/
theorem rb_rel.wr {D : va_G} {cA : Nat → ClassId} {φ : Nat → Nat} {base L : Nat} {xs : Nat → Int32} {Hs : Heap} {σ : rb_S} {H H' : Heap} {a : Nat} {c : va_E} (hφ : ∀ k, 6 ≤ k → φ k = base + (k - 6)) (h : rb_rel D cA φ base L xs Hs σ H) (ha : 6 ≤ a) (hl : a < σ.2.1)
    (hat : va_at D vwCl (φ a, rb_ce φ cA c) H') (hc : ∀ (n : Nat) (g : Nat → Int32), c ≠ .inl (9, n, .inl g)) (hz : H'.size = H.size) (hq : ∀ q, q ≠ φ a → H'[q]? = H[q]?) : rb_rel D cA φ base L xs Hs (rb_wr σ a c) H' := by
  obtain ⟨h1, h2, h3, h4⟩ := h
  have ea := hφ a ha
  refine ⟨h1, hz.trans h2, fun q hb => (hq q (by omega)).trans (h3 q hb), fun k c' hk => ?_⟩
  by_cases e : k = a
  · subst e
    rw [wr_at] at hk
    rw [← Option.some.inj hk]
    exact Or.inr ⟨ha, hl, hat, hc⟩
  · rw [wr_ne e] at hk
    rcases h4 k c' hk with q | ⟨q1, q2, q3, q4⟩
    · exact Or.inl q
    · refine Or.inr ⟨q1, q2, q3.kept (hq (φ k) ?_), q4⟩
      have ek := hφ k q1
      omega
/-- a cell more -/
theorem rb_rel.mk {D : va_G} {cA : Nat → ClassId} {φ : Nat → Nat} {base L : Nat} {xs : Nat → Int32} {Hs : Heap} {σ : rb_S} {H H' : Heap} {c : va_E} {n : Nat} (hφ : ∀ k, 6 ≤ k → φ k = base + (k - 6)) (h : rb_rel D cA φ base L xs Hs σ H)
    (hat : va_at D vwCl (H.size, rb_ce φ cA c) H') (hc : ∀ (n : Nat) (g : Nat → Int32), c ≠ .inl (9, n, .inl g)) (hz : H'.size = H.size + 1) (hq : ∀ q, q < H.size → H'[q]? = H[q]?) : rb_rel D cA φ base L xs Hs (rb_mk σ c n) H' := by
  obtain ⟨h1, h2, h3, h4⟩ := h
  have en := hφ σ.2.1 h1
  refine ⟨Nat.le_succ_of_le h1, ?_, fun q hb => (hq q (by omega)).trans (h3 q hb), fun k c' hk => ?_⟩
  · show H'.size = base + (σ.2.1 + 1 - 6)
    omega
  · change va_up σ.1 σ.2.1 (some c) k = some c' at hk
    show (k = 0 ∧ c' = _) ∨ (6 ≤ k ∧ k < σ.2.1 + 1 ∧ _)
    by_cases e : k = σ.2.1
    · rw [e, va_up_self] at hk
      rw [← Option.some.inj hk, e]
      refine Or.inr ⟨h1, Nat.lt_succ_self _, ?_, hc⟩
      rw [en, ← h2]
      exact hat
    · rw [va_up_ne _ _ e] at hk
      rcases h4 k c' hk with q | ⟨q1, q2, q3, q4⟩
      · exact Or.inl q
      · refine Or.inr ⟨q1, Nat.lt_succ_of_lt q2, q3.kept (hq (φ k) ?_), q4⟩
        have ek := hφ k q1
        omega
/-! ===== locals ===== -/
def rb_as (φ : Nat → Nat) : Nat → rb_L → List (Nat × Value)
  | _, [] => []
  | i, some v :: t => (i, rb_cv φ v) :: rb_as φ (i + 1) t
  | i, none :: t => rb_as φ (i + 1) t
theorem rb_as_mem {φ : Nat → Nat} {q : Nat × Value} : ∀ {ls : rb_L} {i : Nat}, q ∈ rb_as φ i ls ↔ ∃ (j : Nat) (v : Value), ls[j]? = some (some v) ∧ q = (i + j, rb_cv φ v) := by
  intro ls
  induction ls with
  | nil => intro i; constructor
           · intro h; cases h
           · rintro ⟨j, v, h, -⟩; simp at h
  | cons a t ih =>
    intro i
    cases a with
    | none =>
      rw [rb_as, ih]
      constructor
      · rintro ⟨j, v, h, e⟩
        exact ⟨j + 1, v, by simpa using h, by rw [e]; congr 1; omega⟩
      · rintro ⟨j, v, h, e⟩
        cases j with
        | zero => simp at h
        | succ j => exact ⟨j, v, by simpa using h, by rw [e]; congr 1; omega⟩
    | some w =>
      rw [rb_as, List.mem_cons, ih]
      constructor
      · rintro (e | ⟨j, v, h, e⟩)
        · exact ⟨0, w, by simp, by rw [e]; rfl⟩
        · exact ⟨j + 1, v, by simpa using h, by rw [e]; congr 1; omega⟩
      · rintro ⟨j, v, h, e⟩
        cases j with
        | zero => left; simp at h; rw [e, h]; rfl
        | succ j => right; exact ⟨j, v, by simpa using h, by rw [e]; congr 1; omega⟩
def rb_LR (φ : Nat → Nat) (nL : Nat) (ls : rb_L) (lr : Array Slot) : Prop := lv_has lr nL (rb_as φ 0 ls) ∧ ls.length = nL
theorem rb_LR.mem {φ : Nat → Nat} {i : Nat} {ls : rb_L} {v : Value} (hv : ls[i]? = some (some v)) : (i, rb_cv φ v) ∈ rb_as φ 0 ls := rb_as_mem.mpr ⟨i, v, hv, by rw [Nat.zero_add]⟩
theorem rb_LR.at {φ : Nat → Nat} {nL i : Nat} {ls : rb_L} {lr : Array Slot} {v : Value} (h : rb_LR φ nL ls lr) (hv : ls[i]? = some (some v)) : lr[i]? = some (.val (rb_cv φ v)) := h.1.2.2 _ (rb_LR.mem hv)
theorem rb_inv_cat {a : Option Value} {w : Value} (h : rb_inv a = some w) : a = some w ∧ w.category ≠ 2 := by
  cases a with
  | none => cases h
  | some v => cases v <;> first | (cases h; done) | (cases h; exact ⟨rfl, by decide⟩) | (cases h; exact ⟨rfl, by simp [Value.category]⟩)
theorem rb_set1_ok {v : Value} : ∀ {ls ls' : rb_L} {i : Nat}, rb_set1 i v ls = some ls' → i < ls.length ∧ ls'.length = ls.length ∧ ∀ (j : Nat) (w : Value), ls'[j]? = some (some w) → (j = i ∧ w = v) ∨ (j ≠ i ∧ ls[j]? = some (some w) ∧ (j + 1 = i → w.category ≠ 2)) := by
  intro ls
  induction ls with
  | nil => intro ls' i h; cases i <;> cases h
  | cons a t ih =>
    intro ls' i h
    cases i with
    | zero =>
      cases h
      refine ⟨Nat.succ_pos _, rfl, fun j w hj => ?_⟩
      cases j with
      | zero => left; simp at hj; exact ⟨rfl, hj.symm⟩
      | succ j => right; exact ⟨Nat.succ_ne_zero _, by simpa using hj, fun e => by omega⟩
    | succ i =>
      rw [rb_set1] at h
      cases hr : rb_set1 i v t with
      | none => rw [hr] at h; cases h
      | some t' =>
        rw [hr] at h
        have e := Option.some.inj h
        obtain ⟨h1, h2, h3⟩ := ih hr
        subst e
        refine ⟨Nat.succ_lt_succ h1, by simp [h2], fun j w hj => ?_⟩
        cases j with
        | zero =>
          right
          simp only [List.getElem?_cons_zero, Option.some.injEq] at hj
          refine ⟨by omega, ?_, ?_⟩
          · by_cases hi : i = 0
            · rw [if_pos hi] at hj
              simp [(rb_inv_cat hj).1]
            · rw [if_neg hi] at hj
              simp [hj]
          · intro e
            have hi : i = 0 := by omega
            rw [if_pos hi] at hj
            exact (rb_inv_cat hj).2
        | succ j =>
          simp only [List.getElem?_cons_succ] at hj
          rcases h3 j w hj with ⟨q1, q2⟩ | ⟨q1, q2, q3⟩
          · left; exact ⟨by omega, q2⟩
          · right; exact ⟨by omega, by simpa using q2, fun e => q3 (by omega)⟩
theorem rb_set2_ok {v : Value} : ∀ {ls ls' : rb_L} {i : Nat}, rb_set2 i v ls = some ls' → i + 1 < ls.length ∧ ls'.length = ls.length ∧ ∀ (j : Nat) (w : Value), ls'[j]? = some (some w) → (j = i ∧ w = v) ∨ (j ≠ i ∧ j ≠ i + 1 ∧ ls[j]? = some (some w) ∧ (j + 1 = i → w.category ≠ 2)) := by
  intro ls
  induction ls with
  | nil => intro ls' i h; cases i <;> cases h
  | cons a t ih =>
    intro ls' i h
    cases i with
    | zero =>
      cases t with
      | nil => cases h
      | cons a2 t2 =>
        cases h
        refine ⟨by simp, rfl, fun j w hj => ?_⟩
        match j, hj with
        | 0, hj => left; simp at hj; exact ⟨rfl, hj.symm⟩
        | 1, hj => simp at hj
        | j + 2, hj => right; exact ⟨by omega, by omega, by simpa using hj, fun e => by omega⟩
    | succ i =>
      rw [rb_set2] at h
      cases hr : rb_set2 i v t with
      | none => rw [hr] at h; cases h
      | some t' =>
        rw [hr] at h
        have e := Option.some.inj h
        obtain ⟨h1, h2, h3⟩ := ih hr
        subst e
        refine ⟨Nat.succ_lt_succ h1, by simp [h2], fun j w hj => ?_⟩
        cases j with
        | zero =>
          right
          simp only [List.getElem?_cons_zero, Option.some.injEq] at hj
          refine ⟨by omega, by omega, ?_, ?_⟩
          · by_cases hi : i = 0
            · rw [if_pos hi] at hj
              simp [(rb_inv_cat hj).1]
            · rw [if_neg hi] at hj
              simp [hj]
          · intro e
            have hi : i = 0 := by omega
            rw [if_pos hi] at hj
            exact (rb_inv_cat hj).2
        | succ j =>
          simp only [List.getElem?_cons_succ] at hj
          rcases h3 j w hj with ⟨q1, q2⟩ | ⟨q1, q2, q3, q4⟩
          · left; exact ⟨by omega, q2⟩
          · right; exact ⟨by omega, by omega, by simpa using q3, fun e => q4 (by omega)⟩
theorem rb_LR.set1 {φ : Nat → Nat} {nL i : Nat} {ls ls' : rb_L} {lr' : Array Slot} {v : Value} (h : ls.length = nL) (hs : rb_set1 i v ls = some ls') (hh : lv_has lr' nL ((i, rb_cv φ v) :: (rb_as φ 0 ls).filter (fun q => !(q.1 == i) && !(q.1 + 1 == i && q.2.category == 2)))) : rb_LR φ nL ls' lr' := by
  obtain ⟨h1, h2, h3⟩ := rb_set1_ok hs
  refine ⟨⟨hh.1, hh.2.1, fun q hq => ?_⟩, h2.trans h⟩
  obtain ⟨j, w, hj, e⟩ := rb_as_mem.mp hq
  rw [Nat.zero_add] at e
  apply hh.2.2
  rw [e]
  rcases h3 j w hj with ⟨q1, q2⟩ | ⟨q1, q2, q3⟩
  · rw [q1, q2]; exact List.mem_cons_self
  · refine List.mem_cons_of_mem _ (List.mem_filter.mpr ⟨rb_LR.mem q2, ?_⟩)
    have e1 : (j == i) = false := by simpa using q1
    by_cases e2 : j + 1 = i
    · have := q3 e2
      simp [rb_cv_cat, e1, this]
    · have e3 : (j + 1 == i) = false := by simpa using e2
      simp [e1, e3]
theorem rb_LR.set2 {φ : Nat → Nat} {nL i : Nat} {ls ls' : rb_L} {lr' : Array Slot} {v : Value} (h : ls.length = nL) (hs : rb_set2 i v ls = some ls') (hh : lv_has lr' nL ((i, rb_cv φ v) :: (rb_as φ 0 ls).filter (fun q => !(q.1 == i) && (!(q.1 == i + 1) && !(q.1 + 1 == i && q.2.category == 2))))) : rb_LR φ nL ls' lr' := by
  obtain ⟨h1, h2, h3⟩ := rb_set2_ok hs
  refine ⟨⟨hh.1, hh.2.1, fun q hq => ?_⟩, h2.trans h⟩
  obtain ⟨j, w, hj, e⟩ := rb_as_mem.mp hq
  rw [Nat.zero_add] at e
  apply hh.2.2
  rw [e]
  rcases h3 j w hj with ⟨q1, q2⟩ | ⟨q1, q1', q2, q3⟩
  · rw [q1, q2]; exact List.mem_cons_self
  · refine List.mem_cons_of_mem _ (List.mem_filter.mpr ⟨rb_LR.mem q2, ?_⟩)
    have e1 : (j == i) = false := by simpa using q1
    have e1' : (j == i + 1) = false := by simpa using q1'
    by_cases e2 : j + 1 = i
    · have := q3 e2
      simp [rb_cv_cat, e1, e1', this]
    · have e3 : (j + 1 == i) = false := by simpa using e2
      simp [e1, e1', e3]
/-! ===== what a step came from ===== -/
theorem rb_go_e {len n pc : Nat} {ls : rb_L} {st : List Value} {σ : rb_S} {r : rb_A ⊕ rb_B} (h : rb_go len n pc ls st σ = some r) : len = n ∧ r = .inl (pc + n, ls, st, σ) := by
  unfold rb_go at h
  split at h
  · rename_i e; exact ⟨e, (Option.some.inj h).symm⟩
  · cases h
theorem rb_jp_e {pc : Nat} {off : Int} {ls : rb_L} {st : List Value} {σ : rb_S} {r : rb_A ⊕ rb_B} (h : rb_jp pc off ls st σ = some r) : ∃ t : Nat, (pc : Int) + off = (t : Int) ∧ r = .inl (t, ls, st, σ) := by
  unfold rb_jp at h
  split at h
  · rename_i e; exact ⟨_, (Int.toNat_of_nonneg e).symm, (Option.some.inj h).symm⟩
  · cases h
theorem rb_j_e {len pc : Nat} {off : Int} {ls : rb_L} {st : List Value} {σ : rb_S} {r : rb_A ⊕ rb_B} (h : rb_j len pc off ls st σ = some r) : len = 3 ∧ ∃ t : Nat, (pc : Int) + off = (t : Int) ∧ r = .inl (t, ls, st, σ) := by
  unfold rb_j at h
  split at h
  · rename_i e; exact ⟨e, rb_jp_e h⟩
  · cases h
theorem rb_ldi_e {ls : rb_L} {i : Nat} {f : Int32 → rb_N} {r : rb_A ⊕ rb_B} (h : rb_ldi ls i f = some r) : ∃ x, ls[i]? = some (some (.int x)) ∧ f x = some r := by
  unfold rb_ldi at h
  split at h
  · rename_i x e; exact ⟨x, e, h⟩
  · cases h
theorem rb_ldl_e {ls : rb_L} {i : Nat} {f : Int64 → rb_N} {r : rb_A ⊕ rb_B} (h : rb_ldl ls i f = some r) : ∃ x, ls[i]? = some (some (.long x)) ∧ f x = some r := by
  unfold rb_ldl at h
  split at h
  · rename_i x e; exact ⟨x, e, h⟩
  · cases h
theorem rb_lda_e {ls : rb_L} {i : Nat} {f : Value → rb_N} {r : rb_A ⊕ rb_B} (h : rb_lda ls i f = some r) : (∃ x, ls[i]? = some (some (.ref x)) ∧ f (.ref x) = some r) ∨ (ls[i]? = some (some .null) ∧ f .null = some r) := by
  unfold rb_lda at h
  split at h
  · rename_i x e; exact Or.inl ⟨x, e, h⟩
  · rename_i e; exact Or.inr ⟨e, h⟩
  · cases h
theorem rb_pi_e {st : List Value} {f : Int32 → List Value → rb_N} {r : rb_A ⊕ rb_B} (h : rb_pi st f = some r) : ∃ x t, st = .int x :: t ∧ f x t = some r := by
  unfold rb_pi at h
  split at h
  · exact ⟨_, _, rfl, h⟩
  · cases h
theorem rb_pl_e {st : List Value} {f : Int64 → List Value → rb_N} {r : rb_A ⊕ rb_B} (h : rb_pl st f = some r) : ∃ x t, st = .long x :: t ∧ f x t = some r := by
  unfold rb_pl at h
  split at h
  · exact ⟨_, _, rfl, h⟩
  · cases h
theorem rb_pa_e {st : List Value} {f : Value → List Value → rb_N} {r : rb_A ⊕ rb_B} (h : rb_pa st f = some r) : ∃ t, (∃ x, st = .ref x :: t ∧ f (.ref x) t = some r) ∨ (st = .null :: t ∧ f .null t = some r) := by
  unfold rb_pa at h
  split at h
  · exact ⟨_, Or.inl ⟨_, rfl, h⟩⟩
  · exact ⟨_, Or.inr ⟨rfl, h⟩⟩
  · cases h
theorem rb_pr_e {st : List Value} {f : Nat → List Value → rb_N} {r : rb_A ⊕ rb_B} (h : rb_pr st f = some r) : ∃ x t, st = .ref x :: t ∧ f x t = some r := by
  unfold rb_pr at h
  split at h
  · exact ⟨_, _, rfl, h⟩
  · cases h
theorem rb_ii_e {st : List Value} {f : Int32 → Int32 → List Value → rb_N} {r : rb_A ⊕ rb_B} (h : rb_ii st f = some r) : ∃ x y t, st = .int y :: .int x :: t ∧ f x y t = some r := by
  unfold rb_ii at h
  split at h
  · exact ⟨_, _, _, rfl, h⟩
  · cases h
theorem rb_ll_e {st : List Value} {f : Int64 → Int64 → List Value → rb_N} {r : rb_A ⊕ rb_B} (h : rb_ll st f = some r) : ∃ x y t, st = .long y :: .long x :: t ∧ f x y t = some r := by
  unfold rb_ll at h
  split at h
  · exact ⟨_, _, _, rfl, h⟩
  · cases h
theorem rb_s1_e {len n pc : Nat} {o : Option rb_L} {st : List Value} {σ : rb_S} {r : rb_A ⊕ rb_B} (h : rb_s1 len n pc o st σ = some r) : ∃ ls, o = some ls ∧ len = n ∧ r = .inl (pc + n, ls, st, σ) := by
  unfold rb_s1 at h
  split at h
  · exact ⟨_, rfl, rb_go_e h⟩
  · cases h
theorem rb_obj_e {σ : rb_S} {a ci : Nat} {f : List Value → rb_N} {r : rb_A ⊕ rb_B} (h : rb_obj σ a ci f = some r) : ∃ fs, σ.1 a = some (.inr (ci, fs)) ∧ f fs = some r := by
  unfold rb_obj at h
  split at h
  · rename_i c fs e
    split at h
    · rename_i e2; exact ⟨fs, by rw [e, e2], h⟩
    · cases h
  · cases h
theorem rb_arI_e {σ : rb_S} {a : Nat} {f : Nat → Nat → (Nat → Int32) → rb_N} {r : rb_A ⊕ rb_B} (h : rb_arI σ a f = some r) : ∃ t n g, σ.1 a = some (.inl (t, n, .inl g)) ∧ f t n g = some r := by
  unfold rb_arI at h
  split at h
  · rename_i t n g e; exact ⟨t, n, g, e, h⟩
  · cases h
theorem rb_arJ_e {σ : rb_S} {a : Nat} {f : Nat → (Nat → Int64) → rb_N} {r : rb_A ⊕ rb_B} (h : rb_arJ σ a f = some r) : ∃ n g, σ.1 a = some (.inl (1, n, .inr (.inl g))) ∧ f n g = some r := by
  unfold rb_arJ at h
  split at h
  · rename_i t n g e
    split at h
    · rename_i e2; exact ⟨n, g, by rw [e, e2], h⟩
    · cases h
  · cases h
theorem rb_arA_e {σ : rb_S} {a : Nat} {f : Nat → Nat → (Nat → Option Nat) → rb_N} {r : rb_A ⊕ rb_B} (h : rb_arA σ a f = some r) : ∃ t n g, σ.1 a = some (.inl (t, n, .inr (.inr (.inr (.inr g))))) ∧ f t n g = some r := by
  unfold rb_arA at h
  split at h
  · rename_i t n g e; exact ⟨t, n, g, e, h⟩
  · cases h
theorem rb_in_ok {i : Int32} {n : Nat} (h : rb_in i n = true) : vp_in i n := by
  unfold rb_in at h
  simp only [Bool.and_eq_true, decide_eq_true_eq] at h
  rintro (q | q)
  · exact h.1 q
  · omega
theorem rb_tyok_ok {φ : Nat → Nat} {ty : FieldType} {v : Value} (h : rb_tyok ty v = true) : narrow ty (rb_cv φ v) = rb_cv φ v ∧ fits ty (rb_cv φ v) = true := by
  unfold rb_tyok at h
  split at h
  · exact ⟨rfl, rfl⟩
  · exact ⟨rfl, rfl⟩
  · rename_i x
    simp only [Bool.or_eq_true, beq_iff_eq] at h
    rcases h with rfl | rfl
    · exact ⟨(by decide +kernel : narrow .boolean (.int 0) = .int 0), (by decide +kernel : fits .boolean (.int 0) = true)⟩
    · exact ⟨(by decide +kernel : narrow .boolean (.int 1) = .int 1), (by decide +kernel : fits .boolean (.int 1) = true)⟩
  · exact ⟨rfl, rfl⟩
  · exact ⟨rfl, rfl⟩
  · exact ⟨rfl, rfl⟩
  · exact ⟨rfl, rfl⟩
  · cases h
