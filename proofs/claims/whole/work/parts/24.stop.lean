/-! ===== runs that stop at a loop's head ===== -/
noncomputable def rb_gs (f : rb_A → Option (rb_A ⊕ rb_B)) (_s _t _k : Nat) (a : rb_A) : Option rb_B := rb_lim f a
noncomputable def rb_cs (f : rb_A → Option (rb_A ⊕ rb_B)) (s t k : Nat) (o : Option (rb_A ⊕ rb_B)) : Option rb_B := match o with
  | none => none
  | some (.inl a) => rb_gs f s t k a
  | some (.inr b) => some b
theorem rb_ls {f : rb_A → Option (rb_A ⊕ rb_B)} {a : rb_A} (s t k : Nat) : rb_lim f a = rb_cs f s t k (f a) := by
  rw [rb_lim_eq f a k]
  cases f a with
  | none => rfl
  | some x => cases x <;> rfl
theorem rb_gs_eq {f : rb_A → Option (rb_A ⊕ rb_B)} {pc : Nat} {ls : rb_L} {st : List Value} {σ : rb_S} {s t k : Nat} (_h : pc ≠ s) (_h2 : pc ≠ t) : rb_gs f s t (k + 1) (pc, ls, st, σ) = rb_cs f s t k (f (pc, ls, st, σ)) := rb_ls s t k
theorem rb_cs_go {f : rb_A → Option (rb_A ⊕ rb_B)} {s t k : Nat} {a : rb_A} : rb_cs f s t k (some (.inl a)) = rb_gs f s t k a := rfl
theorem rb_cs_end {f : rb_A → Option (rb_A ⊕ rb_B)} {s t k : Nat} {b : rb_B} : rb_cs f s t k (some (.inr b)) = some b := rfl
theorem rb_cs_ite {f : rb_A → Option (rb_A ⊕ rb_B)} {s t k : Nat} {c : Prop} {dc : Decidable c} {x y : Option (rb_A ⊕ rb_B)} : rb_cs f s t k (@ite _ c dc x y) = @ite _ c dc (rb_cs f s t k x) (rb_cs f s t k y) := by
  by_cases h : c
  · rw [if_pos h, if_pos h]
  · rw [if_neg h, if_neg h]
theorem rb_gs_lim {f : rb_A → Option (rb_A ⊕ rb_B)} {s t k : Nat} {a : rb_A} : rb_gs f s t k a = rb_lim f a := rfl
/-- the best of what is looked through -/
def pick (t : Nat → Nat → Bool) : Nat → Nat → Nat → Nat
  | 0, _, b => b
  | r + 1, k, b => pick t r (k + 1) (if t k b then k else b)
theorem wr_comm {σ : rb_S} {a b : Nat} {c d : va_E} (h : a ≠ b) : rb_wr (rb_wr σ a c) b d = rb_wr (rb_wr σ b d) a c := by
  refine Prod.ext ?_ rfl
  funext j
  show va_up (va_up σ.1 a (some c)) b (some d) j = va_up (va_up σ.1 b (some d)) a (some c) j
  unfold va_up
  by_cases h1 : j = a
  · by_cases h2 : j = b
    · exact absurd (h1.symm.trans h2) h
    · simp [h1, h]
  · by_cases h2 : j = b
    · simp [h2, Ne.symm h]
    · simp [h1, h2]
theorem wr_id {σ : rb_S} {a : Nat} {c : va_E} (h : σ.1 a = some c) : rb_wr σ a c = σ := by
  refine Prod.ext ?_ rfl
  funext j
  show va_up σ.1 a (some c) j = σ.1 j
  unfold va_up
  by_cases h1 : j = a
  · rw [if_pos h1, h1, h]
  · rw [if_neg h1]
