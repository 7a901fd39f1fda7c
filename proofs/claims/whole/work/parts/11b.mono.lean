/-! ===== the numbers only grow ===== -/
def rb_sg : rb_A ⊕ rb_B → rb_S
  | .inl a => a.2.2.2
  | .inr b => b.2
def rb_ok (σ : rb_S) (N : rb_N) : Prop := ∀ x, N = some x → σ.2.1 ≤ (rb_sg x).2.1 ∧ σ.2.2 ≤ (rb_sg x).2.2
theorem rb_ok_none {σ : rb_S} : rb_ok σ none := fun _ h => by cases h
theorem rb_ok_inl {σ σ' : rb_S} {pc : Nat} {ls : rb_L} {st : List Value} (h1 : σ.2.1 ≤ σ'.2.1) (h2 : σ.2.2 ≤ σ'.2.2) : rb_ok σ (some (.inl (pc, ls, st, σ'))) := fun _ h => by cases h; exact ⟨h1, h2⟩
theorem rb_ok_inr {σ : rb_S} {r : Option Value} : rb_ok σ (some (.inr (r, σ))) := fun _ h => by cases h; exact ⟨Nat.le_refl _, Nat.le_refl _⟩
theorem rb_ok_go {σ σ' : rb_S} {len n pc : Nat} {ls : rb_L} {st : List Value} (h1 : σ.2.1 ≤ σ'.2.1) (h2 : σ.2.2 ≤ σ'.2.2) : rb_ok σ (rb_go len n pc ls st σ') := fun _ h => by rw [(rb_go_e h).2]; exact ⟨h1, h2⟩
theorem rb_ok_go0 {σ : rb_S} {len n pc : Nat} {ls : rb_L} {st : List Value} : rb_ok σ (rb_go len n pc ls st σ) := rb_ok_go (Nat.le_refl _) (Nat.le_refl _)
theorem rb_ok_gow {σ : rb_S} {len n pc a : Nat} {c : va_E} {ls : rb_L} {st : List Value} : rb_ok σ (rb_go len n pc ls st (rb_wr σ a c)) := rb_ok_go (Nat.le_refl _) (Nat.le_refl _)
theorem rb_ok_gom {σ : rb_S} {len n pc k : Nat} {c : va_E} {ls : rb_L} {st : List Value} : rb_ok σ (rb_go len n pc ls st (rb_mk σ c k)) := rb_ok_go (Nat.le_succ _) (Nat.le_add_right _ _)
theorem rb_ok_jp {σ : rb_S} {pc : Nat} {off : Int} {ls : rb_L} {st : List Value} : rb_ok σ (rb_jp pc off ls st σ) := fun _ h => by
  obtain ⟨t, -, e⟩ := rb_jp_e h
  rw [e]; exact ⟨Nat.le_refl _, Nat.le_refl _⟩
theorem rb_ok_j {σ : rb_S} {len pc : Nat} {off : Int} {ls : rb_L} {st : List Value} : rb_ok σ (rb_j len pc off ls st σ) := fun _ h => by
  obtain ⟨-, t, -, e⟩ := rb_j_e h
  rw [e]; exact ⟨Nat.le_refl _, Nat.le_refl _⟩
theorem rb_ok_ite {σ : rb_S} {c : Prop} {dc : Decidable c} {x y : rb_N} (hx : rb_ok σ x) (hy : rb_ok σ y) : rb_ok σ (@ite _ c dc x y) := by
  by_cases h : c
  · rw [if_pos h]; exact hx
  · rw [if_neg h]; exact hy
theorem rb_ok_ldi {σ : rb_S} {ls : rb_L} {i : Nat} {f : Int32 → rb_N} (hf : ∀ x, rb_ok σ (f x)) : rb_ok σ (rb_ldi ls i f) := fun x h => by
  obtain ⟨y, -, h⟩ := rb_ldi_e h; exact hf y x h
theorem rb_ok_ldl {σ : rb_S} {ls : rb_L} {i : Nat} {f : Int64 → rb_N} (hf : ∀ x, rb_ok σ (f x)) : rb_ok σ (rb_ldl ls i f) := fun x h => by
  obtain ⟨y, -, h⟩ := rb_ldl_e h; exact hf y x h
theorem rb_ok_lda {σ : rb_S} {ls : rb_L} {i : Nat} {f : Value → rb_N} (hf : ∀ x, rb_ok σ (f x)) : rb_ok σ (rb_lda ls i f) := fun x h => by
  rcases rb_lda_e h with ⟨y, -, h⟩ | ⟨-, h⟩
  · exact hf _ x h
  · exact hf _ x h
theorem rb_ok_pi {σ : rb_S} {st : List Value} {f : Int32 → List Value → rb_N} (hf : ∀ x t, rb_ok σ (f x t)) : rb_ok σ (rb_pi st f) := fun x h => by
  obtain ⟨y, t, -, h⟩ := rb_pi_e h; exact hf y t x h
theorem rb_ok_pl {σ : rb_S} {st : List Value} {f : Int64 → List Value → rb_N} (hf : ∀ x t, rb_ok σ (f x t)) : rb_ok σ (rb_pl st f) := fun x h => by
  obtain ⟨y, t, -, h⟩ := rb_pl_e h; exact hf y t x h
theorem rb_ok_pa {σ : rb_S} {st : List Value} {f : Value → List Value → rb_N} (hf : ∀ x t, rb_ok σ (f x t)) : rb_ok σ (rb_pa st f) := fun x h => by
  obtain ⟨t, ⟨y, -, h⟩ | ⟨-, h⟩⟩ := rb_pa_e h
  · exact hf _ t x h
  · exact hf _ t x h
theorem rb_ok_pr {σ : rb_S} {st : List Value} {f : Nat → List Value → rb_N} (hf : ∀ x t, rb_ok σ (f x t)) : rb_ok σ (rb_pr st f) := fun x h => by
  obtain ⟨y, t, -, h⟩ := rb_pr_e h; exact hf y t x h
theorem rb_ok_ii {σ : rb_S} {st : List Value} {f : Int32 → Int32 → List Value → rb_N} (hf : ∀ x y t, rb_ok σ (f x y t)) : rb_ok σ (rb_ii st f) := fun x h => by
  obtain ⟨y, z, t, -, h⟩ := rb_ii_e h; exact hf y z t x h
theorem rb_ok_ll {σ : rb_S} {st : List Value} {f : Int64 → Int64 → List Value → rb_N} (hf : ∀ x y t, rb_ok σ (f x y t)) : rb_ok σ (rb_ll st f) := fun x h => by
  obtain ⟨y, z, t, -, h⟩ := rb_ll_e h; exact hf y z t x h
theorem rb_ok_s1 {σ : rb_S} {len n pc : Nat} {o : Option rb_L} {st : List Value} : rb_ok σ (rb_s1 len n pc o st σ) := fun x h => by
  obtain ⟨ls, -, -, e⟩ := rb_s1_e h
  rw [e]; exact ⟨Nat.le_refl _, Nat.le_refl _⟩
theorem rb_ok_obj {σ : rb_S} {a ci : Nat} {f : List Value → rb_N} (hf : ∀ x, rb_ok σ (f x)) : rb_ok σ (rb_obj σ a ci f) := fun x h => by
  obtain ⟨y, -, h⟩ := rb_obj_e h; exact hf y x h
theorem rb_ok_arI {σ : rb_S} {a : Nat} {f : Nat → Nat → (Nat → Int32) → rb_N} (hf : ∀ x y z, rb_ok σ (f x y z)) : rb_ok σ (rb_arI σ a f) := fun x h => by
  obtain ⟨y, z, w, -, h⟩ := rb_arI_e h; exact hf y z w x h
theorem rb_ok_arJ {σ : rb_S} {a : Nat} {f : Nat → (Nat → Int64) → rb_N} (hf : ∀ x y, rb_ok σ (f x y)) : rb_ok σ (rb_arJ σ a f) := fun x h => by
  obtain ⟨y, z, -, h⟩ := rb_arJ_e h; exact hf y z x h
theorem rb_ok_arA {σ : rb_S} {a : Nat} {f : Nat → Nat → (Nat → Option Nat) → rb_N} (hf : ∀ x y z, rb_ok σ (f x y z)) : rb_ok σ (rb_arA σ a f) := fun x h => by
  obtain ⟨y, z, w, -, h⟩ := rb_arA_e h; exact hf y z w x h
theorem rb_ok_arN {σ : rb_S} {a : Nat} {f : Nat → rb_N} (hf : ∀ x, rb_ok σ (f x)) : rb_ok σ (rb_arN σ a f) := by
  unfold rb_arN
  split
  · exact rb_ok_ite (hf _) rb_ok_none
  · exact rb_ok_ite (hf _) rb_ok_none
  · exact rb_ok_ite (hf _) rb_ok_none
  · exact rb_ok_none
def rb_moC (C : rb_C) : Prop := ∀ mi As σ r σ', C mi As σ = some (r, σ') → σ.2.1 ≤ σ'.2.1 ∧ σ.2.2 ≤ σ'.2.2
theorem rb_ok_ret {C : rb_C} (hC : rb_moC C) {σ : rb_S} {mi pc : Nat} {ls : rb_L} {As rest : List Value} : rb_ok σ (rb_ret C mi pc ls As rest σ) := fun x h => by
  obtain ⟨r, σ', h, e⟩ := rb_ret_e h
  rw [e]; exact hC mi As σ r σ' h
theorem rb_ok_ivk {C : rb_C} (hC : rb_moC C) {σ : rb_S} {e : Option (Nat × Nat × Nat × Nat × Nat × Nat × Nat)} {form len pc : Nat} {ls : rb_L} {st : List Value} : rb_ok σ (rb_ivk C e form len pc ls st σ) := by
  unfold rb_ivk
  refine rb_ok_ite ?_ rb_ok_none
  split
  · refine rb_ok_ite (rb_ok_ite (rb_ok_ret hC) rb_ok_none) ?_
    refine rb_ok_ite (rb_ok_ite (rb_ok_ret hC) rb_ok_none) ?_
    refine rb_ok_ite (rb_ok_ite (rb_ok_ret hC) rb_ok_none) ?_
    refine rb_ok_ite (rb_ok_ite (rb_ok_ret hC) rb_ok_none) ?_
    refine rb_ok_ite (rb_ok_pr fun _ t => rb_ok_ite (rb_ok_inl (Nat.le_refl _) (Nat.le_refl _)) rb_ok_none) ?_
    refine rb_ok_ite ?_ rb_ok_none
    split
    · exact rb_ok_arI fun _ _ _ => rb_ok_arI fun _ _ _ => rb_ok_ite (rb_ok_inl (Nat.le_refl _) (Nat.le_refl _)) rb_ok_none
    · exact rb_ok_none
  · exact rb_ok_none
set_option maxHeartbeats 4000000 in
theorem rb_ok_nxt {C : rb_C} (hC : rb_moC C) {o : Nat} {ini : Bool} {ret : Option FieldType} {dd : Except DecodeError (Instr × Nat)} {pc : Nat} {ls : rb_L} {st : List Value} {σ : rb_S} : rb_ok σ (rb_nxt C o ini ret dd pc ls st σ) := by
  cases dd with
  | error z => exact rb_ok_none
  | ok q =>
    obtain ⟨ins, len⟩ := q
    cases ins <;> (delta rb_nxt; dsimp only) <;> first
      | exact rb_ok_none
      | exact rb_ok_go0
      | exact rb_ok_j
      | exact rb_ok_ivk hC
      | exact rb_ok_ldi fun _ => rb_ok_go0
      | exact rb_ok_ldl fun _ => rb_ok_go0
      | exact rb_ok_lda fun _ => rb_ok_go0
      | exact rb_ok_ii fun _ _ _ => rb_ok_go0
      | exact rb_ok_ll fun _ _ _ => rb_ok_go0
      | exact rb_ok_pi fun _ _ => rb_ok_go0
      | exact rb_ok_pl fun _ _ => rb_ok_go0
      | exact rb_ok_pi fun _ _ => rb_ok_s1
      | exact rb_ok_pl fun _ _ => rb_ok_s1
      | exact rb_ok_pr fun _ _ => rb_ok_s1
      | exact rb_ok_ldi fun _ => rb_ok_s1
      | exact rb_ok_ii fun _ _ _ => rb_ok_ite rb_ok_none rb_ok_go0
      | exact rb_ok_ll fun _ _ _ => rb_ok_ite rb_ok_none rb_ok_go0
      | (refine rb_ok_pi fun _ _ => ?_
         split <;> first | exact rb_ok_ite rb_ok_j rb_ok_go0 | exact rb_ok_ite rb_ok_go0 rb_ok_j)
      | (refine rb_ok_ii fun _ _ _ => ?_
         split <;> first | exact rb_ok_ite rb_ok_j rb_ok_go0 | exact rb_ok_ite rb_ok_go0 rb_ok_j)
      | (refine rb_ok_pa fun _ _ => ?_
         split <;> first | exact rb_ok_j | exact rb_ok_go0)
      | (refine rb_ok_pi fun _ _ => rb_ok_ite rb_ok_jp ?_
         split
         · exact rb_ok_jp
         · exact rb_ok_none)
      | exact rb_ok_pr fun _ _ => rb_ok_arN fun _ => rb_ok_go0
      | (refine rb_ok_pi fun _ _ => rb_ok_ite ?_ rb_ok_none
         split <;> first | exact rb_ok_gom | exact rb_ok_none)
      | (split
         · first
             | exact rb_ok_go0
             | exact rb_ok_gom
             | exact rb_ok_ite rb_ok_go0 rb_ok_none
             | exact rb_ok_ite rb_ok_inr rb_ok_none
             | (split
                · first | exact rb_ok_ite rb_ok_inr rb_ok_none | exact rb_ok_obj fun _ => rb_ok_ite rb_ok_gow rb_ok_none
                · first | exact rb_ok_none | exact rb_ok_ite rb_ok_inr rb_ok_none
                · exact rb_ok_none)
             | (split
                · first | exact rb_ok_ite rb_ok_inr rb_ok_none | exact rb_ok_obj fun _ => rb_ok_ite rb_ok_gow rb_ok_none
                · first | exact rb_ok_none | exact rb_ok_ite rb_ok_inr rb_ok_none)
             | exact rb_ok_pi fun _ _ => rb_ok_ite rb_ok_gom rb_ok_none
             | exact rb_ok_arI fun _ _ _ => rb_ok_ite rb_ok_go0 rb_ok_none
             | exact rb_ok_arJ fun _ _ => rb_ok_ite rb_ok_go0 rb_ok_none
             | exact rb_ok_arA fun _ _ _ => rb_ok_ite rb_ok_go0 rb_ok_none
             | exact rb_ok_arI fun _ _ _ => rb_ok_ite rb_ok_gow rb_ok_none
             | exact rb_ok_arJ fun _ _ => rb_ok_ite rb_ok_gow rb_ok_none
             | exact rb_ok_arA fun _ _ _ => rb_ok_obj fun _ => rb_ok_ite rb_ok_gow rb_ok_none
             | (refine rb_ok_pr fun _ _ => rb_ok_obj fun _ => ?_
                split
                · exact rb_ok_go0
                · exact rb_ok_none)
         · first
             | exact rb_ok_none
             | (split
                · exact rb_ok_go0
                · exact rb_ok_none))
theorem rb_ok_it {C : rb_C} (hC : rb_moC C) {o : Nat} {ini : Bool} {ret : Option FieldType} {cc : ByteArray} {r : Option Value} {σ' : rb_S} : ∀ (n : Nat) (a : rb_A), rb_it (fun a : rb_A => rb_nxt C o ini ret (decode cc a.1) a.1 a.2.1 a.2.2.1 a.2.2.2) n a = some (r, σ') → a.2.2.2.2.1 ≤ σ'.2.1 ∧ a.2.2.2.2.2 ≤ σ'.2.2 := by
  intro n
  induction n with
  | zero => intro a h; cases h
  | succ n ih =>
    intro a h
    rw [rb_it] at h
    cases hx : rb_nxt C o ini ret (decode cc a.1) a.1 a.2.1 a.2.2.1 a.2.2.2 with
    | none => rw [hx] at h; cases h
    | some x' =>
      rw [hx] at h
      obtain ⟨m1, m2⟩ := rb_ok_nxt hC x' hx
      cases x' with
      | inl a' =>
        obtain ⟨i1, i2⟩ := ih a' h
        exact ⟨Nat.le_trans m1 i1, Nat.le_trans m2 i2⟩
      | inr q =>
        have e := Option.some.inj h
        subst e
        exact ⟨m1, m2⟩
theorem rb_moR : ∀ d, rb_moC (rb_R d) := by
  intro d
  induction d with
  | zero => intro mi As σ r σ' h; cases h
  | succ d ih =>
    intro mi As σ r σ' h
    unfold rb_R at h
    split at h
    · split at h
      · split at h
        · cases h; exact ⟨Nat.le_refl _, Nat.le_refl _⟩
        · cases h
      · cases h
    · split at h
      · split at h
        · split at h
          · cases h; exact ⟨Nat.le_refl _, Nat.le_refl _⟩
          · cases h
        · cases h
      · split at h
        · cases h
        · split at h
          · cases h
          · obtain ⟨n, hn⟩ := rb_lim_ex h
            exact rb_ok_it ih n _ hn
