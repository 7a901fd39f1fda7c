/-! ===== every instruction ===== -/
def rb_isRf : Value → Bool
  | .ref _ => true
  | _ => false
theorem rb_def_nr0 : rb_defT.all (fun l => l.all (fun v => !rb_isRf v)) = true := by decide +kernel
theorem rb_def_nr : ∀ l ∈ rb_defT, ∀ a : Nat, (Value.ref a) ∉ l := by
  intro l hl a hm
  have h1 := List.all_eq_true.mp rb_def_nr0 l hl
  have h2 := List.all_eq_true.mp h1 _ hm
  cases h2
def rb_qI (len : Nat) (ret : Option FieldType) (st : List Value) (σ : rb_S) : rb_N := match st with
  | [.int x] => (match ret with
    | some ty => if len = 1 ∧ rb_tyok ty (.int x) = true then some (.inr (some (.int x), σ)) else none
    | none => none)
  | _ => none
def rb_qL (len : Nat) (ret : Option FieldType) (st : List Value) (σ : rb_S) : rb_N := match st with
  | [.long x] => if len = 1 ∧ ret = some .long then some (.inr (some (.long x), σ)) else none
  | _ => none
def rb_qA (len : Nat) (ret : Option FieldType) (st : List Value) (σ : rb_S) : rb_N := match st with
  | [.ref x] => (match ret with
    | some (.object _) => if len = 1 then some (.inr (some (.ref x), σ)) else none
    | some (.array _) => if len = 1 then some (.inr (some (.ref x), σ)) else none
    | _ => none)
  | _ => none
def rb_qV (len : Nat) (ret : Option FieldType) (st : List Value) (σ : rb_S) : rb_N := match st with
  | [] => if len = 1 ∧ ret = none then some (.inr (none, σ)) else none
  | _ => none
theorem rb_def_cv {φ : Nat → Nat} (ci : Nat) : (rb_def ci).map (rb_cv φ) = rb_def ci := by
  have h : ∀ l ∈ rb_defT, ∀ v ∈ l, ∀ a : Nat, v ≠ .ref a := by
    intro l hl v hv a e
    subst e
    exact absurd hv (rb_def_nr l hl a)
  have hc : ∀ v ∈ rb_def ci, rb_cv φ v = v := by
    intro v hv
    unfold rb_def at hv
    by_cases hi : ci < rb_defT.length
    · rw [List.getD_eq_getElem?_getD, List.getElem?_eq_getElem hi] at hv
      have := h _ (List.getElem_mem hi) v hv
      cases v <;> first | rfl | exact absurd rfl (this _)
    · rw [List.getD_eq_getElem?_getD, List.getElem?_eq_none (Nat.not_lt.mp hi)] at hv
      cases hv
  conv => rhs; rw [← List.map_id (rb_def ci)]
  exact List.map_congr_left (fun v hv => hc v hv)
section RBT
variable {p : Program} {l : Launch} {e : Env} {R : Room} {s : State} {m : MethodId} {args : Array Value} {below : List Frame} {meth : Method} {c : Code} {Q : State → Prop}
variable {D : va_G} {cA : Nat → ClassId} {φ : Nat → Nat} {base b L : Nat} {xs : Nat → Int32} {Hs : Heap} {adV : Nat → Nat} {n0 s0 nL o d : Nat} {cc : ByteArray} {ini : Bool} {ret : Option FieldType}
/-- what one step gives -/
def rb_St (p : Program) (l : Launch) (e : Env) (R : Room) (s : State) (m : MethodId) (args : Array Value) (below : List Frame) (meth : Method) (c : Code) (Q : State → Prop) (D : va_G) (cA : Nat → ClassId) (φ : Nat → Nat) (base L : Nat) (xs : Nat → Int32) (Hs : Heap) (n0 s0 nL : Nat) (pc : Nat) (ls : rb_L) (st : List Value) (σ : rb_S) (a' : rb_A) : Prop :=
  σ.2.1 ≤ a'.2.2.2.2.1 ∧ σ.2.2 ≤ a'.2.2.2.2.2 ∧ (a'.2.2.2.2.1 - n0 ≤ R.cells → a'.2.2.2.2.2 - s0 ≤ R.slots → rb_Wf p l e R s m args below meth c Q D cA φ base L xs Hs n0 s0 nL a'.1 a'.2.1 a'.2.2.1 a'.2.2.2 → rb_Wf p l e R s m args below meth c Q D cA φ base L xs Hs n0 s0 nL pc ls st σ)
theorem rb_inlI {a a' : rb_A} (h : (Sum.inl a : rb_A ⊕ rb_B) = .inl a') : a = a' := Sum.inl.inj h

theorem ww_aconst_null (I : rb_In p R s m args meth c cc nL o d ini D cA φ base b L xs Hs adV) {pc len : Nat} {ls : rb_L} {st : List Value} {σ : rb_S} {x' : rb_A ⊕ rb_B} (h0 : n0 ≤ σ.2.1) (h1 : s0 ≤ σ.2.2) (hd : decode cc pc = .ok (.aconst_null, len)) (hn : rb_nxt (rb_R d) o ini ret (.ok (.aconst_null, len)) pc ls st σ = some x') : ∃ a' : rb_A, x' = .inl a' ∧ rb_St p l e R s m args below meth c Q D cA φ base L xs Hs n0 s0 nL pc ls st σ a' := by
  obtain ⟨hx, hb, hml, hown, hts, hKK, hini, hφ, hφ0, hHs, hbb, hRf, hRl⟩ := I
  obtain ⟨e1, e2⟩ := rb_go_e hn
  subst e1
  refine ⟨_, e2, ?_⟩
  exact ⟨Nat.le_refl _, Nat.le_refl _, fun _ _ k H locs lr hr hL hl => lv_null hx hb hd (k H locs lr hr hL hl)⟩
theorem ww_iconst (I : rb_In p R s m args meth c cc nL o d ini D cA φ base b L xs Hs adV) {z : Int} {pc len : Nat} {ls : rb_L} {st : List Value} {σ : rb_S} {x' : rb_A ⊕ rb_B} (h0 : n0 ≤ σ.2.1) (h1 : s0 ≤ σ.2.2) (hd : decode cc pc = .ok (.iconst z, len)) (hn : rb_nxt (rb_R d) o ini ret (.ok (.iconst z, len)) pc ls st σ = some x') : ∃ a' : rb_A, x' = .inl a' ∧ rb_St p l e R s m args below meth c Q D cA φ base L xs Hs n0 s0 nL pc ls st σ a' := by
  obtain ⟨hx, hb, hml, hown, hts, hKK, hini, hφ, hφ0, hHs, hbb, hRf, hRl⟩ := I
  obtain ⟨e1, e2⟩ := rb_go_e hn
  subst e1
  refine ⟨_, e2, ?_⟩
  exact ⟨Nat.le_refl _, Nat.le_refl _, fun _ _ k H locs lr hr hL hl => lv_iconst hx hb hd rfl (k H locs lr hr hL hl)⟩
theorem ww_bipush (I : rb_In p R s m args meth c cc nL o d ini D cA φ base b L xs Hs adV) {z : Int} {pc len : Nat} {ls : rb_L} {st : List Value} {σ : rb_S} {x' : rb_A ⊕ rb_B} (h0 : n0 ≤ σ.2.1) (h1 : s0 ≤ σ.2.2) (hd : decode cc pc = .ok (.bipush z, len)) (hn : rb_nxt (rb_R d) o ini ret (.ok (.bipush z, len)) pc ls st σ = some x') : ∃ a' : rb_A, x' = .inl a' ∧ rb_St p l e R s m args below meth c Q D cA φ base L xs Hs n0 s0 nL pc ls st σ a' := by
  obtain ⟨hx, hb, hml, hown, hts, hKK, hini, hφ, hφ0, hHs, hbb, hRf, hRl⟩ := I
  obtain ⟨e1, e2⟩ := rb_go_e hn
  subst e1
  refine ⟨_, e2, ?_⟩
  exact ⟨Nat.le_refl _, Nat.le_refl _, fun _ _ k H locs lr hr hL hl => lv_bipush hx hb hd rfl (k H locs lr hr hL hl)⟩
theorem ww_sipush (I : rb_In p R s m args meth c cc nL o d ini D cA φ base b L xs Hs adV) {z : Int} {pc len : Nat} {ls : rb_L} {st : List Value} {σ : rb_S} {x' : rb_A ⊕ rb_B} (h0 : n0 ≤ σ.2.1) (h1 : s0 ≤ σ.2.2) (hd : decode cc pc = .ok (.sipush z, len)) (hn : rb_nxt (rb_R d) o ini ret (.ok (.sipush z, len)) pc ls st σ = some x') : ∃ a' : rb_A, x' = .inl a' ∧ rb_St p l e R s m args below meth c Q D cA φ base L xs Hs n0 s0 nL pc ls st σ a' := by
  obtain ⟨hx, hb, hml, hown, hts, hKK, hini, hφ, hφ0, hHs, hbb, hRf, hRl⟩ := I
  obtain ⟨e1, e2⟩ := rb_go_e hn
  subst e1
  refine ⟨_, e2, ?_⟩
  exact ⟨Nat.le_refl _, Nat.le_refl _, fun _ _ k H locs lr hr hL hl => lv_sipush hx hb hd rfl (k H locs lr hr hL hl)⟩
theorem ww_lconst (I : rb_In p R s m args meth c cc nL o d ini D cA φ base b L xs Hs adV) {z : Fin 2} {pc len : Nat} {ls : rb_L} {st : List Value} {σ : rb_S} {x' : rb_A ⊕ rb_B} (h0 : n0 ≤ σ.2.1) (h1 : s0 ≤ σ.2.2) (hd : decode cc pc = .ok (.lconst z, len)) (hn : rb_nxt (rb_R d) o ini ret (.ok (.lconst z, len)) pc ls st σ = some x') : ∃ a' : rb_A, x' = .inl a' ∧ rb_St p l e R s m args below meth c Q D cA φ base L xs Hs n0 s0 nL pc ls st σ a' := by
  obtain ⟨hx, hb, hml, hown, hts, hKK, hini, hφ, hφ0, hHs, hbb, hRf, hRl⟩ := I
  obtain ⟨e1, e2⟩ := rb_go_e hn
  subst e1
  refine ⟨_, e2, ?_⟩
  exact ⟨Nat.le_refl _, Nat.le_refl _, fun _ _ k H locs lr hr hL hl => lv_lconst hx hb hd rfl (k H locs lr hr hL hl)⟩
theorem ww_ldc (I : rb_In p R s m args meth c cc nL o d ini D cA φ base b L xs Hs adV) {i : Nat} {pc len : Nat} {ls : rb_L} {st : List Value} {σ : rb_S} {x' : rb_A ⊕ rb_B} (h0 : n0 ≤ σ.2.1) (h1 : s0 ≤ σ.2.2) (hd : decode cc pc = .ok (.ldc i, len)) (hn : rb_nxt (rb_R d) o ini ret (.ok (.ldc i, len)) pc ls st σ = some x') : ∃ a' : rb_A, x' = .inl a' ∧ rb_St p l e R s m args below meth c Q D cA φ base L xs Hs n0 s0 nL pc ls st σ a' := by
  obtain ⟨hx, hb, hml, hown, hts, hKK, hini, hφ, hφ0, hHs, hbb, hRf, hRl⟩ := I
  change (match rb_kI o i with
      | some (v, _) => rb_go len 2 pc ls (.int v :: st) σ
      | none => match rb_kS o i with
        | some k => rb_go len 2 pc ls (.ref k :: st) σ
        | none => none) = some x' at hn
  cases hk : rb_kI o i with
  | some q =>
    obtain ⟨v, w⟩ := q
    rw [hk] at hn
    obtain ⟨e1, e2⟩ := rb_go_e hn
    subst e1
    refine ⟨_, e2, ?_⟩
    exact ⟨Nat.le_refl _, Nat.le_refl _, fun _ _ k H locs lr hr hL hl => lv_ldc hx hb hown (hts _ (rb_kI_ok hk)) hd (k H locs lr hr hL hl)⟩
  | none =>
    rw [hk] at hn
    cases hs : rb_kS o i with
    | none => rw [hs] at hn; cases hn
    | some q =>
      rw [hs] at hn
      obtain ⟨e1, e2⟩ := rb_go_e hn
      subst e1
      refine ⟨_, e2, ?_⟩
      obtain ⟨s1, s2, s3, s4⟩ := rb_kS_ok hs
      have hv := hKK.2.2.2.2.1 (q - 1) (by omega)
      rw [s4, show q - 1 + 1 = q by omega, ← s1] at hv
      exact ⟨Nat.le_refl _, Nat.le_refl _, fun _ _ k H locs lr hr hL hl => va_ldcS hx hb hown hv hd (k H locs lr hr hL hl)⟩
theorem ww_ldc2_w (I : rb_In p R s m args meth c cc nL o d ini D cA φ base b L xs Hs adV) {i : Nat} {pc len : Nat} {ls : rb_L} {st : List Value} {σ : rb_S} {x' : rb_A ⊕ rb_B} (h0 : n0 ≤ σ.2.1) (h1 : s0 ≤ σ.2.2) (hd : decode cc pc = .ok (.ldc2_w i, len)) (hn : rb_nxt (rb_R d) o ini ret (.ok (.ldc2_w i, len)) pc ls st σ = some x') : ∃ a' : rb_A, x' = .inl a' ∧ rb_St p l e R s m args below meth c Q D cA φ base L xs Hs n0 s0 nL pc ls st σ a' := by
  obtain ⟨hx, hb, hml, hown, hts, hKK, hini, hφ, hφ0, hHs, hbb, hRf, hRl⟩ := I
  change (match rb_kJ o i with
      | some (v, _) => rb_go len 3 pc ls (.long v :: st) σ
      | none => none) = some x' at hn
  cases hk : rb_kJ o i with
  | none => rw [hk] at hn; cases hn
  | some q =>
    obtain ⟨v, w⟩ := q
    rw [hk] at hn
    obtain ⟨e1, e2⟩ := rb_go_e hn
    subst e1
    refine ⟨_, e2, ?_⟩
    exact ⟨Nat.le_refl _, Nat.le_refl _, fun _ _ k H locs lr hr hL hl => lv_ldc2 hx hb hown (hts _ (rb_kJ_ok hk)) hd (k H locs lr hr hL hl)⟩
theorem ww_iload_n (I : rb_In p R s m args meth c cc nL o d ini D cA φ base b L xs Hs adV) {z : Fin 4} {pc len : Nat} {ls : rb_L} {st : List Value} {σ : rb_S} {x' : rb_A ⊕ rb_B} (h0 : n0 ≤ σ.2.1) (h1 : s0 ≤ σ.2.2) (hd : decode cc pc = .ok (.iload_n z, len)) (hn : rb_nxt (rb_R d) o ini ret (.ok (.iload_n z, len)) pc ls st σ = some x') : ∃ a' : rb_A, x' = .inl a' ∧ rb_St p l e R s m args below meth c Q D cA φ base L xs Hs n0 s0 nL pc ls st σ a' := by
  obtain ⟨hx, hb, hml, hown, hts, hKK, hini, hφ, hφ0, hHs, hbb, hRf, hRl⟩ := I
  obtain ⟨x, hv, hn2⟩ := rb_ldi_e hn
  obtain ⟨e1, e2⟩ := rb_go_e hn2
  subst e1
  refine ⟨_, e2, ?_⟩
  exact ⟨Nat.le_refl _, Nat.le_refl _, fun _ _ k H locs lr hr hL hl => lv_iload_n hx hb hd rfl (hl.at hv) (k H locs lr hr hL hl)⟩
theorem ww_iload (I : rb_In p R s m args meth c cc nL o d ini D cA φ base b L xs Hs adV) {z : Nat} {pc len : Nat} {ls : rb_L} {st : List Value} {σ : rb_S} {x' : rb_A ⊕ rb_B} (h0 : n0 ≤ σ.2.1) (h1 : s0 ≤ σ.2.2) (hd : decode cc pc = .ok (.iload z, len)) (hn : rb_nxt (rb_R d) o ini ret (.ok (.iload z, len)) pc ls st σ = some x') : ∃ a' : rb_A, x' = .inl a' ∧ rb_St p l e R s m args below meth c Q D cA φ base L xs Hs n0 s0 nL pc ls st σ a' := by
  obtain ⟨hx, hb, hml, hown, hts, hKK, hini, hφ, hφ0, hHs, hbb, hRf, hRl⟩ := I
  obtain ⟨x, hv, hn2⟩ := rb_ldi_e hn
  obtain ⟨e1, e2⟩ := rb_go_e hn2
  subst e1
  refine ⟨_, e2, ?_⟩
  exact ⟨Nat.le_refl _, Nat.le_refl _, fun _ _ k H locs lr hr hL hl => lv_iload hx hb hd (hl.at hv) (k H locs lr hr hL hl)⟩
theorem ww_lload_n (I : rb_In p R s m args meth c cc nL o d ini D cA φ base b L xs Hs adV) {z : Fin 4} {pc len : Nat} {ls : rb_L} {st : List Value} {σ : rb_S} {x' : rb_A ⊕ rb_B} (h0 : n0 ≤ σ.2.1) (h1 : s0 ≤ σ.2.2) (hd : decode cc pc = .ok (.lload_n z, len)) (hn : rb_nxt (rb_R d) o ini ret (.ok (.lload_n z, len)) pc ls st σ = some x') : ∃ a' : rb_A, x' = .inl a' ∧ rb_St p l e R s m args below meth c Q D cA φ base L xs Hs n0 s0 nL pc ls st σ a' := by
  obtain ⟨hx, hb, hml, hown, hts, hKK, hini, hφ, hφ0, hHs, hbb, hRf, hRl⟩ := I
  obtain ⟨x, hv, hn2⟩ := rb_ldl_e hn
  obtain ⟨e1, e2⟩ := rb_go_e hn2
  subst e1
  refine ⟨_, e2, ?_⟩
  exact ⟨Nat.le_refl _, Nat.le_refl _, fun _ _ k H locs lr hr hL hl => lv_lload_n hx hb hd rfl (hl.at hv) (k H locs lr hr hL hl)⟩
theorem ww_lload (I : rb_In p R s m args meth c cc nL o d ini D cA φ base b L xs Hs adV) {z : Nat} {pc len : Nat} {ls : rb_L} {st : List Value} {σ : rb_S} {x' : rb_A ⊕ rb_B} (h0 : n0 ≤ σ.2.1) (h1 : s0 ≤ σ.2.2) (hd : decode cc pc = .ok (.lload z, len)) (hn : rb_nxt (rb_R d) o ini ret (.ok (.lload z, len)) pc ls st σ = some x') : ∃ a' : rb_A, x' = .inl a' ∧ rb_St p l e R s m args below meth c Q D cA φ base L xs Hs n0 s0 nL pc ls st σ a' := by
  obtain ⟨hx, hb, hml, hown, hts, hKK, hini, hφ, hφ0, hHs, hbb, hRf, hRl⟩ := I
  obtain ⟨x, hv, hn2⟩ := rb_ldl_e hn
  obtain ⟨e1, e2⟩ := rb_go_e hn2
  subst e1
  refine ⟨_, e2, ?_⟩
  exact ⟨Nat.le_refl _, Nat.le_refl _, fun _ _ k H locs lr hr hL hl => lv_lload hx hb hd (hl.at hv) (k H locs lr hr hL hl)⟩
theorem ww_aload_n (I : rb_In p R s m args meth c cc nL o d ini D cA φ base b L xs Hs adV) {z : Fin 4} {pc len : Nat} {ls : rb_L} {st : List Value} {σ : rb_S} {x' : rb_A ⊕ rb_B} (h0 : n0 ≤ σ.2.1) (h1 : s0 ≤ σ.2.2) (hd : decode cc pc = .ok (.aload_n z, len)) (hn : rb_nxt (rb_R d) o ini ret (.ok (.aload_n z, len)) pc ls st σ = some x') : ∃ a' : rb_A, x' = .inl a' ∧ rb_St p l e R s m args below meth c Q D cA φ base L xs Hs n0 s0 nL pc ls st σ a' := by
  obtain ⟨hx, hb, hml, hown, hts, hKK, hini, hφ, hφ0, hHs, hbb, hRf, hRl⟩ := I
  change rb_lda ls (z : Nat) (fun x => rb_go len 1 pc ls (x :: st) σ) = some x' at hn
  rcases rb_lda_e hn with ⟨x, hv, hn2⟩ | ⟨hv, hn2⟩
  · obtain ⟨e1, e2⟩ := rb_go_e hn2
    subst e1
    refine ⟨_, e2, ?_⟩
    exact ⟨Nat.le_refl _, Nat.le_refl _, fun _ _ k H locs lr hr hL hl => lv_aload_n hx hb hd rfl (hl.at hv) (k H locs lr hr hL hl)⟩
  · obtain ⟨e1, e2⟩ := rb_go_e hn2
    subst e1
    refine ⟨_, e2, ?_⟩
    exact ⟨Nat.le_refl _, Nat.le_refl _, fun _ _ k H locs lr hr hL hl => lv_aload_nN hx hb hd rfl (hl.at hv) (k H locs lr hr hL hl)⟩
theorem ww_aload (I : rb_In p R s m args meth c cc nL o d ini D cA φ base b L xs Hs adV) {z : Nat} {pc len : Nat} {ls : rb_L} {st : List Value} {σ : rb_S} {x' : rb_A ⊕ rb_B} (h0 : n0 ≤ σ.2.1) (h1 : s0 ≤ σ.2.2) (hd : decode cc pc = .ok (.aload z, len)) (hn : rb_nxt (rb_R d) o ini ret (.ok (.aload z, len)) pc ls st σ = some x') : ∃ a' : rb_A, x' = .inl a' ∧ rb_St p l e R s m args below meth c Q D cA φ base L xs Hs n0 s0 nL pc ls st σ a' := by
  obtain ⟨hx, hb, hml, hown, hts, hKK, hini, hφ, hφ0, hHs, hbb, hRf, hRl⟩ := I
  change rb_lda ls z (fun x => rb_go len 2 pc ls (x :: st) σ) = some x' at hn
  rcases rb_lda_e hn with ⟨x, hv, hn2⟩ | ⟨hv, hn2⟩
  · obtain ⟨e1, e2⟩ := rb_go_e hn2
    subst e1
    refine ⟨_, e2, ?_⟩
    exact ⟨Nat.le_refl _, Nat.le_refl _, fun _ _ k H locs lr hr hL hl => lv_aload hx hb hd (hl.at hv) (k H locs lr hr hL hl)⟩
  · obtain ⟨e1, e2⟩ := rb_go_e hn2
    subst e1
    refine ⟨_, e2, ?_⟩
    exact ⟨Nat.le_refl _, Nat.le_refl _, fun _ _ k H locs lr hr hL hl => lv_aloadN hx hb hd (hl.at hv) (k H locs lr hr hL hl)⟩
theorem ww_istore_n (I : rb_In p R s m args meth c cc nL o d ini D cA φ base b L xs Hs adV) {z : Fin 4} {pc len : Nat} {ls : rb_L} {st : List Value} {σ : rb_S} {x' : rb_A ⊕ rb_B} (h0 : n0 ≤ σ.2.1) (h1 : s0 ≤ σ.2.2) (hd : decode cc pc = .ok (.istore_n z, len)) (hn : rb_nxt (rb_R d) o ini ret (.ok (.istore_n z, len)) pc ls st σ = some x') : ∃ a' : rb_A, x' = .inl a' ∧ rb_St p l e R s m args below meth c Q D cA φ base L xs Hs n0 s0 nL pc ls st σ a' := by
  obtain ⟨hx, hb, hml, hown, hts, hKK, hini, hφ, hφ0, hHs, hbb, hRf, hRl⟩ := I
  obtain ⟨x, t, rfl, hn2⟩ := rb_pi_e hn
  obtain ⟨ls2, hs, e1, e2⟩ := rb_s1_e hn2
  subst e1
  refine ⟨_, e2, ?_⟩
  exact ⟨Nat.le_refl _, Nat.le_refl _, fun _ _ k H locs lr hr hL hl => lv_istore_n (lv := rb_as φ 0 ls) hx hb hd rfl hl.1 (by have q := (rb_set1_ok hs).1; rw [hl.2] at q; exact q) rfl (fun lr2 hl2 => k H locs lr2 hr hL (rb_LR.set1 hl.2 hs hl2))⟩
theorem ww_istore (I : rb_In p R s m args meth c cc nL o d ini D cA φ base b L xs Hs adV) {z : Nat} {pc len : Nat} {ls : rb_L} {st : List Value} {σ : rb_S} {x' : rb_A ⊕ rb_B} (h0 : n0 ≤ σ.2.1) (h1 : s0 ≤ σ.2.2) (hd : decode cc pc = .ok (.istore z, len)) (hn : rb_nxt (rb_R d) o ini ret (.ok (.istore z, len)) pc ls st σ = some x') : ∃ a' : rb_A, x' = .inl a' ∧ rb_St p l e R s m args below meth c Q D cA φ base L xs Hs n0 s0 nL pc ls st σ a' := by
  obtain ⟨hx, hb, hml, hown, hts, hKK, hini, hφ, hφ0, hHs, hbb, hRf, hRl⟩ := I
  obtain ⟨x, t, rfl, hn2⟩ := rb_pi_e hn
  obtain ⟨ls2, hs, e1, e2⟩ := rb_s1_e hn2
  subst e1
  refine ⟨_, e2, ?_⟩
  exact ⟨Nat.le_refl _, Nat.le_refl _, fun _ _ k H locs lr hr hL hl => lv_istore (lv := rb_as φ 0 ls) hx hb hd hl.1 (by have q := (rb_set1_ok hs).1; rw [hl.2] at q; exact q) rfl (fun lr2 hl2 => k H locs lr2 hr hL (rb_LR.set1 hl.2 hs hl2))⟩
theorem ww_lstore_n (I : rb_In p R s m args meth c cc nL o d ini D cA φ base b L xs Hs adV) {z : Fin 4} {pc len : Nat} {ls : rb_L} {st : List Value} {σ : rb_S} {x' : rb_A ⊕ rb_B} (h0 : n0 ≤ σ.2.1) (h1 : s0 ≤ σ.2.2) (hd : decode cc pc = .ok (.lstore_n z, len)) (hn : rb_nxt (rb_R d) o ini ret (.ok (.lstore_n z, len)) pc ls st σ = some x') : ∃ a' : rb_A, x' = .inl a' ∧ rb_St p l e R s m args below meth c Q D cA φ base L xs Hs n0 s0 nL pc ls st σ a' := by
  obtain ⟨hx, hb, hml, hown, hts, hKK, hini, hφ, hφ0, hHs, hbb, hRf, hRl⟩ := I
  obtain ⟨x, t, rfl, hn2⟩ := rb_pl_e hn
  obtain ⟨ls2, hs, e1, e2⟩ := rb_s1_e hn2
  subst e1
  refine ⟨_, e2, ?_⟩
  exact ⟨Nat.le_refl _, Nat.le_refl _, fun _ _ k H locs lr hr hL hl => lv_lstore_n (lv := rb_as φ 0 ls) hx hb hd rfl hl.1 (by have q := (rb_set2_ok hs).1; rw [hl.2] at q; exact q) rfl (fun lr2 hl2 => k H locs lr2 hr hL (rb_LR.set2 hl.2 hs hl2))⟩
theorem ww_lstore (I : rb_In p R s m args meth c cc nL o d ini D cA φ base b L xs Hs adV) {z : Nat} {pc len : Nat} {ls : rb_L} {st : List Value} {σ : rb_S} {x' : rb_A ⊕ rb_B} (h0 : n0 ≤ σ.2.1) (h1 : s0 ≤ σ.2.2) (hd : decode cc pc = .ok (.lstore z, len)) (hn : rb_nxt (rb_R d) o ini ret (.ok (.lstore z, len)) pc ls st σ = some x') : ∃ a' : rb_A, x' = .inl a' ∧ rb_St p l e R s m args below meth c Q D cA φ base L xs Hs n0 s0 nL pc ls st σ a' := by
  obtain ⟨hx, hb, hml, hown, hts, hKK, hini, hφ, hφ0, hHs, hbb, hRf, hRl⟩ := I
  obtain ⟨x, t, rfl, hn2⟩ := rb_pl_e hn
  obtain ⟨ls2, hs, e1, e2⟩ := rb_s1_e hn2
  subst e1
  refine ⟨_, e2, ?_⟩
  exact ⟨Nat.le_refl _, Nat.le_refl _, fun _ _ k H locs lr hr hL hl => lv_lstore (lv := rb_as φ 0 ls) hx hb hd hl.1 (by have q := (rb_set2_ok hs).1; rw [hl.2] at q; exact q) rfl (fun lr2 hl2 => k H locs lr2 hr hL (rb_LR.set2 hl.2 hs hl2))⟩
theorem ww_astore_n (I : rb_In p R s m args meth c cc nL o d ini D cA φ base b L xs Hs adV) {z : Fin 4} {pc len : Nat} {ls : rb_L} {st : List Value} {σ : rb_S} {x' : rb_A ⊕ rb_B} (h0 : n0 ≤ σ.2.1) (h1 : s0 ≤ σ.2.2) (hd : decode cc pc = .ok (.astore_n z, len)) (hn : rb_nxt (rb_R d) o ini ret (.ok (.astore_n z, len)) pc ls st σ = some x') : ∃ a' : rb_A, x' = .inl a' ∧ rb_St p l e R s m args below meth c Q D cA φ base L xs Hs n0 s0 nL pc ls st σ a' := by
  obtain ⟨hx, hb, hml, hown, hts, hKK, hini, hφ, hφ0, hHs, hbb, hRf, hRl⟩ := I
  obtain ⟨x, t, rfl, hn2⟩ := rb_pr_e hn
  obtain ⟨ls2, hs, e1, e2⟩ := rb_s1_e hn2
  subst e1
  refine ⟨_, e2, ?_⟩
  exact ⟨Nat.le_refl _, Nat.le_refl _, fun _ _ k H locs lr hr hL hl => lv_astore_n (lv := rb_as φ 0 ls) hx hb hd rfl hl.1 (by have q := (rb_set1_ok hs).1; rw [hl.2] at q; exact q) rfl (fun lr2 hl2 => k H locs lr2 hr hL (rb_LR.set1 hl.2 hs hl2))⟩
theorem ww_astore (I : rb_In p R s m args meth c cc nL o d ini D cA φ base b L xs Hs adV) {z : Nat} {pc len : Nat} {ls : rb_L} {st : List Value} {σ : rb_S} {x' : rb_A ⊕ rb_B} (h0 : n0 ≤ σ.2.1) (h1 : s0 ≤ σ.2.2) (hd : decode cc pc = .ok (.astore z, len)) (hn : rb_nxt (rb_R d) o ini ret (.ok (.astore z, len)) pc ls st σ = some x') : ∃ a' : rb_A, x' = .inl a' ∧ rb_St p l e R s m args below meth c Q D cA φ base L xs Hs n0 s0 nL pc ls st σ a' := by
  obtain ⟨hx, hb, hml, hown, hts, hKK, hini, hφ, hφ0, hHs, hbb, hRf, hRl⟩ := I
  obtain ⟨x, t, rfl, hn2⟩ := rb_pr_e hn
  obtain ⟨ls2, hs, e1, e2⟩ := rb_s1_e hn2
  subst e1
  refine ⟨_, e2, ?_⟩
  exact ⟨Nat.le_refl _, Nat.le_refl _, fun _ _ k H locs lr hr hL hl => lv_astore (lv := rb_as φ 0 ls) hx hb hd hl.1 (by have q := (rb_set1_ok hs).1; rw [hl.2] at q; exact q) rfl (fun lr2 hl2 => k H locs lr2 hr hL (rb_LR.set1 hl.2 hs hl2))⟩
theorem ww_iinc (I : rb_In p R s m args meth c cc nL o d ini D cA φ base b L xs Hs adV) {z : Nat} {w : Int} {pc len : Nat} {ls : rb_L} {st : List Value} {σ : rb_S} {x' : rb_A ⊕ rb_B} (h0 : n0 ≤ σ.2.1) (h1 : s0 ≤ σ.2.2) (hd : decode cc pc = .ok (.iinc z w, len)) (hn : rb_nxt (rb_R d) o ini ret (.ok (.iinc z w, len)) pc ls st σ = some x') : ∃ a' : rb_A, x' = .inl a' ∧ rb_St p l e R s m args below meth c Q D cA φ base L xs Hs n0 s0 nL pc ls st σ a' := by
  obtain ⟨hx, hb, hml, hown, hts, hKK, hini, hφ, hφ0, hHs, hbb, hRf, hRl⟩ := I
  obtain ⟨x, hv, hn2⟩ := rb_ldi_e hn
  obtain ⟨ls2, hs, e1, e2⟩ := rb_s1_e hn2
  subst e1
  refine ⟨_, e2, ?_⟩
  obtain ⟨kk, hkk⟩ := List.getElem?_of_mem (rb_LR.mem (φ := φ) hv)
  exact ⟨Nat.le_refl _, Nat.le_refl _, fun _ _ k H locs lr hr hL hl => lv_iinc (lv := rb_as φ 0 ls) hx hb hd hl.1 hkk rfl (by have q := (rb_set1_ok hs).1; rw [hl.2] at q; exact q) rfl (fun lr2 hl2 => k H locs lr2 hr hL (rb_LR.set1 hl.2 hs hl2))⟩
theorem ww_iadd (I : rb_In p R s m args meth c cc nL o d ini D cA φ base b L xs Hs adV) {pc len : Nat} {ls : rb_L} {st : List Value} {σ : rb_S} {x' : rb_A ⊕ rb_B} (h0 : n0 ≤ σ.2.1) (h1 : s0 ≤ σ.2.2) (hd : decode cc pc = .ok (.iadd, len)) (hn : rb_nxt (rb_R d) o ini ret (.ok (.iadd, len)) pc ls st σ = some x') : ∃ a' : rb_A, x' = .inl a' ∧ rb_St p l e R s m args below meth c Q D cA φ base L xs Hs n0 s0 nL pc ls st σ a' := by
  obtain ⟨hx, hb, hml, hown, hts, hKK, hini, hφ, hφ0, hHs, hbb, hRf, hRl⟩ := I
  obtain ⟨x, y, t, rfl, hn2⟩ := rb_ii_e hn
  obtain ⟨e1, e2⟩ := rb_go_e hn2
  subst e1
  refine ⟨_, e2, ?_⟩
  exact ⟨Nat.le_refl _, Nat.le_refl _, fun _ _ k H locs lr hr hL hl => lv_iadd hx hb hd (k H locs lr hr hL hl)⟩
theorem ww_isub (I : rb_In p R s m args meth c cc nL o d ini D cA φ base b L xs Hs adV) {pc len : Nat} {ls : rb_L} {st : List Value} {σ : rb_S} {x' : rb_A ⊕ rb_B} (h0 : n0 ≤ σ.2.1) (h1 : s0 ≤ σ.2.2) (hd : decode cc pc = .ok (.isub, len)) (hn : rb_nxt (rb_R d) o ini ret (.ok (.isub, len)) pc ls st σ = some x') : ∃ a' : rb_A, x' = .inl a' ∧ rb_St p l e R s m args below meth c Q D cA φ base L xs Hs n0 s0 nL pc ls st σ a' := by
  obtain ⟨hx, hb, hml, hown, hts, hKK, hini, hφ, hφ0, hHs, hbb, hRf, hRl⟩ := I
  obtain ⟨x, y, t, rfl, hn2⟩ := rb_ii_e hn
  obtain ⟨e1, e2⟩ := rb_go_e hn2
  subst e1
  refine ⟨_, e2, ?_⟩
  exact ⟨Nat.le_refl _, Nat.le_refl _, fun _ _ k H locs lr hr hL hl => lv_isub hx hb hd (k H locs lr hr hL hl)⟩
theorem ww_imul (I : rb_In p R s m args meth c cc nL o d ini D cA φ base b L xs Hs adV) {pc len : Nat} {ls : rb_L} {st : List Value} {σ : rb_S} {x' : rb_A ⊕ rb_B} (h0 : n0 ≤ σ.2.1) (h1 : s0 ≤ σ.2.2) (hd : decode cc pc = .ok (.imul, len)) (hn : rb_nxt (rb_R d) o ini ret (.ok (.imul, len)) pc ls st σ = some x') : ∃ a' : rb_A, x' = .inl a' ∧ rb_St p l e R s m args below meth c Q D cA φ base L xs Hs n0 s0 nL pc ls st σ a' := by
  obtain ⟨hx, hb, hml, hown, hts, hKK, hini, hφ, hφ0, hHs, hbb, hRf, hRl⟩ := I
  obtain ⟨x, y, t, rfl, hn2⟩ := rb_ii_e hn
  obtain ⟨e1, e2⟩ := rb_go_e hn2
  subst e1
  refine ⟨_, e2, ?_⟩
  exact ⟨Nat.le_refl _, Nat.le_refl _, fun _ _ k H locs lr hr hL hl => lv_imul hx hb hd (k H locs lr hr hL hl)⟩
theorem ww_iand (I : rb_In p R s m args meth c cc nL o d ini D cA φ base b L xs Hs adV) {pc len : Nat} {ls : rb_L} {st : List Value} {σ : rb_S} {x' : rb_A ⊕ rb_B} (h0 : n0 ≤ σ.2.1) (h1 : s0 ≤ σ.2.2) (hd : decode cc pc = .ok (.iand, len)) (hn : rb_nxt (rb_R d) o ini ret (.ok (.iand, len)) pc ls st σ = some x') : ∃ a' : rb_A, x' = .inl a' ∧ rb_St p l e R s m args below meth c Q D cA φ base L xs Hs n0 s0 nL pc ls st σ a' := by
  obtain ⟨hx, hb, hml, hown, hts, hKK, hini, hφ, hφ0, hHs, hbb, hRf, hRl⟩ := I
  obtain ⟨x, y, t, rfl, hn2⟩ := rb_ii_e hn
  obtain ⟨e1, e2⟩ := rb_go_e hn2
  subst e1
  refine ⟨_, e2, ?_⟩
  exact ⟨Nat.le_refl _, Nat.le_refl _, fun _ _ k H locs lr hr hL hl => lv_iand hx hb hd (k H locs lr hr hL hl)⟩
theorem ww_ior (I : rb_In p R s m args meth c cc nL o d ini D cA φ base b L xs Hs adV) {pc len : Nat} {ls : rb_L} {st : List Value} {σ : rb_S} {x' : rb_A ⊕ rb_B} (h0 : n0 ≤ σ.2.1) (h1 : s0 ≤ σ.2.2) (hd : decode cc pc = .ok (.ior, len)) (hn : rb_nxt (rb_R d) o ini ret (.ok (.ior, len)) pc ls st σ = some x') : ∃ a' : rb_A, x' = .inl a' ∧ rb_St p l e R s m args below meth c Q D cA φ base L xs Hs n0 s0 nL pc ls st σ a' := by
  obtain ⟨hx, hb, hml, hown, hts, hKK, hini, hφ, hφ0, hHs, hbb, hRf, hRl⟩ := I
  obtain ⟨x, y, t, rfl, hn2⟩ := rb_ii_e hn
  obtain ⟨e1, e2⟩ := rb_go_e hn2
  subst e1
  refine ⟨_, e2, ?_⟩
  exact ⟨Nat.le_refl _, Nat.le_refl _, fun _ _ k H locs lr hr hL hl => lv_ior hx hb hd (k H locs lr hr hL hl)⟩
theorem ww_ladd (I : rb_In p R s m args meth c cc nL o d ini D cA φ base b L xs Hs adV) {pc len : Nat} {ls : rb_L} {st : List Value} {σ : rb_S} {x' : rb_A ⊕ rb_B} (h0 : n0 ≤ σ.2.1) (h1 : s0 ≤ σ.2.2) (hd : decode cc pc = .ok (.ladd, len)) (hn : rb_nxt (rb_R d) o ini ret (.ok (.ladd, len)) pc ls st σ = some x') : ∃ a' : rb_A, x' = .inl a' ∧ rb_St p l e R s m args below meth c Q D cA φ base L xs Hs n0 s0 nL pc ls st σ a' := by
  obtain ⟨hx, hb, hml, hown, hts, hKK, hini, hφ, hφ0, hHs, hbb, hRf, hRl⟩ := I
  obtain ⟨x, y, t, rfl, hn2⟩ := rb_ll_e hn
  obtain ⟨e1, e2⟩ := rb_go_e hn2
  subst e1
  refine ⟨_, e2, ?_⟩
  exact ⟨Nat.le_refl _, Nat.le_refl _, fun _ _ k H locs lr hr hL hl => lv_ladd hx hb hd (k H locs lr hr hL hl)⟩
theorem ww_lsub (I : rb_In p R s m args meth c cc nL o d ini D cA φ base b L xs Hs adV) {pc len : Nat} {ls : rb_L} {st : List Value} {σ : rb_S} {x' : rb_A ⊕ rb_B} (h0 : n0 ≤ σ.2.1) (h1 : s0 ≤ σ.2.2) (hd : decode cc pc = .ok (.lsub, len)) (hn : rb_nxt (rb_R d) o ini ret (.ok (.lsub, len)) pc ls st σ = some x') : ∃ a' : rb_A, x' = .inl a' ∧ rb_St p l e R s m args below meth c Q D cA φ base L xs Hs n0 s0 nL pc ls st σ a' := by
  obtain ⟨hx, hb, hml, hown, hts, hKK, hini, hφ, hφ0, hHs, hbb, hRf, hRl⟩ := I
  obtain ⟨x, y, t, rfl, hn2⟩ := rb_ll_e hn
  obtain ⟨e1, e2⟩ := rb_go_e hn2
  subst e1
  refine ⟨_, e2, ?_⟩
  exact ⟨Nat.le_refl _, Nat.le_refl _, fun _ _ k H locs lr hr hL hl => lv_lsub hx hb hd (k H locs lr hr hL hl)⟩
theorem ww_lmul (I : rb_In p R s m args meth c cc nL o d ini D cA φ base b L xs Hs adV) {pc len : Nat} {ls : rb_L} {st : List Value} {σ : rb_S} {x' : rb_A ⊕ rb_B} (h0 : n0 ≤ σ.2.1) (h1 : s0 ≤ σ.2.2) (hd : decode cc pc = .ok (.lmul, len)) (hn : rb_nxt (rb_R d) o ini ret (.ok (.lmul, len)) pc ls st σ = some x') : ∃ a' : rb_A, x' = .inl a' ∧ rb_St p l e R s m args below meth c Q D cA φ base L xs Hs n0 s0 nL pc ls st σ a' := by
  obtain ⟨hx, hb, hml, hown, hts, hKK, hini, hφ, hφ0, hHs, hbb, hRf, hRl⟩ := I
  obtain ⟨x, y, t, rfl, hn2⟩ := rb_ll_e hn
  obtain ⟨e1, e2⟩ := rb_go_e hn2
  subst e1
  refine ⟨_, e2, ?_⟩
  exact ⟨Nat.le_refl _, Nat.le_refl _, fun _ _ k H locs lr hr hL hl => lv_lmul hx hb hd (k H locs lr hr hL hl)⟩
theorem ww_lxor (I : rb_In p R s m args meth c cc nL o d ini D cA φ base b L xs Hs adV) {pc len : Nat} {ls : rb_L} {st : List Value} {σ : rb_S} {x' : rb_A ⊕ rb_B} (h0 : n0 ≤ σ.2.1) (h1 : s0 ≤ σ.2.2) (hd : decode cc pc = .ok (.lxor, len)) (hn : rb_nxt (rb_R d) o ini ret (.ok (.lxor, len)) pc ls st σ = some x') : ∃ a' : rb_A, x' = .inl a' ∧ rb_St p l e R s m args below meth c Q D cA φ base L xs Hs n0 s0 nL pc ls st σ a' := by
  obtain ⟨hx, hb, hml, hown, hts, hKK, hini, hφ, hφ0, hHs, hbb, hRf, hRl⟩ := I
  obtain ⟨x, y, t, rfl, hn2⟩ := rb_ll_e hn
  obtain ⟨e1, e2⟩ := rb_go_e hn2
  subst e1
  refine ⟨_, e2, ?_⟩
  exact ⟨Nat.le_refl _, Nat.le_refl _, fun _ _ k H locs lr hr hL hl => lv_lxor hx hb hd (k H locs lr hr hL hl)⟩
theorem ww_lcmp (I : rb_In p R s m args meth c cc nL o d ini D cA φ base b L xs Hs adV) {pc len : Nat} {ls : rb_L} {st : List Value} {σ : rb_S} {x' : rb_A ⊕ rb_B} (h0 : n0 ≤ σ.2.1) (h1 : s0 ≤ σ.2.2) (hd : decode cc pc = .ok (.lcmp, len)) (hn : rb_nxt (rb_R d) o ini ret (.ok (.lcmp, len)) pc ls st σ = some x') : ∃ a' : rb_A, x' = .inl a' ∧ rb_St p l e R s m args below meth c Q D cA φ base L xs Hs n0 s0 nL pc ls st σ a' := by
  obtain ⟨hx, hb, hml, hown, hts, hKK, hini, hφ, hφ0, hHs, hbb, hRf, hRl⟩ := I
  obtain ⟨x, y, t, rfl, hn2⟩ := rb_ll_e hn
  obtain ⟨e1, e2⟩ := rb_go_e hn2
  subst e1
  refine ⟨_, e2, ?_⟩
  exact ⟨Nat.le_refl _, Nat.le_refl _, fun _ _ k H locs lr hr hL hl => W.lcmp hx hb hd (k H locs lr hr hL hl)⟩
theorem ww_idiv (I : rb_In p R s m args meth c cc nL o d ini D cA φ base b L xs Hs adV) {pc len : Nat} {ls : rb_L} {st : List Value} {σ : rb_S} {x' : rb_A ⊕ rb_B} (h0 : n0 ≤ σ.2.1) (h1 : s0 ≤ σ.2.2) (hd : decode cc pc = .ok (.idiv, len)) (hn : rb_nxt (rb_R d) o ini ret (.ok (.idiv, len)) pc ls st σ = some x') : ∃ a' : rb_A, x' = .inl a' ∧ rb_St p l e R s m args below meth c Q D cA φ base L xs Hs n0 s0 nL pc ls st σ a' := by
  obtain ⟨hx, hb, hml, hown, hts, hKK, hini, hφ, hφ0, hHs, hbb, hRf, hRl⟩ := I
  obtain ⟨x, y, t, rfl, hn2⟩ := rb_ii_e hn
  by_cases hy : y = 0
  · rw [if_pos hy] at hn2; cases hn2
  rw [if_neg hy] at hn2
  obtain ⟨e1, e2⟩ := rb_go_e hn2
  subst e1
  refine ⟨_, e2, ?_⟩
  exact ⟨Nat.le_refl _, Nat.le_refl _, fun _ _ k H locs lr hr hL hl => lv_idiv hx hb hd hy (k H locs lr hr hL hl)⟩
theorem ww_irem (I : rb_In p R s m args meth c cc nL o d ini D cA φ base b L xs Hs adV) {pc len : Nat} {ls : rb_L} {st : List Value} {σ : rb_S} {x' : rb_A ⊕ rb_B} (h0 : n0 ≤ σ.2.1) (h1 : s0 ≤ σ.2.2) (hd : decode cc pc = .ok (.irem, len)) (hn : rb_nxt (rb_R d) o ini ret (.ok (.irem, len)) pc ls st σ = some x') : ∃ a' : rb_A, x' = .inl a' ∧ rb_St p l e R s m args below meth c Q D cA φ base L xs Hs n0 s0 nL pc ls st σ a' := by
  obtain ⟨hx, hb, hml, hown, hts, hKK, hini, hφ, hφ0, hHs, hbb, hRf, hRl⟩ := I
  obtain ⟨x, y, t, rfl, hn2⟩ := rb_ii_e hn
  by_cases hy : y = 0
  · rw [if_pos hy] at hn2; cases hn2
  rw [if_neg hy] at hn2
  obtain ⟨e1, e2⟩ := rb_go_e hn2
  subst e1
  refine ⟨_, e2, ?_⟩
  exact ⟨Nat.le_refl _, Nat.le_refl _, fun _ _ k H locs lr hr hL hl => lv_irem hx hb hd hy (k H locs lr hr hL hl)⟩
theorem ww_ldiv (I : rb_In p R s m args meth c cc nL o d ini D cA φ base b L xs Hs adV) {pc len : Nat} {ls : rb_L} {st : List Value} {σ : rb_S} {x' : rb_A ⊕ rb_B} (h0 : n0 ≤ σ.2.1) (h1 : s0 ≤ σ.2.2) (hd : decode cc pc = .ok (.ldiv, len)) (hn : rb_nxt (rb_R d) o ini ret (.ok (.ldiv, len)) pc ls st σ = some x') : ∃ a' : rb_A, x' = .inl a' ∧ rb_St p l e R s m args below meth c Q D cA φ base L xs Hs n0 s0 nL pc ls st σ a' := by
  obtain ⟨hx, hb, hml, hown, hts, hKK, hini, hφ, hφ0, hHs, hbb, hRf, hRl⟩ := I
  obtain ⟨x, y, t, rfl, hn2⟩ := rb_ll_e hn
  by_cases hy : y = 0
  · rw [if_pos hy] at hn2; cases hn2
  rw [if_neg hy] at hn2
  obtain ⟨e1, e2⟩ := rb_go_e hn2
  subst e1
  refine ⟨_, e2, ?_⟩
  exact ⟨Nat.le_refl _, Nat.le_refl _, fun _ _ k H locs lr hr hL hl => lv_ldiv hx hb hd hy (k H locs lr hr hL hl)⟩
theorem ww_ineg (I : rb_In p R s m args meth c cc nL o d ini D cA φ base b L xs Hs adV) {pc len : Nat} {ls : rb_L} {st : List Value} {σ : rb_S} {x' : rb_A ⊕ rb_B} (h0 : n0 ≤ σ.2.1) (h1 : s0 ≤ σ.2.2) (hd : decode cc pc = .ok (.ineg, len)) (hn : rb_nxt (rb_R d) o ini ret (.ok (.ineg, len)) pc ls st σ = some x') : ∃ a' : rb_A, x' = .inl a' ∧ rb_St p l e R s m args below meth c Q D cA φ base L xs Hs n0 s0 nL pc ls st σ a' := by
  obtain ⟨hx, hb, hml, hown, hts, hKK, hini, hφ, hφ0, hHs, hbb, hRf, hRl⟩ := I
  obtain ⟨x, t, rfl, hn2⟩ := rb_pi_e hn
  obtain ⟨e1, e2⟩ := rb_go_e hn2
  subst e1
  refine ⟨_, e2, ?_⟩
  exact ⟨Nat.le_refl _, Nat.le_refl _, fun _ _ k H locs lr hr hL hl => lv_ineg hx hb hd (k H locs lr hr hL hl)⟩
theorem ww_lneg (I : rb_In p R s m args meth c cc nL o d ini D cA φ base b L xs Hs adV) {pc len : Nat} {ls : rb_L} {st : List Value} {σ : rb_S} {x' : rb_A ⊕ rb_B} (h0 : n0 ≤ σ.2.1) (h1 : s0 ≤ σ.2.2) (hd : decode cc pc = .ok (.lneg, len)) (hn : rb_nxt (rb_R d) o ini ret (.ok (.lneg, len)) pc ls st σ = some x') : ∃ a' : rb_A, x' = .inl a' ∧ rb_St p l e R s m args below meth c Q D cA φ base L xs Hs n0 s0 nL pc ls st σ a' := by
  obtain ⟨hx, hb, hml, hown, hts, hKK, hini, hφ, hφ0, hHs, hbb, hRf, hRl⟩ := I
  obtain ⟨x, t, rfl, hn2⟩ := rb_pl_e hn
  obtain ⟨e1, e2⟩ := rb_go_e hn2
  subst e1
  refine ⟨_, e2, ?_⟩
  exact ⟨Nat.le_refl _, Nat.le_refl _, fun _ _ k H locs lr hr hL hl => lv_lneg hx hb hd (k H locs lr hr hL hl)⟩
theorem ww_i2l (I : rb_In p R s m args meth c cc nL o d ini D cA φ base b L xs Hs adV) {pc len : Nat} {ls : rb_L} {st : List Value} {σ : rb_S} {x' : rb_A ⊕ rb_B} (h0 : n0 ≤ σ.2.1) (h1 : s0 ≤ σ.2.2) (hd : decode cc pc = .ok (.i2l, len)) (hn : rb_nxt (rb_R d) o ini ret (.ok (.i2l, len)) pc ls st σ = some x') : ∃ a' : rb_A, x' = .inl a' ∧ rb_St p l e R s m args below meth c Q D cA φ base L xs Hs n0 s0 nL pc ls st σ a' := by
  obtain ⟨hx, hb, hml, hown, hts, hKK, hini, hφ, hφ0, hHs, hbb, hRf, hRl⟩ := I
  obtain ⟨x, t, rfl, hn2⟩ := rb_pi_e hn
  obtain ⟨e1, e2⟩ := rb_go_e hn2
  subst e1
  refine ⟨_, e2, ?_⟩
  exact ⟨Nat.le_refl _, Nat.le_refl _, fun _ _ k H locs lr hr hL hl => lv_i2l hx hb hd rfl (k H locs lr hr hL hl)⟩
theorem ww_l2i (I : rb_In p R s m args meth c cc nL o d ini D cA φ base b L xs Hs adV) {pc len : Nat} {ls : rb_L} {st : List Value} {σ : rb_S} {x' : rb_A ⊕ rb_B} (h0 : n0 ≤ σ.2.1) (h1 : s0 ≤ σ.2.2) (hd : decode cc pc = .ok (.l2i, len)) (hn : rb_nxt (rb_R d) o ini ret (.ok (.l2i, len)) pc ls st σ = some x') : ∃ a' : rb_A, x' = .inl a' ∧ rb_St p l e R s m args below meth c Q D cA φ base L xs Hs n0 s0 nL pc ls st σ a' := by
  obtain ⟨hx, hb, hml, hown, hts, hKK, hini, hφ, hφ0, hHs, hbb, hRf, hRl⟩ := I
  obtain ⟨x, t, rfl, hn2⟩ := rb_pl_e hn
  obtain ⟨e1, e2⟩ := rb_go_e hn2
  subst e1
  refine ⟨_, e2, ?_⟩
  exact ⟨Nat.le_refl _, Nat.le_refl _, fun _ _ k H locs lr hr hL hl => lv_l2i hx hb hd rfl (k H locs lr hr hL hl)⟩
theorem ww_dup (I : rb_In p R s m args meth c cc nL o d ini D cA φ base b L xs Hs adV) {pc len : Nat} {ls : rb_L} {st : List Value} {σ : rb_S} {x' : rb_A ⊕ rb_B} (h0 : n0 ≤ σ.2.1) (h1 : s0 ≤ σ.2.2) (hd : decode cc pc = .ok (.dup, len)) (hn : rb_nxt (rb_R d) o ini ret (.ok (.dup, len)) pc ls st σ = some x') : ∃ a' : rb_A, x' = .inl a' ∧ rb_St p l e R s m args below meth c Q D cA φ base L xs Hs n0 s0 nL pc ls st σ a' := by
  obtain ⟨hx, hb, hml, hown, hts, hKK, hini, hφ, hφ0, hHs, hbb, hRf, hRl⟩ := I
  cases st with
  | nil => cases hn
  | cons v t =>
    change (if v.category = 1 then rb_go len 1 pc ls (v :: v :: t) σ else none) = some x' at hn
    by_cases hc : v.category = 1
    · rw [if_pos hc] at hn
      obtain ⟨e1, e2⟩ := rb_go_e hn
      subst e1
      refine ⟨_, e2, ?_⟩
      exact ⟨Nat.le_refl _, Nat.le_refl _, fun _ _ k H locs lr hr hL hl => lv_dup hx hb hd ((rb_cv_cat v).trans hc) (k H locs lr hr hL hl)⟩
    · rw [if_neg hc] at hn; cases hn
theorem ww_pop (I : rb_In p R s m args meth c cc nL o d ini D cA φ base b L xs Hs adV) {pc len : Nat} {ls : rb_L} {st : List Value} {σ : rb_S} {x' : rb_A ⊕ rb_B} (h0 : n0 ≤ σ.2.1) (h1 : s0 ≤ σ.2.2) (hd : decode cc pc = .ok (.pop, len)) (hn : rb_nxt (rb_R d) o ini ret (.ok (.pop, len)) pc ls st σ = some x') : ∃ a' : rb_A, x' = .inl a' ∧ rb_St p l e R s m args below meth c Q D cA φ base L xs Hs n0 s0 nL pc ls st σ a' := by
  obtain ⟨hx, hb, hml, hown, hts, hKK, hini, hφ, hφ0, hHs, hbb, hRf, hRl⟩ := I
  cases st with
  | nil => cases hn
  | cons v t =>
    change (if v.category = 1 then rb_go len 1 pc ls t σ else none) = some x' at hn
    by_cases hc : v.category = 1
    · rw [if_pos hc] at hn
      obtain ⟨e1, e2⟩ := rb_go_e hn
      subst e1
      refine ⟨_, e2, ?_⟩
      exact ⟨Nat.le_refl _, Nat.le_refl _, fun _ _ k H locs lr hr hL hl => lv_pop hx hb hd ((rb_cv_cat v).trans hc) (k H locs lr hr hL hl)⟩
    · rw [if_neg hc] at hn; cases hn
theorem ww_dup2 (I : rb_In p R s m args meth c cc nL o d ini D cA φ base b L xs Hs adV) {pc len : Nat} {ls : rb_L} {st : List Value} {σ : rb_S} {x' : rb_A ⊕ rb_B} (h0 : n0 ≤ σ.2.1) (h1 : s0 ≤ σ.2.2) (hd : decode cc pc = .ok (.dup2, len)) (hn : rb_nxt (rb_R d) o ini ret (.ok (.dup2, len)) pc ls st σ = some x') : ∃ a' : rb_A, x' = .inl a' ∧ rb_St p l e R s m args below meth c Q D cA φ base L xs Hs n0 s0 nL pc ls st σ a' := by
  obtain ⟨hx, hb, hml, hown, hts, hKK, hini, hφ, hφ0, hHs, hbb, hRf, hRl⟩ := I
  cases st with
  | nil => cases hn
  | cons v t =>
    cases t with
    | nil => cases hn
    | cons w t =>
      change (if v.category = 1 ∧ w.category = 1 then rb_go len 1 pc ls (v :: w :: v :: w :: t) σ else none) = some x' at hn
      by_cases hc : v.category = 1 ∧ w.category = 1
      · rw [if_pos hc] at hn
        obtain ⟨e1, e2⟩ := rb_go_e hn
        subst e1
        refine ⟨_, e2, ?_⟩
        exact ⟨Nat.le_refl _, Nat.le_refl _, fun _ _ k H locs lr hr hL hl => lv_dup2_11 hx hb hd ((rb_cv_cat v).trans hc.1) ((rb_cv_cat w).trans hc.2) (k H locs lr hr hL hl)⟩
      · rw [if_neg hc] at hn; cases hn
theorem ww_ifCond (I : rb_In p R s m args meth c cc nL o d ini D cA φ base b L xs Hs adV) {cnd : Jvm.ClassFile.Cond} {off : Int} {pc len : Nat} {ls : rb_L} {st : List Value} {σ : rb_S} {x' : rb_A ⊕ rb_B} (h0 : n0 ≤ σ.2.1) (h1 : s0 ≤ σ.2.2) (hd : decode cc pc = .ok (.ifCond cnd off, len)) (hn : rb_nxt (rb_R d) o ini ret (.ok (.ifCond cnd off, len)) pc ls st σ = some x') : ∃ a' : rb_A, x' = .inl a' ∧ rb_St p l e R s m args below meth c Q D cA φ base L xs Hs n0 s0 nL pc ls st σ a' := by
  obtain ⟨hx, hb, hml, hown, hts, hKK, hini, hφ, hφ0, hHs, hbb, hRf, hRl⟩ := I
  obtain ⟨x, t, rfl, hn2⟩ := rb_pi_e hn
  cases cnd with
  | eq =>
    change (if x = 0 then rb_j len pc off ls t σ else rb_go len 3 pc ls t σ) = some x' at hn2
    by_cases hc : x = 0
    · rw [if_pos hc] at hn2
      obtain ⟨e1, tg, ht, e2⟩ := rb_j_e hn2
      subst e1
      refine ⟨_, e2, ?_⟩
      exact ⟨Nat.le_refl _, Nat.le_refl _, fun _ _ k H locs lr hr hL hl => lv_if_eq hx hb hd ht (fun _ => k H locs lr hr hL hl) (fun z => absurd hc z)⟩
    · rw [if_neg hc] at hn2
      obtain ⟨e1, e2⟩ := rb_go_e hn2
      subst e1
      refine ⟨_, e2, ?_⟩
      exact ⟨Nat.le_refl _, Nat.le_refl _, fun _ _ k H locs lr hr hL hl => rb_ifF hx hb hd (by simp [Op.ifCond.holds, hc]) (k H locs lr hr hL hl)⟩
  | ne =>
    change (if x = 0 then rb_go len 3 pc ls t σ else rb_j len pc off ls t σ) = some x' at hn2
    by_cases hc : x = 0
    · rw [if_pos hc] at hn2
      obtain ⟨e1, e2⟩ := rb_go_e hn2
      subst e1
      refine ⟨_, e2, ?_⟩
      exact ⟨Nat.le_refl _, Nat.le_refl _, fun _ _ k H locs lr hr hL hl => rb_ifF hx hb hd (by simp [Op.ifCond.holds, hc]) (k H locs lr hr hL hl)⟩
    · rw [if_neg hc] at hn2
      obtain ⟨e1, tg, ht, e2⟩ := rb_j_e hn2
      subst e1
      refine ⟨_, e2, ?_⟩
      exact ⟨Nat.le_refl _, Nat.le_refl _, fun _ _ k H locs lr hr hL hl => lv_if_ne hx hb hd ht (fun _ => k H locs lr hr hL hl) (fun z => absurd z hc)⟩
  | lt =>
    change (if x < 0 then rb_j len pc off ls t σ else rb_go len 3 pc ls t σ) = some x' at hn2
    by_cases hc : x < 0
    · rw [if_pos hc] at hn2
      obtain ⟨e1, tg, ht, e2⟩ := rb_j_e hn2
      subst e1
      refine ⟨_, e2, ?_⟩
      exact ⟨Nat.le_refl _, Nat.le_refl _, fun _ _ k H locs lr hr hL hl => lv_if_lt hx hb hd ht (fun _ => k H locs lr hr hL hl) (fun z => absurd hc z)⟩
    · rw [if_neg hc] at hn2
      obtain ⟨e1, e2⟩ := rb_go_e hn2
      subst e1
      refine ⟨_, e2, ?_⟩
      exact ⟨Nat.le_refl _, Nat.le_refl _, fun _ _ k H locs lr hr hL hl => rb_ifF hx hb hd (by simp [Op.ifCond.holds, hc]) (k H locs lr hr hL hl)⟩
  | ge =>
    change (if 0 ≤ x then rb_j len pc off ls t σ else rb_go len 3 pc ls t σ) = some x' at hn2
    by_cases hc : 0 ≤ x
    · rw [if_pos hc] at hn2
      obtain ⟨e1, tg, ht, e2⟩ := rb_j_e hn2
      subst e1
      refine ⟨_, e2, ?_⟩
      exact ⟨Nat.le_refl _, Nat.le_refl _, fun _ _ k H locs lr hr hL hl => lv_if_ge hx hb hd ht (fun _ => k H locs lr hr hL hl) (fun z => absurd hc z)⟩
    · rw [if_neg hc] at hn2
      obtain ⟨e1, e2⟩ := rb_go_e hn2
      subst e1
      refine ⟨_, e2, ?_⟩
      exact ⟨Nat.le_refl _, Nat.le_refl _, fun _ _ k H locs lr hr hL hl => rb_ifF hx hb hd (by simp [Op.ifCond.holds, hc]) (k H locs lr hr hL hl)⟩
  | gt =>
    change (if 0 < x then rb_j len pc off ls t σ else rb_go len 3 pc ls t σ) = some x' at hn2
    by_cases hc : 0 < x
    · rw [if_pos hc] at hn2
      obtain ⟨e1, tg, ht, e2⟩ := rb_j_e hn2
      subst e1
      refine ⟨_, e2, ?_⟩
      exact ⟨Nat.le_refl _, Nat.le_refl _, fun _ _ k H locs lr hr hL hl => lv_if_gt hx hb hd ht (fun _ => k H locs lr hr hL hl) (fun z => absurd hc z)⟩
    · rw [if_neg hc] at hn2
      obtain ⟨e1, e2⟩ := rb_go_e hn2
      subst e1
      refine ⟨_, e2, ?_⟩
      exact ⟨Nat.le_refl _, Nat.le_refl _, fun _ _ k H locs lr hr hL hl => rb_ifF hx hb hd (by simp [Op.ifCond.holds, hc]) (k H locs lr hr hL hl)⟩
  | le =>
    change (if x ≤ 0 then rb_j len pc off ls t σ else rb_go len 3 pc ls t σ) = some x' at hn2
    by_cases hc : x ≤ 0
    · rw [if_pos hc] at hn2
      obtain ⟨e1, tg, ht, e2⟩ := rb_j_e hn2
      subst e1
      refine ⟨_, e2, ?_⟩
      exact ⟨Nat.le_refl _, Nat.le_refl _, fun _ _ k H locs lr hr hL hl => lv_if_le hx hb hd ht (fun _ => k H locs lr hr hL hl) (fun z => absurd hc z)⟩
    · rw [if_neg hc] at hn2
      obtain ⟨e1, e2⟩ := rb_go_e hn2
      subst e1
      refine ⟨_, e2, ?_⟩
      exact ⟨Nat.le_refl _, Nat.le_refl _, fun _ _ k H locs lr hr hL hl => rb_ifF hx hb hd (by simp [Op.ifCond.holds, hc]) (k H locs lr hr hL hl)⟩
theorem ww_if_icmp (I : rb_In p R s m args meth c cc nL o d ini D cA φ base b L xs Hs adV) {cnd : Jvm.ClassFile.Cond} {off : Int} {pc len : Nat} {ls : rb_L} {st : List Value} {σ : rb_S} {x' : rb_A ⊕ rb_B} (h0 : n0 ≤ σ.2.1) (h1 : s0 ≤ σ.2.2) (hd : decode cc pc = .ok (.if_icmp cnd off, len)) (hn : rb_nxt (rb_R d) o ini ret (.ok (.if_icmp cnd off, len)) pc ls st σ = some x') : ∃ a' : rb_A, x' = .inl a' ∧ rb_St p l e R s m args below meth c Q D cA φ base L xs Hs n0 s0 nL pc ls st σ a' := by
  obtain ⟨hx, hb, hml, hown, hts, hKK, hini, hφ, hφ0, hHs, hbb, hRf, hRl⟩ := I
  obtain ⟨x, y, t, rfl, hn2⟩ := rb_ii_e hn
  cases cnd with
  | eq =>
    change (if x = y then rb_j len pc off ls t σ else rb_go len 3 pc ls t σ) = some x' at hn2
    by_cases hc : x = y
    · rw [if_pos hc] at hn2
      obtain ⟨e1, tg, ht, e2⟩ := rb_j_e hn2
      subst e1
      refine ⟨_, e2, ?_⟩
      exact ⟨Nat.le_refl _, Nat.le_refl _, fun _ _ k H locs lr hr hL hl => lv_icmp_eq hx hb hd ht (fun _ => k H locs lr hr hL hl) (fun z => absurd hc z)⟩
    · rw [if_neg hc] at hn2
      obtain ⟨e1, e2⟩ := rb_go_e hn2
      subst e1
      refine ⟨_, e2, ?_⟩
      exact ⟨Nat.le_refl _, Nat.le_refl _, fun _ _ k H locs lr hr hL hl => rb_icF hx hb hd (by simp [Op.if_icmp.holds, hc]) (k H locs lr hr hL hl)⟩
  | ne =>
    change (if x = y then rb_go len 3 pc ls t σ else rb_j len pc off ls t σ) = some x' at hn2
    by_cases hc : x = y
    · rw [if_pos hc] at hn2
      obtain ⟨e1, e2⟩ := rb_go_e hn2
      subst e1
      refine ⟨_, e2, ?_⟩
      exact ⟨Nat.le_refl _, Nat.le_refl _, fun _ _ k H locs lr hr hL hl => rb_icF hx hb hd (by simp [Op.if_icmp.holds, hc]) (k H locs lr hr hL hl)⟩
    · rw [if_neg hc] at hn2
      obtain ⟨e1, tg, ht, e2⟩ := rb_j_e hn2
      subst e1
      refine ⟨_, e2, ?_⟩
      exact ⟨Nat.le_refl _, Nat.le_refl _, fun _ _ k H locs lr hr hL hl => lv_icmp_ne hx hb hd ht (fun _ => k H locs lr hr hL hl) (fun z => absurd z hc)⟩
  | lt =>
    change (if x < y then rb_j len pc off ls t σ else rb_go len 3 pc ls t σ) = some x' at hn2
    by_cases hc : x < y
    · rw [if_pos hc] at hn2
      obtain ⟨e1, tg, ht, e2⟩ := rb_j_e hn2
      subst e1
      refine ⟨_, e2, ?_⟩
      exact ⟨Nat.le_refl _, Nat.le_refl _, fun _ _ k H locs lr hr hL hl => lv_icmp_lt hx hb hd ht (fun _ => k H locs lr hr hL hl) (fun z => absurd hc z)⟩
    · rw [if_neg hc] at hn2
      obtain ⟨e1, e2⟩ := rb_go_e hn2
      subst e1
      refine ⟨_, e2, ?_⟩
      exact ⟨Nat.le_refl _, Nat.le_refl _, fun _ _ k H locs lr hr hL hl => rb_icF hx hb hd (by simp [Op.if_icmp.holds, hc]) (k H locs lr hr hL hl)⟩
  | ge =>
    change (if y ≤ x then rb_j len pc off ls t σ else rb_go len 3 pc ls t σ) = some x' at hn2
    by_cases hc : y ≤ x
    · rw [if_pos hc] at hn2
      obtain ⟨e1, tg, ht, e2⟩ := rb_j_e hn2
      subst e1
      refine ⟨_, e2, ?_⟩
      exact ⟨Nat.le_refl _, Nat.le_refl _, fun _ _ k H locs lr hr hL hl => lv_icmp_ge hx hb hd ht (fun _ => k H locs lr hr hL hl) (fun z => absurd hc z)⟩
    · rw [if_neg hc] at hn2
      obtain ⟨e1, e2⟩ := rb_go_e hn2
      subst e1
      refine ⟨_, e2, ?_⟩
      exact ⟨Nat.le_refl _, Nat.le_refl _, fun _ _ k H locs lr hr hL hl => rb_icF hx hb hd (by simp [Op.if_icmp.holds, hc]) (k H locs lr hr hL hl)⟩
  | gt =>
    change (if y < x then rb_j len pc off ls t σ else rb_go len 3 pc ls t σ) = some x' at hn2
    by_cases hc : y < x
    · rw [if_pos hc] at hn2
      obtain ⟨e1, tg, ht, e2⟩ := rb_j_e hn2
      subst e1
      refine ⟨_, e2, ?_⟩
      exact ⟨Nat.le_refl _, Nat.le_refl _, fun _ _ k H locs lr hr hL hl => lv_icmp_gt hx hb hd ht (fun _ => k H locs lr hr hL hl) (fun z => absurd hc z)⟩
    · rw [if_neg hc] at hn2
      obtain ⟨e1, e2⟩ := rb_go_e hn2
      subst e1
      refine ⟨_, e2, ?_⟩
      exact ⟨Nat.le_refl _, Nat.le_refl _, fun _ _ k H locs lr hr hL hl => rb_icF hx hb hd (by simp [Op.if_icmp.holds, hc]) (k H locs lr hr hL hl)⟩
  | le =>
    change (if x ≤ y then rb_j len pc off ls t σ else rb_go len 3 pc ls t σ) = some x' at hn2
    by_cases hc : x ≤ y
    · rw [if_pos hc] at hn2
      obtain ⟨e1, tg, ht, e2⟩ := rb_j_e hn2
      subst e1
      refine ⟨_, e2, ?_⟩
      exact ⟨Nat.le_refl _, Nat.le_refl _, fun _ _ k H locs lr hr hL hl => lv_icmp_le hx hb hd ht (fun _ => k H locs lr hr hL hl) (fun z => absurd hc z)⟩
    · rw [if_neg hc] at hn2
      obtain ⟨e1, e2⟩ := rb_go_e hn2
      subst e1
      refine ⟨_, e2, ?_⟩
      exact ⟨Nat.le_refl _, Nat.le_refl _, fun _ _ k H locs lr hr hL hl => rb_icF hx hb hd (by simp [Op.if_icmp.holds, hc]) (k H locs lr hr hL hl)⟩
theorem ww_goto (I : rb_In p R s m args meth c cc nL o d ini D cA φ base b L xs Hs adV) {off : Int} {pc len : Nat} {ls : rb_L} {st : List Value} {σ : rb_S} {x' : rb_A ⊕ rb_B} (h0 : n0 ≤ σ.2.1) (h1 : s0 ≤ σ.2.2) (hd : decode cc pc = .ok (.goto off, len)) (hn : rb_nxt (rb_R d) o ini ret (.ok (.goto off, len)) pc ls st σ = some x') : ∃ a' : rb_A, x' = .inl a' ∧ rb_St p l e R s m args below meth c Q D cA φ base L xs Hs n0 s0 nL pc ls st σ a' := by
  obtain ⟨hx, hb, hml, hown, hts, hKK, hini, hφ, hφ0, hHs, hbb, hRf, hRl⟩ := I
  obtain ⟨e1, tg, ht, e2⟩ := rb_j_e hn
  subst e1
  refine ⟨_, e2, ?_⟩
  exact ⟨Nat.le_refl _, Nat.le_refl _, fun _ _ k H locs lr hr hL hl => lv_goto hx hb hd ht (k H locs lr hr hL hl)⟩
theorem ww_ifnull (I : rb_In p R s m args meth c cc nL o d ini D cA φ base b L xs Hs adV) {off : Int} {pc len : Nat} {ls : rb_L} {st : List Value} {σ : rb_S} {x' : rb_A ⊕ rb_B} (h0 : n0 ≤ σ.2.1) (h1 : s0 ≤ σ.2.2) (hd : decode cc pc = .ok (.ifnull off, len)) (hn : rb_nxt (rb_R d) o ini ret (.ok (.ifnull off, len)) pc ls st σ = some x') : ∃ a' : rb_A, x' = .inl a' ∧ rb_St p l e R s m args below meth c Q D cA φ base L xs Hs n0 s0 nL pc ls st σ a' := by
  obtain ⟨hx, hb, hml, hown, hts, hKK, hini, hφ, hφ0, hHs, hbb, hRf, hRl⟩ := I
  change rb_pa st (fun v t => (match v with
      | .null => rb_j len pc off ls t σ
      | _ => rb_go len 3 pc ls t σ)) = some x' at hn
  obtain ⟨t, ⟨x, rfl, hn2⟩ | ⟨rfl, hn2⟩⟩ := rb_pa_e hn
  · obtain ⟨e1, e2⟩ := rb_go_e hn2
    subst e1
    refine ⟨_, e2, ?_⟩
    exact ⟨Nat.le_refl _, Nat.le_refl _, fun _ _ k H locs lr hr hL hl => lv_ifnull hx hb hd (k H locs lr hr hL hl)⟩
  · obtain ⟨e1, tg, ht, e2⟩ := rb_j_e hn2
    subst e1
    refine ⟨_, e2, ?_⟩
    exact ⟨Nat.le_refl _, Nat.le_refl _, fun _ _ k H locs lr hr hL hl => lv_ifnullN hx hb hd ht (k H locs lr hr hL hl)⟩
theorem ww_ifnonnull (I : rb_In p R s m args meth c cc nL o d ini D cA φ base b L xs Hs adV) {off : Int} {pc len : Nat} {ls : rb_L} {st : List Value} {σ : rb_S} {x' : rb_A ⊕ rb_B} (h0 : n0 ≤ σ.2.1) (h1 : s0 ≤ σ.2.2) (hd : decode cc pc = .ok (.ifnonnull off, len)) (hn : rb_nxt (rb_R d) o ini ret (.ok (.ifnonnull off, len)) pc ls st σ = some x') : ∃ a' : rb_A, x' = .inl a' ∧ rb_St p l e R s m args below meth c Q D cA φ base L xs Hs n0 s0 nL pc ls st σ a' := by
  obtain ⟨hx, hb, hml, hown, hts, hKK, hini, hφ, hφ0, hHs, hbb, hRf, hRl⟩ := I
  change rb_pa st (fun v t => (match v with
      | .null => rb_go len 3 pc ls t σ
      | _ => rb_j len pc off ls t σ)) = some x' at hn
  obtain ⟨t, ⟨x, rfl, hn2⟩ | ⟨rfl, hn2⟩⟩ := rb_pa_e hn
  · obtain ⟨e1, tg, ht, e2⟩ := rb_j_e hn2
    subst e1
    refine ⟨_, e2, ?_⟩
    exact ⟨Nat.le_refl _, Nat.le_refl _, fun _ _ k H locs lr hr hL hl => lv_ifnonnull hx hb hd ht (k H locs lr hr hL hl)⟩
  · obtain ⟨e1, e2⟩ := rb_go_e hn2
    subst e1
    refine ⟨_, e2, ?_⟩
    exact ⟨Nat.le_refl _, Nat.le_refl _, fun _ _ k H locs lr hr hL hl => lv_ifnonnullN hx hb hd (k H locs lr hr hL hl)⟩
theorem ww_tableswitch (I : rb_In p R s m args meth c cc nL o d ini D cA φ base b L xs Hs adV) {df lo hi : Int} {offs : Array Int} {pc len : Nat} {ls : rb_L} {st : List Value} {σ : rb_S} {x' : rb_A ⊕ rb_B} (h0 : n0 ≤ σ.2.1) (h1 : s0 ≤ σ.2.2) (hd : decode cc pc = .ok (.tableswitch df lo hi offs, len)) (hn : rb_nxt (rb_R d) o ini ret (.ok (.tableswitch df lo hi offs, len)) pc ls st σ = some x') : ∃ a' : rb_A, x' = .inl a' ∧ rb_St p l e R s m args below meth c Q D cA φ base L xs Hs n0 s0 nL pc ls st σ a' := by
  obtain ⟨hx, hb, hml, hown, hts, hKK, hini, hφ, hφ0, hHs, hbb, hRf, hRl⟩ := I
  obtain ⟨x, t, rfl, hn2⟩ := rb_pi_e hn
  by_cases hc : x.toInt < lo ∨ hi < x.toInt
  · rw [if_pos hc] at hn2
    obtain ⟨tg, ht, e2⟩ := rb_jp_e hn2
    refine ⟨_, e2, ?_⟩
    exact ⟨Nat.le_refl _, Nat.le_refl _, fun _ _ k H locs lr hr hL hl => lv_tableOut hx hb hd hc ht (k H locs lr hr hL hl)⟩
  · rw [if_neg hc] at hn2
    cases ho : offs[(x.toInt - lo).toNat]? with
    | none => rw [ho] at hn2; cases hn2
    | some off =>
      rw [ho] at hn2
      obtain ⟨tg, ht, e2⟩ := rb_jp_e hn2
      refine ⟨_, e2, ?_⟩
      exact ⟨Nat.le_refl _, Nat.le_refl _, fun _ _ k H locs lr hr hL hl => lv_tableIn hx hb hd (fun z => hc (Or.inl z)) (fun z => hc (Or.inr z)) ho ht (k H locs lr hr hL hl)⟩
theorem ww_getfield (I : rb_In p R s m args meth c cc nL o d ini D cA φ base b L xs Hs adV) {i : Nat} {pc len : Nat} {ls : rb_L} {st : List Value} {σ : rb_S} {x' : rb_A ⊕ rb_B} (h0 : n0 ≤ σ.2.1) (h1 : s0 ≤ σ.2.2) (hd : decode cc pc = .ok (.getfield i, len)) (hn : rb_nxt (rb_R d) o ini ret (.ok (.getfield i, len)) pc ls st σ = some x') : ∃ a' : rb_A, x' = .inl a' ∧ rb_St p l e R s m args below meth c Q D cA φ base L xs Hs n0 s0 nL pc ls st σ a' := by
  obtain ⟨hx, hb, hml, hown, hts, hKK, hini, hφ, hφ0, hHs, hbb, hRf, hRl⟩ := I
  change (match rb_fld o i with
      | some (ci, k, _) => rb_pr st fun a t => rb_obj σ a ci fun fs => (match fs[k]? with
        | some v => rb_go len 3 pc ls (v :: t) σ
        | none => none)
      | none => none) = some x' at hn
  cases hf : rb_fld o i with
  | none => rw [hf] at hn; cases hn
  | some q =>
    obtain ⟨ci, k, fin, ty, w⟩ := q
    rw [hf] at hn
    obtain ⟨a, t, rfl, hn2⟩ := rb_pr_e hn
    obtain ⟨fs, hcell, hn3⟩ := rb_obj_e hn2
    cases hv : fs[k]? with
    | none => rw [hv] at hn3; cases hn3
    | some v =>
      rw [hv] at hn3
      obtain ⟨e1, e2⟩ := rb_go_e hn3
      subst e1
      refine ⟨_, e2, ?_⟩
      obtain ⟨C, T, N, hc, hk, hfin, hty, hlk, -⟩ := rb_fld_ok hf
      obtain ⟨hin, -⟩ := rb_clf ci C T N hc
      refine ⟨Nat.le_refl _, Nat.le_refl _, fun _ _ kk H locs lr hr hL hl => ?_⟩
      obtain ⟨-, -, hat, -⟩ := hr.dyn hcell (by intro z; cases z)
      exact va_get (D := D) (ci := ci) (v := rb_cv φ v) (C := C) (T := T) (N := N) hx hb hts hin hown hKK.1 (rb_sing hat) 0 rfl hc k hk (hts _ hlk) (fun _ h => h) (by rw [List.getElem?_map, hv]; rfl) hd (kk H locs lr hr hL hl)
theorem ww_putfield (I : rb_In p R s m args meth c cc nL o d ini D cA φ base b L xs Hs adV) {i : Nat} {pc len : Nat} {ls : rb_L} {st : List Value} {σ : rb_S} {x' : rb_A ⊕ rb_B} (h0 : n0 ≤ σ.2.1) (h1 : s0 ≤ σ.2.2) (hd : decode cc pc = .ok (.putfield i, len)) (hn : rb_nxt (rb_R d) o ini ret (.ok (.putfield i, len)) pc ls st σ = some x') : ∃ a' : rb_A, x' = .inl a' ∧ rb_St p l e R s m args below meth c Q D cA φ base L xs Hs n0 s0 nL pc ls st σ a' := by
  obtain ⟨hx, hb, hml, hown, hts, hKK, hini, hφ, hφ0, hHs, hbb, hRf, hRl⟩ := I
  change (match rb_fld o i with
      | some (ci, k, fin, ty, _) => (match (generalizing := false) st with
        | v :: .ref a :: t => rb_obj σ a ci fun fs => if k < fs.length ∧ rb_tyok ty v = true ∧ (fin = false ∨ ini = true) then rb_go len 3 pc ls t (rb_wr σ a (.inr (ci, fs.set k v))) else none
        | _ => none)
      | none => none) = some x' at hn
  cases hf : rb_fld o i with
  | none => rw [hf] at hn; cases hn
  | some q =>
    obtain ⟨ci, k, fin, ty, w⟩ := q
    rw [hf] at hn
    dsimp only at hn
    split at hn
    rotate_left
    · cases hn
    rename_i v a t
    obtain ⟨fs, hcell, hn3⟩ := rb_obj_e hn
    by_cases hcd : k < fs.length ∧ rb_tyok ty v = true ∧ (fin = false ∨ ini = true)
    rotate_left
    · rw [if_neg hcd] at hn3; cases hn3
    rw [if_pos hcd] at hn3
    obtain ⟨e1, e2⟩ := rb_go_e hn3
    subst e1
    refine ⟨_, e2, ?_⟩
    obtain ⟨hl1, hl2, hl3⟩ := hcd
    obtain ⟨C, T, N, hc, hk, hfin, hty, hlk, hdc⟩ := rb_fld_ok hf
    obtain ⟨hin, hty0, hnm, -⟩ := rb_clf ci C T N hc
    obtain ⟨hnr, hft⟩ := rb_tyok_ok (φ := φ) hl2
    refine ⟨Nat.le_refl _, Nat.le_refl _, fun _ _ kk H locs lr hr hL hl => ?_⟩
    obtain ⟨ha1, ha2, hat, -⟩ := hr.dyn hcell (by intro z; cases z)
    refine rb_put (D := D) (C := C) (T := T) (N := N) hx hb hts hin (rb_tyF ci) hty0 hnm hown hKK.1 hat hc hk (hts _ hlk) ?_ hty hnr hft (by rw [List.length_map]; exact hl1) hd (fun H1 j g1 g2 g3 => kk H1 (locs ++ [⟨φ a, j⟩]) lr (hr.wr hφ ha1 ha2 ?_ (fun n g z => by cases z) g2 g3) (fun q hq => ?_) hl)
    · by_cases hff : fin = true
      · right
        refine ⟨hdc hff, hini ?_, hfin.trans hff⟩
        rcases hl3 with h | h
        · rw [h] at hff; cases hff
        · exact h
      · left
        rw [hfin]
        cases fin
        · rfl
        · exact absurd rfl hff
    · have e9 : rb_ce φ cA (.inr (ci, fs.set k v)) = .inr (ci, (fs.map (rb_cv φ)).set k (rb_cv φ v)) := by
        show Sum.inr (ci, (fs.set k v).map (rb_cv φ)) = _
        rw [List.map_set]
      rw [e9]
      exact g1
    · rcases List.mem_append.mp hq with h | h
      · exact hL q h
      · rw [List.mem_singleton.mp h, hφ a ha1]
        exact Nat.le_add_right _ _
theorem ww_iaload (I : rb_In p R s m args meth c cc nL o d ini D cA φ base b L xs Hs adV) {pc len : Nat} {ls : rb_L} {st : List Value} {σ : rb_S} {x' : rb_A ⊕ rb_B} (h0 : n0 ≤ σ.2.1) (h1 : s0 ≤ σ.2.2) (hd : decode cc pc = .ok (.iaload, len)) (hn : rb_nxt (rb_R d) o ini ret (.ok (.iaload, len)) pc ls st σ = some x') : ∃ a' : rb_A, x' = .inl a' ∧ rb_St p l e R s m args below meth c Q D cA φ base L xs Hs n0 s0 nL pc ls st σ a' := by
  obtain ⟨hx, hb, hml, hown, hts, hKK, hini, hφ, hφ0, hHs, hbb, hRf, hRl⟩ := I
  change (match (generalizing := false) st with
      | .int i :: .ref a :: t => rb_arI σ a fun tg n g => if (tg = 0 ∨ tg = 9) ∧ rb_in i n = true then rb_go len 1 pc ls (.int (g i.toNatClampNeg) :: t) σ else none
      | _ => none) = some x' at hn
  split at hn
  rotate_left
  · cases hn
  rename_i i a t
  obtain ⟨tg, n, g, hcell, hn2⟩ := rb_arI_e hn
  by_cases hc : (tg = 0 ∨ tg = 9) ∧ rb_in i n = true
  rotate_left
  · rw [if_neg hc] at hn2; cases hn2
  rw [if_pos hc] at hn2
  obtain ⟨e1, e2⟩ := rb_go_e hn2
  subst e1
  refine ⟨_, e2, ?_⟩
  obtain ⟨htg, hin⟩ := hc
  refine ⟨Nat.le_refl _, Nat.le_refl _, fun _ _ kk H locs lr hr hL hl => ?_⟩
  rcases htg with rfl | rfl
  · obtain ⟨-, -, hat, -⟩ := hr.dyn hcell (by intro z; cases z)
    exact va_iald hx hb hKK.1 (rb_sing hat) 0 0 rfl rfl (rb_in_ok hin) hd (kk H locs lr hr hL hl)
  · rcases hr.2.2.2 a _ hcell with ⟨q1, q2⟩ | ⟨-, -, -, q⟩
    · cases q2
      subst q1
      show W p l e R s m args below meth c H locs _ _ Q (F0 m pc lr (.int i :: .ref (φ 0) :: t.map (rb_cv φ)))
      rw [hφ0]
      exact va_sld (A := fun q => base ≤ q) hx hb hKK.2.1 (by rw [hHs]; exact hbb) (Nat.not_le.mpr hbb) ⟨by rw [hHs, hr.2.1]; exact Nat.le_add_right _ _, fun q g1 g2 => hr.2.2.1 q (Nat.not_le.mp g2), hL⟩ (rb_in_ok hin) hd (kk H locs lr hr hL hl)
    · exact absurd rfl (q n g)
theorem ww_laload (I : rb_In p R s m args meth c cc nL o d ini D cA φ base b L xs Hs adV) {pc len : Nat} {ls : rb_L} {st : List Value} {σ : rb_S} {x' : rb_A ⊕ rb_B} (h0 : n0 ≤ σ.2.1) (h1 : s0 ≤ σ.2.2) (hd : decode cc pc = .ok (.laload, len)) (hn : rb_nxt (rb_R d) o ini ret (.ok (.laload, len)) pc ls st σ = some x') : ∃ a' : rb_A, x' = .inl a' ∧ rb_St p l e R s m args below meth c Q D cA φ base L xs Hs n0 s0 nL pc ls st σ a' := by
  obtain ⟨hx, hb, hml, hown, hts, hKK, hini, hφ, hφ0, hHs, hbb, hRf, hRl⟩ := I
  change (match (generalizing := false) st with
      | .int i :: .ref a :: t => rb_arJ σ a fun n g => if rb_in i n = true then rb_go len 1 pc ls (.long (g i.toNatClampNeg) :: t) σ else none
      | _ => none) = some x' at hn
  split at hn
  rotate_left
  · cases hn
  rename_i i a t
  obtain ⟨n, g, hcell, hn2⟩ := rb_arJ_e hn
  by_cases hin : rb_in i n = true
  rotate_left
  · rw [if_neg hin] at hn2; cases hn2
  rw [if_pos hin] at hn2
  obtain ⟨e1, e2⟩ := rb_go_e hn2
  subst e1
  refine ⟨_, e2, ?_⟩
  refine ⟨Nat.le_refl _, Nat.le_refl _, fun _ _ kk H locs lr hr hL hl => ?_⟩
  obtain ⟨-, -, hat, -⟩ := hr.dyn hcell (by intro z; cases z)
  exact va_lald hx hb hKK.1 (rb_sing hat) 0 1 rfl rfl (rb_in_ok hin) hd (kk H locs lr hr hL hl)
theorem ww_aaload (I : rb_In p R s m args meth c cc nL o d ini D cA φ base b L xs Hs adV) {pc len : Nat} {ls : rb_L} {st : List Value} {σ : rb_S} {x' : rb_A ⊕ rb_B} (h0 : n0 ≤ σ.2.1) (h1 : s0 ≤ σ.2.2) (hd : decode cc pc = .ok (.aaload, len)) (hn : rb_nxt (rb_R d) o ini ret (.ok (.aaload, len)) pc ls st σ = some x') : ∃ a' : rb_A, x' = .inl a' ∧ rb_St p l e R s m args below meth c Q D cA φ base L xs Hs n0 s0 nL pc ls st σ a' := by
  obtain ⟨hx, hb, hml, hown, hts, hKK, hini, hφ, hφ0, hHs, hbb, hRf, hRl⟩ := I
  change (match (generalizing := false) st with
      | .int i :: .ref a :: t => rb_arA σ a fun tg n g => if (tg = 2 ∨ tg = 3) ∧ rb_in i n = true then rb_go len 1 pc ls (va_rf (g i.toNatClampNeg) :: t) σ else none
      | _ => none) = some x' at hn
  split at hn
  rotate_left
  · cases hn
  rename_i i a t
  obtain ⟨tg, n, g, hcell, hn2⟩ := rb_arA_e hn
  by_cases hc : (tg = 2 ∨ tg = 3) ∧ rb_in i n = true
  rotate_left
  · rw [if_neg hc] at hn2; cases hn2
  rw [if_pos hc] at hn2
  obtain ⟨e1, e2⟩ := rb_go_e hn2
  subst e1
  refine ⟨_, e2, ?_⟩
  obtain ⟨htg, hin⟩ := hc
  refine ⟨Nat.le_refl _, Nat.le_refl _, fun _ _ kk H locs lr hr hL hl => ?_⟩
  obtain ⟨-, -, hat, -⟩ := hr.dyn hcell (by intro z; cases z)
  have kk2 : W p l e R s m args below meth c H locs (σ.2.1 - n0) (σ.2.2 - s0) Q (F0 m (pc + 1) lr (va_rf ((g i.toNatClampNeg).map φ) :: t.map (rb_cv φ))) := by
    have e9 : va_rf ((g i.toNatClampNeg).map φ) = rb_cv φ (va_rf (g i.toNatClampNeg)) := by cases g i.toNatClampNeg <;> rfl
    rw [e9]
    exact kk H locs lr hr hL hl
  rcases htg with rfl | rfl
  · exact va_aldq (f := fun j => (g j).map φ) hx hb hKK.1 (rb_sing hat) 0 2 rfl rfl (rb_in_ok hin) hd kk2
  · exact va_aldq (f := fun j => (g j).map φ) hx hb hKK.1 (rb_sing hat) 0 3 rfl rfl (rb_in_ok hin) hd kk2
theorem ww_iastore (I : rb_In p R s m args meth c cc nL o d ini D cA φ base b L xs Hs adV) {pc len : Nat} {ls : rb_L} {st : List Value} {σ : rb_S} {x' : rb_A ⊕ rb_B} (h0 : n0 ≤ σ.2.1) (h1 : s0 ≤ σ.2.2) (hd : decode cc pc = .ok (.iastore, len)) (hn : rb_nxt (rb_R d) o ini ret (.ok (.iastore, len)) pc ls st σ = some x') : ∃ a' : rb_A, x' = .inl a' ∧ rb_St p l e R s m args below meth c Q D cA φ base L xs Hs n0 s0 nL pc ls st σ a' := by
  obtain ⟨hx, hb, hml, hown, hts, hKK, hini, hφ, hφ0, hHs, hbb, hRf, hRl⟩ := I
  change (match (generalizing := false) st with
      | .int x :: .int i :: .ref a :: t => rb_arI σ a fun tg n g => if tg = 0 ∧ rb_in i n = true then rb_go len 1 pc ls t (rb_wr σ a (.inl (0, n, .inl (upd g i.toNatClampNeg x)))) else none
      | _ => none) = some x' at hn
  split at hn
  rotate_left
  · cases hn
  rename_i x i a t
  obtain ⟨tg, n, g, hcell, hn2⟩ := rb_arI_e hn
  by_cases hc : tg = 0 ∧ rb_in i n = true
  rotate_left
  · rw [if_neg hc] at hn2; cases hn2
  rw [if_pos hc] at hn2
  obtain ⟨e1, e2⟩ := rb_go_e hn2
  subst e1
  refine ⟨_, e2, ?_⟩
  obtain ⟨rfl, hin⟩ := hc
  have hin := rb_in_ok hin
  refine ⟨Nat.le_refl _, Nat.le_refl _, fun _ _ kk H locs lr hr hL hl => ?_⟩
  obtain ⟨ha1, ha2, hat, -⟩ := hr.dyn hcell (by intro z; cases z)
  refine W.iast hx hb hat ((hKK.1.2 0 _ rfl).1 n (fun j => .int (g j))) (fun q => by cases q) (by show ¬ (i < 0 ∨ (arrV _ _ _).slots.size ≤ _); rw [arrV_size]; exact hin) rfl rfl hd fun H1 ee z oq => ?_
  refine kk H1 _ lr (hr.wr hφ ha1 ha2 ?_ (fun n g z => by cases z) z oq) (fun q hq => ?_) hl
  · show H1[φ a]? = some (vp_cell _ _)
    rw [ee]
    show some ((vp_cell (cA 0) (n, .inl g)).setSlot _ _) = some (vp_cell (cA 0) (n, .inl (upd g i.toNatClampNeg x)))
    rw [vp_cell_i, vp_cell_i, arrV_store]
    congr 2
    funext q
    by_cases hq : q = i.toNatClampNeg
    · subst hq; simp [updV, upd]
    · simp [updV, upd, hq]
  · rcases List.mem_append.mp hq with h | h
    · exact hL q h
    · rw [List.mem_singleton.mp h, hφ a ha1]
      exact Nat.le_add_right _ _
theorem ww_lastore (I : rb_In p R s m args meth c cc nL o d ini D cA φ base b L xs Hs adV) {pc len : Nat} {ls : rb_L} {st : List Value} {σ : rb_S} {x' : rb_A ⊕ rb_B} (h0 : n0 ≤ σ.2.1) (h1 : s0 ≤ σ.2.2) (hd : decode cc pc = .ok (.lastore, len)) (hn : rb_nxt (rb_R d) o ini ret (.ok (.lastore, len)) pc ls st σ = some x') : ∃ a' : rb_A, x' = .inl a' ∧ rb_St p l e R s m args below meth c Q D cA φ base L xs Hs n0 s0 nL pc ls st σ a' := by
  obtain ⟨hx, hb, hml, hown, hts, hKK, hini, hφ, hφ0, hHs, hbb, hRf, hRl⟩ := I
  change (match (generalizing := false) st with
      | .long x :: .int i :: .ref a :: t => rb_arJ σ a fun n g => if rb_in i n = true then rb_go len 1 pc ls t (rb_wr σ a (.inl (1, n, .inr (.inl (vp_updL g i.toNatClampNeg x))))) else none
      | _ => none) = some x' at hn
  split at hn
  rotate_left
  · cases hn
  rename_i x i a t
  obtain ⟨n, g, hcell, hn2⟩ := rb_arJ_e hn
  by_cases hin : rb_in i n = true
  rotate_left
  · rw [if_neg hin] at hn2; cases hn2
  rw [if_pos hin] at hn2
  obtain ⟨e1, e2⟩ := rb_go_e hn2
  subst e1
  refine ⟨_, e2, ?_⟩
  have hin := rb_in_ok hin
  refine ⟨Nat.le_refl _, Nat.le_refl _, fun _ _ kk H locs lr hr hL hl => ?_⟩
  obtain ⟨ha1, ha2, hat, -⟩ := hr.dyn hcell (by intro z; cases z)
  refine W.last hx hb hat ((hKK.1.2 1 _ rfl).1 n (fun j => .long (g j))) (fun q => by cases q) (by show ¬ (i < 0 ∨ (arrV _ _ _).slots.size ≤ _); rw [arrV_size]; exact hin) rfl rfl hd fun H1 ee z oq => ?_
  refine kk H1 _ lr (hr.wr hφ ha1 ha2 ?_ (fun n g z => by cases z) z oq) (fun q hq => ?_) hl
  · show H1[φ a]? = some (vp_cell _ _)
    rw [ee]
    show some ((vp_cell (cA 1) (n, .inr (.inl g))).setSlot _ _) = some (vp_cell (cA 1) (n, .inr (.inl (vp_updL g i.toNatClampNeg x))))
    rw [vp_cell_l, vp_cell_l, arrV_store]
    congr 2
    funext q
    by_cases hq : q = i.toNatClampNeg
    · subst hq; simp [updV, vp_updL]
    · simp [updV, vp_updL, hq]
  · rcases List.mem_append.mp hq with h | h
    · exact hL q h
    · rw [List.mem_singleton.mp h, hφ a ha1]
      exact Nat.le_add_right _ _
theorem ww_aastore (I : rb_In p R s m args meth c cc nL o d ini D cA φ base b L xs Hs adV) {pc len : Nat} {ls : rb_L} {st : List Value} {σ : rb_S} {x' : rb_A ⊕ rb_B} (h0 : n0 ≤ σ.2.1) (h1 : s0 ≤ σ.2.2) (hd : decode cc pc = .ok (.aastore, len)) (hn : rb_nxt (rb_R d) o ini ret (.ok (.aastore, len)) pc ls st σ = some x') : ∃ a' : rb_A, x' = .inl a' ∧ rb_St p l e R s m args below meth c Q D cA φ base L xs Hs n0 s0 nL pc ls st σ a' := by
  obtain ⟨hx, hb, hml, hown, hts, hKK, hini, hφ, hφ0, hHs, hbb, hRf, hRl⟩ := I
  change (match (generalizing := false) st with
      | .ref x :: .int i :: .ref a :: t => rb_arA σ a fun tg n g => rb_obj σ x (rb_elt tg) fun _ => if (tg = 2 ∨ tg = 3) ∧ rb_in i n = true then rb_go len 1 pc ls t (rb_wr σ a (.inl (tg, n, .inr (.inr (.inr (.inr (va_up g i.toNatClampNeg (some x)))))))) else none
      | _ => none) = some x' at hn
  split at hn
  rotate_left
  · cases hn
  rename_i x i a t
  obtain ⟨tg, n, g, hcell, hn2⟩ := rb_arA_e hn
  obtain ⟨vs, hcx, hn3⟩ := rb_obj_e hn2
  by_cases hc : (tg = 2 ∨ tg = 3) ∧ rb_in i n = true
  rotate_left
  · rw [if_neg hc] at hn3; cases hn3
  rw [if_pos hc] at hn3
  obtain ⟨e1, e2⟩ := rb_go_e hn3
  subst e1
  refine ⟨_, e2, ?_⟩
  obtain ⟨htg, hin⟩ := hc
  have hin := rb_in_ok hin
  refine ⟨Nat.le_refl _, Nat.le_refl _, fun _ _ kk H locs lr hr hL hl => ?_⟩
  obtain ⟨ha1, ha2, hat, -⟩ := hr.dyn hcell (by intro z; cases z)
  obtain ⟨hx1, hx2, hatx, -⟩ := hr.dyn hcx (by intro z; cases z)
  have hlt : i.toNatClampNeg < n := Nat.not_le.mp fun q => hin (Or.inr q)
  have hi0 : ¬ i < 0 := fun q => hin (Or.inl q)
  have hcls : ∃ r : vw_C, vwCl[rb_elt tg]? = some r ∧ (rb_tys cA)[tg]? = some (cA tg, .object r.1) := by
    rcases htg with rfl | rfl
    · exact ⟨_, rfl, rfl⟩
    · exact ⟨_, rfl, rfl⟩
  obtain ⟨r, hr1, hr2⟩ := hcls
  obtain ⟨r', hr', cellV, g1, g2, g3, -⟩ := hatx
  have hc2 := (hKK.1.1 (rb_elt tg) r hr1).2
  obtain ⟨kA, comp, k1, k2, k3, -⟩ := (hKK.1.2 tg _ hr2).2
  have hcomp : comp = D.1 (rb_elt tg) := Option.some.inj (k3.symm.trans hc2.1)
  subst hcomp
  obtain ⟨kC, hkC, -⟩ := hc2.2
  have hcel : H[φ a]? = some (arrV (cA tg) n (fun j => va_rf ((g j).map φ))) := hat
  refine W.aast hx hb hcel (fun q h => by cases h) (fun h => by cases h) k1 k2 rfl hkC ⟨hi0, by show _ < (arrV _ _ _).slots.size; rw [arrV_size]; exact hlt⟩ g1 (fun q h => by rw [g3] at h; cases h) (by rw [g2]; exact hkC) (by rw [g2]; exact va_assign hc2) rfl rfl hd fun H1 ee z oq => ?_
  refine kk H1 _ lr (hr.wr hφ ha1 ha2 ?_ (fun n g z => by cases z) z oq) (fun q hq => ?_) hl
  · show H1[φ a]? = some (arrV (cA tg) n (fun j => va_rf ((va_up g i.toNatClampNeg (some x) j).map φ)))
    rw [ee, arrV_store]
    congr 2
    funext q
    by_cases hq : q = i.toNatClampNeg
    · subst hq; simp [updV, va_up, va_rf]
    · simp [updV, va_up, hq]
  · rcases List.mem_append.mp hq with h | h
    · exact hL q h
    · rw [List.mem_singleton.mp h, hφ a ha1]
      exact Nat.le_add_right _ _
theorem ww_arraylength (I : rb_In p R s m args meth c cc nL o d ini D cA φ base b L xs Hs adV) {pc len : Nat} {ls : rb_L} {st : List Value} {σ : rb_S} {x' : rb_A ⊕ rb_B} (h0 : n0 ≤ σ.2.1) (h1 : s0 ≤ σ.2.2) (hd : decode cc pc = .ok (.arraylength, len)) (hn : rb_nxt (rb_R d) o ini ret (.ok (.arraylength, len)) pc ls st σ = some x') : ∃ a' : rb_A, x' = .inl a' ∧ rb_St p l e R s m args below meth c Q D cA φ base L xs Hs n0 s0 nL pc ls st σ a' := by
  obtain ⟨hx, hb, hml, hown, hts, hKK, hini, hφ, hφ0, hHs, hbb, hRf, hRl⟩ := I
  obtain ⟨a, t, rfl, hn2⟩ := rb_pr_e hn
  unfold rb_arN at hn2
  split at hn2
  · rename_i tg n g hcell
    by_cases hc : tg = 0 ∨ tg = 9
    rotate_left
    · rw [if_neg hc] at hn2; cases hn2
    rw [if_pos hc] at hn2
    obtain ⟨e1, e2⟩ := rb_go_e hn2
    subst e1
    refine ⟨_, e2, ?_⟩
    refine ⟨Nat.le_refl _, Nat.le_refl _, fun _ _ kk H locs lr hr hL hl => ?_⟩
    rcases hc with rfl | rfl
    · obtain ⟨-, -, hat, -⟩ := hr.dyn hcell (by intro z; cases z)
      exact va_alen hx hb hKK.1 (rb_sing hat) 0 0 rfl rfl rfl hd (kk H locs lr hr hL hl)
    · rcases hr.2.2.2 a _ hcell with ⟨q1, q2⟩ | ⟨-, -, -, q⟩
      · cases q2
        subst q1
        show W p l e R s m args below meth c H locs _ _ Q (F0 m pc lr (.ref (φ 0) :: t.map (rb_cv φ)))
        rw [hφ0]
        exact va_slen (A := fun q => base ≤ q) hx hb hKK.2.1 (by rw [hHs]; exact hbb) (Nat.not_le.mpr hbb) ⟨by rw [hHs, hr.2.1]; exact Nat.le_add_right _ _, fun q g1 g2 => hr.2.2.1 q (Nat.not_le.mp g2), hL⟩ hd (kk H locs lr hr hL hl)
      · exact absurd rfl (q n g)
  · rename_i tg n g hcell
    by_cases hc : tg = 1
    rotate_left
    · rw [if_neg hc] at hn2; cases hn2
    rw [if_pos hc] at hn2
    obtain ⟨e1, e2⟩ := rb_go_e hn2
    subst e1
    refine ⟨_, e2, ?_⟩
    subst hc
    refine ⟨Nat.le_refl _, Nat.le_refl _, fun _ _ kk H locs lr hr hL hl => ?_⟩
    obtain ⟨-, -, hat, -⟩ := hr.dyn hcell (by intro z; cases z)
    exact va_alen hx hb hKK.1 (rb_sing hat) 0 1 rfl rfl rfl hd (kk H locs lr hr hL hl)
  · rename_i tg n g hcell
    by_cases hc : tg = 2 ∨ tg = 3
    rotate_left
    · rw [if_neg hc] at hn2; cases hn2
    rw [if_pos hc] at hn2
    obtain ⟨e1, e2⟩ := rb_go_e hn2
    subst e1
    refine ⟨_, e2, ?_⟩
    refine ⟨Nat.le_refl _, Nat.le_refl _, fun _ _ kk H locs lr hr hL hl => ?_⟩
    obtain ⟨-, -, hat, -⟩ := hr.dyn hcell (by intro z; cases z)
    rcases hc with rfl | rfl
    · exact va_alen hx hb hKK.1 (rb_sing hat) 0 2 rfl rfl rfl hd (kk H locs lr hr hL hl)
    · exact va_alen hx hb hKK.1 (rb_sing hat) 0 3 rfl rfl rfl hd (kk H locs lr hr hL hl)
  · cases hn2
theorem ww_newarray (I : rb_In p R s m args meth c cc nL o d ini D cA φ base b L xs Hs adV) {ty : ArrayType} {pc len : Nat} {ls : rb_L} {st : List Value} {σ : rb_S} {x' : rb_A ⊕ rb_B} (h0 : n0 ≤ σ.2.1) (h1 : s0 ≤ σ.2.2) (hd : decode cc pc = .ok (.newarray ty, len)) (hn : rb_nxt (rb_R d) o ini ret (.ok (.newarray ty, len)) pc ls st σ = some x') : ∃ a' : rb_A, x' = .inl a' ∧ rb_St p l e R s m args below meth c Q D cA φ base L xs Hs n0 s0 nL pc ls st σ a' := by
  obtain ⟨hx, hb, hml, hown, hts, hKK, hini, hφ, hφ0, hHs, hbb, hRf, hRl⟩ := I
  obtain ⟨x, t, rfl, hn2⟩ := rb_pi_e hn
  by_cases hc : ¬ x < 0 ∧ x.toNatClampNeg ≤ 1000000
  rotate_left
  · rw [if_neg hc] at hn2; cases hn2
  · rw [if_pos hc] at hn2
    cases ty with
    | int =>
      obtain ⟨e1, e2⟩ := rb_go_e hn2
      subst e1
      refine ⟨_, e2, ?_⟩
      refine ⟨Nat.le_succ _, Nat.le_add_right _ _, fun hc1 hc2 kk H locs lr hr hL hl => ?_⟩
      have hc1 : σ.2.1 + 1 - n0 ≤ R.cells := hc1
      have hc2 : σ.2.2 + x.toNatClampNeg - s0 ≤ R.slots := hc2
      have hfi : s.vm.findClass ("[" ++ (FieldType.int).toString) = some (cA 0) := (hKK.1.2 0 _ rfl).2
      have hby : x.toNatClampNeg * componentBytes (newarray.typeOf .int) ≤ 536870912 := by
        have e9 : componentBytes (newarray.typeOf .int) ≤ 8 := by decide +kernel
        exact Nat.le_trans (Nat.mul_le_mul hc.2 e9) (Nat.le_of_ble_eq_true rfl)
      refine va_newaK (atype := .int) hx hb (hts _ rb_w_cI) rfl hd rfl hc.1 rfl hby (by omega) (by omega) rfl fun H1 cX e1 z1 o1 hAr hNm => ?_
      have hcX : cX = cA 0 := Option.some.inj (hNm.symm.trans hfi)
      subst hcX
      have en : φ σ.2.1 = H.size := by rw [hφ _ hr.1, hr.2.1]
      have kk2 := kk H1 locs lr (hr.mk hφ (show H1[H.size]? = some (vp_cell _ _) from e1) (fun n g z => by cases z) z1 o1) hL hl
      have q1 : σ.2.1 - n0 + 1 = σ.2.1 + 1 - n0 := by omega
      have q2 : σ.2.2 - s0 + x.toNatClampNeg = σ.2.2 + x.toNatClampNeg - s0 := by omega
      rw [q1, q2]
      have kk3 : W p l e R s m args below meth c H1 locs (σ.2.1 + 1 - n0) (σ.2.2 + x.toNatClampNeg - s0) Q (F0 m (pc + 2) lr (.ref (φ σ.2.1) :: t.map (rb_cv φ))) := kk2
      rw [en] at kk3
      exact kk3
    | long =>
      obtain ⟨e1, e2⟩ := rb_go_e hn2
      subst e1
      refine ⟨_, e2, ?_⟩
      refine ⟨Nat.le_succ _, Nat.le_add_right _ _, fun hc1 hc2 kk H locs lr hr hL hl => ?_⟩
      have hc1 : σ.2.1 + 1 - n0 ≤ R.cells := hc1
      have hc2 : σ.2.2 + x.toNatClampNeg - s0 ≤ R.slots := hc2
      have hfi : s.vm.findClass ("[" ++ (FieldType.long).toString) = some (cA 1) := (hKK.1.2 1 _ rfl).2
      have hby : x.toNatClampNeg * componentBytes (newarray.typeOf .long) ≤ 536870912 := by
        have e9 : componentBytes (newarray.typeOf .long) ≤ 8 := by decide +kernel
        exact Nat.le_trans (Nat.mul_le_mul hc.2 e9) (Nat.le_of_ble_eq_true rfl)
      refine va_newaK (atype := .long) hx hb (hts _ rb_w_cJ) rfl hd rfl hc.1 rfl hby (by omega) (by omega) rfl fun H1 cX e1 z1 o1 hAr hNm => ?_
      have hcX : cX = cA 1 := Option.some.inj (hNm.symm.trans hfi)
      subst hcX
      have en : φ σ.2.1 = H.size := by rw [hφ _ hr.1, hr.2.1]
      have kk2 := kk H1 locs lr (hr.mk hφ (show H1[H.size]? = some (vp_cell _ _) from e1) (fun n g z => by cases z) z1 o1) hL hl
      have q1 : σ.2.1 - n0 + 1 = σ.2.1 + 1 - n0 := by omega
      have q2 : σ.2.2 - s0 + x.toNatClampNeg = σ.2.2 + x.toNatClampNeg - s0 := by omega
      rw [q1, q2]
      have kk3 : W p l e R s m args below meth c H1 locs (σ.2.1 + 1 - n0) (σ.2.2 + x.toNatClampNeg - s0) Q (F0 m (pc + 2) lr (.ref (φ σ.2.1) :: t.map (rb_cv φ))) := kk2
      rw [en] at kk3
      exact kk3
    | _ => cases hn2
theorem ww_anewarray (I : rb_In p R s m args meth c cc nL o d ini D cA φ base b L xs Hs adV) {i : Nat} {pc len : Nat} {ls : rb_L} {st : List Value} {σ : rb_S} {x' : rb_A ⊕ rb_B} (h0 : n0 ≤ σ.2.1) (h1 : s0 ≤ σ.2.2) (hd : decode cc pc = .ok (.anewarray i, len)) (hn : rb_nxt (rb_R d) o ini ret (.ok (.anewarray i, len)) pc ls st σ = some x') : ∃ a' : rb_A, x' = .inl a' ∧ rb_St p l e R s m args below meth c Q D cA φ base L xs Hs n0 s0 nL pc ls st σ a' := by
  obtain ⟨hx, hb, hml, hown, hts, hKK, hini, hφ, hφ0, hHs, hbb, hRf, hRl⟩ := I
  change (match rb_anw o i with
      | some (tg, _) => rb_pi st fun x t => if ¬ x < 0 ∧ x.toNatClampNeg ≤ 1000000 then rb_go len 3 pc ls (.ref σ.2.1 :: t) (rb_mk σ (.inl (tg, x.toNatClampNeg, .inr (.inr (.inr (.inr fun _ => none))))) x.toNatClampNeg) else none
      | none => none) = some x' at hn
  cases hf : rb_anw o i with
  | none => rw [hf] at hn; cases hn
  | some q =>
    obtain ⟨tg, w⟩ := q
    rw [hf] at hn
    obtain ⟨x, t, rfl, hn2⟩ := rb_pi_e hn
    by_cases hc : ¬ x < 0 ∧ x.toNatClampNeg ≤ 1000000
    rotate_left
    · rw [if_neg hc] at hn2; cases hn2
    rw [if_pos hc] at hn2
    obtain ⟨e1, e2⟩ := rb_go_e hn2
    subst e1
    refine ⟨_, e2, ?_⟩
    obtain ⟨htg, hlk⟩ := rb_anw_ok hf
    refine ⟨Nat.le_succ _, Nat.le_add_right _ _, fun hc1 hc2 kk H locs lr hr hL hl => ?_⟩
    have hc1 : σ.2.1 + 1 - n0 ≤ R.cells := hc1
    have hc2 : σ.2.2 + x.toNatClampNeg - s0 ≤ R.slots := hc2
    have hov : va_AO (rb_eltN tg) s ∧ (rb_tys cA)[tg]? = some (cA tg, .object (rb_eltN tg)) := by
      rcases htg with rfl | rfl
      · exact ⟨hKK.2.2.2.1.1, rfl⟩
      · exact ⟨hKK.2.2.2.1.2, rfl⟩
    obtain ⟨kA0, comp0, -, -, -, hfi⟩ := (hKK.1.2 tg _ hov.2).2
    refine W.anew hx hb hown (hts _ hlk) (va_AO.use hov.1) rfl hd rfl hc.1 (by have := hc.2; omega) (by omega) (by omega) fun cX kX compX f1 f2 f3 f4 => ?_
    have hcX : cX = cA tg := Option.some.inj (f1.symm.trans hfi)
    subst hcX
    have en : φ σ.2.1 = H.size := by rw [hφ _ hr.1, hr.2.1]
    have kk2 := kk (H.push { cls := cA tg, slots := Array.replicate x.toNatClampNeg .null, vm := .none }) locs lr (hr.mk hφ (show (H.push _)[H.size]? = some (vp_cell _ _) by rw [Array.getElem?_push_size]; exact congrArg some (arrV_new _ _ _)) (fun n g z => by cases z) (by simp) (fun q hq => by rw [Array.getElem?_push, if_neg (Nat.ne_of_lt hq)])) hL hl
    have q1 : σ.2.1 - n0 + 1 = σ.2.1 + 1 - n0 := by omega
    have q2 : σ.2.2 - s0 + x.toNatClampNeg = σ.2.2 + x.toNatClampNeg - s0 := by omega
    rw [q1, q2]
    have kk3 : W p l e R s m args below meth c _ locs (σ.2.1 + 1 - n0) (σ.2.2 + x.toNatClampNeg - s0) Q (F0 m (pc + 3) lr (.ref (φ σ.2.1) :: t.map (rb_cv φ))) := kk2
    rw [en] at kk3
    exact kk3
theorem ww_new (I : rb_In p R s m args meth c cc nL o d ini D cA φ base b L xs Hs adV) {i : Nat} {pc len : Nat} {ls : rb_L} {st : List Value} {σ : rb_S} {x' : rb_A ⊕ rb_B} (h0 : n0 ≤ σ.2.1) (h1 : s0 ≤ σ.2.2) (hd : decode cc pc = .ok (.new i, len)) (hn : rb_nxt (rb_R d) o ini ret (.ok (.new i, len)) pc ls st σ = some x') : ∃ a' : rb_A, x' = .inl a' ∧ rb_St p l e R s m args below meth c Q D cA φ base L xs Hs n0 s0 nL pc ls st σ a' := by
  obtain ⟨hx, hb, hml, hown, hts, hKK, hini, hφ, hφ0, hHs, hbb, hRf, hRl⟩ := I
  change (match rb_new o i with
      | some (ci, _) => rb_go len 3 pc ls (.ref σ.2.1 :: st) (rb_mk σ (.inr (ci, rb_def ci)) (rb_def ci).length)
      | none => none) = some x' at hn
  cases hf : rb_new o i with
  | none => rw [hf] at hn; cases hn
  | some q =>
    obtain ⟨ci, w⟩ := q
    rw [hf] at hn
    obtain ⟨e1, e2⟩ := rb_go_e hn
    subst e1
    refine ⟨_, e2, ?_⟩
    obtain ⟨C, T, N, hc, hl1, hl2, hl3⟩ := rb_new_ok hf
    obtain ⟨hin, hty0, hnm, hlen, hdef⟩ := rb_clf ci C T N hc
    refine ⟨Nat.le_succ _, Nat.le_add_right _ _, fun hc1 hc2 kk H locs lr hr hL hl => ?_⟩
    have hc1 : σ.2.1 + 1 - n0 ≤ R.cells := hc1
    have hc2 : σ.2.2 + (rb_def ci).length - s0 ≤ R.slots := hc2
    have hKn := hKK.1.1 ci _ hc
    refine W.newcK hx hb hown (hts _ hl1) (hts _ hl2) (hts _ hl3) rfl hd (by omega) (by omega) hKn.2.1 rfl fun H1 kC hkC e1 z1 o1 => ?_
    have en : φ σ.2.1 = H.size := by rw [hφ _ hr.1, hr.2.1]
    have hat : va_at D vwCl (H.size, rb_ce φ cA (.inr (ci, rb_def ci))) H1 := by
      refine ⟨_, hc, (u_born (rb_tyF ci) hts hin hKn hkC e1 hty0).to (fun k hk => ?_)⟩
      rw [hdef k hk]
      show vp_V (rb_def ci) k = vp_V ((rb_def ci).map (rb_cv φ)) k
      rw [rb_def_cv ci]
    have kk2 := kk H1 locs lr (hr.mk hφ hat (fun n g z => by cases z) z1 o1) hL hl
    have q1 : σ.2.1 - n0 + 1 = σ.2.1 + 1 - n0 := by omega
    have q2 : σ.2.2 - s0 + N = σ.2.2 + (rb_def ci).length - s0 := by omega
    rw [q1, q2]
    have kk3 : W p l e R s m args below meth c H1 locs (σ.2.1 + 1 - n0) (σ.2.2 + (rb_def ci).length - s0) Q (F0 m (pc + 3) lr (.ref (φ σ.2.1) :: st.map (rb_cv φ))) := kk2
    rw [en] at kk3
    exact kk3
theorem ww_invokestatic (I : rb_In p R s m args meth c cc nL o d ini D cA φ base b L xs Hs adV) (hC : rb_MD l D cA φ base b L xs Hs adV d) {i pc len : Nat} {ls : rb_L} {st : List Value} {σ : rb_S} {x' : rb_A ⊕ rb_B} (h0 : n0 ≤ σ.2.1) (h1 : s0 ≤ σ.2.2) (hd : decode cc pc = .ok (.invokestatic i, len)) (hn : rb_nxt (rb_R d) o ini ret (.ok (.invokestatic i, len)) pc ls st σ = some x') : ∃ a' : rb_A, x' = .inl a' ∧ rb_St p l e R s m args below meth c Q D cA φ base L xs Hs n0 s0 nL pc ls st σ a' := by
  change rb_ivk (rb_R d) (rb_iv o i) 0 len pc ls st σ = some x' at hn
  cases he : rb_iv o i with
  | none =>
    rw [he] at hn
    unfold rb_ivk at hn
    split at hn <;> cases hn
  | some e0 =>
    rw [he] at hn
    exact rb_call (e := e) (below := below) (Q := Q) I hC he (form := 0) hd hn h0 h1
theorem ww_invokevirtual (I : rb_In p R s m args meth c cc nL o d ini D cA φ base b L xs Hs adV) (hC : rb_MD l D cA φ base b L xs Hs adV d) {i pc len : Nat} {ls : rb_L} {st : List Value} {σ : rb_S} {x' : rb_A ⊕ rb_B} (h0 : n0 ≤ σ.2.1) (h1 : s0 ≤ σ.2.2) (hd : decode cc pc = .ok (.invokevirtual i, len)) (hn : rb_nxt (rb_R d) o ini ret (.ok (.invokevirtual i, len)) pc ls st σ = some x') : ∃ a' : rb_A, x' = .inl a' ∧ rb_St p l e R s m args below meth c Q D cA φ base L xs Hs n0 s0 nL pc ls st σ a' := by
  change rb_ivk (rb_R d) (rb_iv o i) 1 len pc ls st σ = some x' at hn
  cases he : rb_iv o i with
  | none =>
    rw [he] at hn
    unfold rb_ivk at hn
    split at hn <;> cases hn
  | some e0 =>
    rw [he] at hn
    exact rb_call (e := e) (below := below) (Q := Q) I hC he (form := 1) hd hn h0 h1
theorem ww_invokespecial (I : rb_In p R s m args meth c cc nL o d ini D cA φ base b L xs Hs adV) (hC : rb_MD l D cA φ base b L xs Hs adV d) {i pc len : Nat} {ls : rb_L} {st : List Value} {σ : rb_S} {x' : rb_A ⊕ rb_B} (h0 : n0 ≤ σ.2.1) (h1 : s0 ≤ σ.2.2) (hd : decode cc pc = .ok (.invokespecial i, len)) (hn : rb_nxt (rb_R d) o ini ret (.ok (.invokespecial i, len)) pc ls st σ = some x') : ∃ a' : rb_A, x' = .inl a' ∧ rb_St p l e R s m args below meth c Q D cA φ base L xs Hs n0 s0 nL pc ls st σ a' := by
  change rb_ivk (rb_R d) (rb_iv o i) 2 len pc ls st σ = some x' at hn
  cases he : rb_iv o i with
  | none =>
    rw [he] at hn
    unfold rb_ivk at hn
    split at hn <;> cases hn
  | some e0 =>
    rw [he] at hn
    exact rb_call (e := e) (below := below) (Q := Q) I hC he (form := 2) hd hn h0 h1
/-- the method's end -/
def rb_End (d : Except DecodeError (Instr × Nat)) (ret : Option FieldType) (st : List Value) (r : Option Value) : Prop :=
  (∃ x ty, d = .ok (.ireturn, 1) ∧ st = [.int x] ∧ r = some (.int x) ∧ ret = some ty ∧ rb_tyok ty (.int x) = true) ∨ (∃ x, d = .ok (.lreturn, 1) ∧ st = [.long x] ∧ r = some (.long x) ∧ ret = some .long) ∨
  (∃ x ty, d = .ok (.areturn, 1) ∧ st = [.ref x] ∧ r = some (.ref x) ∧ ret = some ty ∧ ((∃ n, ty = .object n) ∨ ∃ t, ty = .array t)) ∨ (d = .ok (.return_, 1) ∧ st = [] ∧ r = none ∧ ret = none)
theorem rb_one (I : rb_In p R s m args meth c cc nL o d ini D cA φ base b L xs Hs adV) (hC : rb_MD l D cA φ base b L xs Hs adV d) {pc : Nat} {ls : rb_L} {st : List Value} {σ : rb_S} {x' : rb_A ⊕ rb_B} (h0 : n0 ≤ σ.2.1) (h1 : s0 ≤ σ.2.2) (hn : rb_nxt (rb_R d) o ini ret (decode cc pc) pc ls st σ = some x') : (∃ a' : rb_A, x' = .inl a' ∧ rb_St p l e R s m args below meth c Q D cA φ base L xs Hs n0 s0 nL pc ls st σ a') ∨ ∃ r, x' = .inr (r, σ) ∧ rb_End (decode cc pc) ret st r := by
  cases hd : decode cc pc with
  | error z => rw [hd] at hn; cases hn
  | ok q =>
    obtain ⟨ins, len⟩ := q
    rw [hd] at hn
    cases ins with
    | aconst_null => exact Or.inl (ww_aconst_null I h0 h1 hd hn)
    | iconst _ => exact Or.inl (ww_iconst I h0 h1 hd hn)
    | bipush _ => exact Or.inl (ww_bipush I h0 h1 hd hn)
    | sipush _ => exact Or.inl (ww_sipush I h0 h1 hd hn)
    | lconst _ => exact Or.inl (ww_lconst I h0 h1 hd hn)
    | ldc _ => exact Or.inl (ww_ldc I h0 h1 hd hn)
    | ldc2_w _ => exact Or.inl (ww_ldc2_w I h0 h1 hd hn)
    | iload_n _ => exact Or.inl (ww_iload_n I h0 h1 hd hn)
    | iload _ => exact Or.inl (ww_iload I h0 h1 hd hn)
    | lload_n _ => exact Or.inl (ww_lload_n I h0 h1 hd hn)
    | lload _ => exact Or.inl (ww_lload I h0 h1 hd hn)
    | aload_n _ => exact Or.inl (ww_aload_n I h0 h1 hd hn)
    | aload _ => exact Or.inl (ww_aload I h0 h1 hd hn)
    | istore_n _ => exact Or.inl (ww_istore_n I h0 h1 hd hn)
    | istore _ => exact Or.inl (ww_istore I h0 h1 hd hn)
    | lstore_n _ => exact Or.inl (ww_lstore_n I h0 h1 hd hn)
    | lstore _ => exact Or.inl (ww_lstore I h0 h1 hd hn)
    | astore_n _ => exact Or.inl (ww_astore_n I h0 h1 hd hn)
    | astore _ => exact Or.inl (ww_astore I h0 h1 hd hn)
    | iinc _ _ => exact Or.inl (ww_iinc I h0 h1 hd hn)
    | iadd => exact Or.inl (ww_iadd I h0 h1 hd hn)
    | isub => exact Or.inl (ww_isub I h0 h1 hd hn)
    | imul => exact Or.inl (ww_imul I h0 h1 hd hn)
    | iand => exact Or.inl (ww_iand I h0 h1 hd hn)
    | ior => exact Or.inl (ww_ior I h0 h1 hd hn)
    | ladd => exact Or.inl (ww_ladd I h0 h1 hd hn)
    | lsub => exact Or.inl (ww_lsub I h0 h1 hd hn)
    | lmul => exact Or.inl (ww_lmul I h0 h1 hd hn)
    | lxor => exact Or.inl (ww_lxor I h0 h1 hd hn)
    | lcmp => exact Or.inl (ww_lcmp I h0 h1 hd hn)
    | idiv => exact Or.inl (ww_idiv I h0 h1 hd hn)
    | irem => exact Or.inl (ww_irem I h0 h1 hd hn)
    | ldiv => exact Or.inl (ww_ldiv I h0 h1 hd hn)
    | ineg => exact Or.inl (ww_ineg I h0 h1 hd hn)
    | lneg => exact Or.inl (ww_lneg I h0 h1 hd hn)
    | i2l => exact Or.inl (ww_i2l I h0 h1 hd hn)
    | l2i => exact Or.inl (ww_l2i I h0 h1 hd hn)
    | dup => exact Or.inl (ww_dup I h0 h1 hd hn)
    | pop => exact Or.inl (ww_pop I h0 h1 hd hn)
    | dup2 => exact Or.inl (ww_dup2 I h0 h1 hd hn)
    | ifCond _ _ => exact Or.inl (ww_ifCond I h0 h1 hd hn)
    | if_icmp _ _ => exact Or.inl (ww_if_icmp I h0 h1 hd hn)
    | goto _ => exact Or.inl (ww_goto I h0 h1 hd hn)
    | ifnull _ => exact Or.inl (ww_ifnull I h0 h1 hd hn)
    | ifnonnull _ => exact Or.inl (ww_ifnonnull I h0 h1 hd hn)
    | tableswitch _ _ _ _ => exact Or.inl (ww_tableswitch I h0 h1 hd hn)
    | getfield _ => exact Or.inl (ww_getfield I h0 h1 hd hn)
    | putfield _ => exact Or.inl (ww_putfield I h0 h1 hd hn)
    | iaload => exact Or.inl (ww_iaload I h0 h1 hd hn)
    | laload => exact Or.inl (ww_laload I h0 h1 hd hn)
    | aaload => exact Or.inl (ww_aaload I h0 h1 hd hn)
    | iastore => exact Or.inl (ww_iastore I h0 h1 hd hn)
    | lastore => exact Or.inl (ww_lastore I h0 h1 hd hn)
    | aastore => exact Or.inl (ww_aastore I h0 h1 hd hn)
    | arraylength => exact Or.inl (ww_arraylength I h0 h1 hd hn)
    | newarray _ => exact Or.inl (ww_newarray I h0 h1 hd hn)
    | anewarray _ => exact Or.inl (ww_anewarray I h0 h1 hd hn)
    | new _ => exact Or.inl (ww_new I h0 h1 hd hn)
    | invokestatic _ => exact Or.inl (ww_invokestatic I hC h0 h1 hd hn)
    | invokevirtual _ => exact Or.inl (ww_invokevirtual I hC h0 h1 hd hn)
    | invokespecial _ => exact Or.inl (ww_invokespecial I hC h0 h1 hd hn)
    | ireturn =>
      have h2 : rb_qI len ret st σ = some x' := hn
      unfold rb_qI at h2
      split at h2
      · rename_i x
        split at h2
        · rename_i ty
          split at h2
          · rename_i hc
            obtain ⟨rfl, hty⟩ := hc
            exact Or.inr ⟨_, (Option.some.inj h2).symm, Or.inl ⟨x, ty, rfl, rfl, rfl, rfl, hty⟩⟩
          · cases h2
        · cases h2
      · cases h2
    | lreturn =>
      have h2 : rb_qL len ret st σ = some x' := hn
      unfold rb_qL at h2
      split at h2
      · rename_i x
        split at h2
        · rename_i hc
          obtain ⟨rfl, hty⟩ := hc
          exact Or.inr ⟨_, (Option.some.inj h2).symm, Or.inr (Or.inl ⟨x, rfl, rfl, rfl, hty⟩)⟩
        · cases h2
      · cases h2
    | areturn =>
      have h2 : rb_qA len ret st σ = some x' := hn
      unfold rb_qA at h2
      split at h2
      · rename_i x
        split at h2
        · split at h2
          · rename_i hc
            subst hc
            exact Or.inr ⟨_, (Option.some.inj h2).symm, Or.inr (Or.inr (Or.inl ⟨x, _, rfl, rfl, rfl, rfl, Or.inl ⟨_, rfl⟩⟩))⟩
          · cases h2
        · split at h2
          · rename_i hc
            subst hc
            exact Or.inr ⟨_, (Option.some.inj h2).symm, Or.inr (Or.inr (Or.inl ⟨x, _, rfl, rfl, rfl, rfl, Or.inr ⟨_, rfl⟩⟩))⟩
          · cases h2
        · cases h2
      · cases h2
    | return_ =>
      have h2 : rb_qV len ret st σ = some x' := hn
      unfold rb_qV at h2
      split at h2
      · split at h2
        · rename_i hc
          obtain ⟨rfl, hty⟩ := hc
          exact Or.inr ⟨_, (Option.some.inj h2).symm, Or.inr (Or.inr (Or.inr ⟨rfl, rfl, rfl, hty⟩))⟩
        · cases h2
      · cases h2
    | _ => cases hn
end RBT
