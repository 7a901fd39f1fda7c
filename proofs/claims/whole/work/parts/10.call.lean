/-! ===== ONE STEP OF THE SMALL MACHINE IS A WALK OF THE MACHINE ===== -/
section RBW
variable {p : Program} {l : Launch} {e : Env} {R : Room} {s : State} {m : MethodId} {args : Array Value} {below : List Frame} {meth : Method} {c : Code} {H : Heap} {locs : List Loc} {cells slots : Nat} {Q : State → Prop}
variable {cc : ByteArray} {pc : Nat} {ls : Array Slot} {rest : List Value}
/-- a branch that isn't taken -/
theorem rb_ifF (hexec : p.tables.exec = Jvm.exec) (hb : c.code = cc) {x : Int32} {off : Int} {cnd : Jvm.ClassFile.Cond} (hdg : decode cc pc = .ok (.ifCond cnd off, 3)) (hh : Op.ifCond.holds cnd x = false)
    (k : W p l e R s m args below meth c H locs cells slots Q (F0 m (pc + 3) ls rest)) : W p l e R s m args below meth c H locs cells slots Q (F0 m pc ls (.int x :: rest)) := by
  intro T hT X
  obtain ⟨t, a, b⟩ := k T hT X
  refine ⟨t, ?_, b⟩
  jvm_step X.here [X.here.top, hexec, hb, hdg, hh]
  exact a
theorem rb_icF (hexec : p.tables.exec = Jvm.exec) (hb : c.code = cc) {x y : Int32} {off : Int} {cnd : Jvm.ClassFile.Cond} (hdg : decode cc pc = .ok (.if_icmp cnd off, 3)) (hh : Op.if_icmp.holds cnd x y = false)
    (k : W p l e R s m args below meth c H locs cells slots Q (F0 m (pc + 3) ls rest)) : W p l e R s m args below meth c H locs cells slots Q (F0 m pc ls (.int y :: .int x :: rest)) := by
  intro T hT X
  obtain ⟨t, a, b⟩ := k T hT X
  refine ⟨t, ?_, b⟩
  jvm_step X.here [X.here.top, hexec, hb, hdg, hh]
  exact a
variable {D : va_G} {cl : List vw_C} {tys : List (ClassId × FieldType)} {a : Nat}
theorem rb_put (hexec : p.tables.exec = Jvm.exec) (hb : c.code = cc) {own C : String} {T : u_T} {N ci index : Nat} {Ts : List Cond} (hts : ∀ w ∈ Ts, w.before args s = true) (hin : ∀ w ∈ u_ws C T N, w ∈ Ts) (ty0 : Nat → FieldType) (hty : ∀ k, k < N → parseFieldDescriptor (T k).2.2.1 = some (ty0 k)) (hnm : ∀ a, a < N → ∀ b, b < N → a ≠ b → (T a).2.1 ≠ (T b).2.1) (hown : s.vm.findClass own = some m.cls) (hK : va_K D cl tys s) {fs : List Value} (hat : va_at D cl (a, .inr (ci, fs)) H) (hc : cl[ci]? = some (C, T, N)) {k : Nat} (hk : k < N) (hlink : (Cond.fieldLink own index (T k).1 (T k).2.1 (T k).2.2.1).before args s = true) (hfin : (T k).2.2.2 = false ∨ ((T k).1 = own ∧ meth.name = "<init>" ∧ (T k).2.2.2 = true)) {ty : FieldType} {v : Value} (hd : parseFieldDescriptor (T k).2.2.1 = some ty) (hn : narrow ty v = v) (hfit : fits ty v = true) (hl : k < fs.length)
    (hdg : decode cc pc = .ok (.putfield index, 3)) (kk : ∀ (H1 : Heap) (j : Nat), va_at D cl (a, .inr (ci, fs.set k v)) H1 → H1.size = H.size → (∀ q, q ≠ a → H1[q]? = H[q]?) → W p l e R s m args below meth c H1 (locs ++ [⟨a, j⟩]) cells slots Q (F0 m (pc + 3) ls rest)) : W p l e R s m args below meth c H locs cells slots Q (F0 m pc ls (v :: .ref a :: rest)) := by
  have hap := va_apart (own := own) hts hin ty0 hty hnm hK hc
  obtain ⟨r, h1, cell, q1, q2, q3, q4⟩ := hat
  have hr : r = (C, T, N) := Option.some.inj (h1.symm.trans hc)
  subst hr
  obtain ⟨hS, hfc, kC, hkC, hkind⟩ := hK.1 ci _ hc
  obtain ⟨cf, kf, fi, f, hi, hsl⟩ := hS k hk
  have hlay := hts _ (hin _ (u_in_lay hk))
  unfold u_lay at hlay
  have hst := (u_facts hfc hkC (u_lays hts hin hk) hi).1
  rcases hfin with hfin | ⟨hdecl, hin2, hfin⟩
  · rw [if_neg (by rw [hfin]; decide)] at hlay
    have h6 := u_store hfc hkC hkind hlay hi hd hn hfit
    refine W.putK hexec hb (f := f) ⟨hown, hlink, ⟨_, _, _, hi⟩, hst⟩ (by rw [q2]; exact h6) q1 q3 (by rw [hsl]; exact k2_hasslot (q4 k hk)) rfl rfl hdg fun H' e1 e2 e3 => ?_
    rw [hsl] at e1 ⊢
    exact kk H' _ ⟨_, hc, t_OB.to (V := updV (vp_V fs) k v) ⟨_, e1, q2, q3, t_set q4 hap hk v⟩ (fun j _ => vp_updV_set hl v j)⟩ e2 e3
  · rw [if_pos hfin] at hlay
    have hcf : m.cls = cf := by
      obtain ⟨_, _, c', _, _, _, -, -, hf', -, -, -, hown2, -⟩ := Cond.laysFinal_spec hlay
      have e1 : c' = cf := by have := hi.symm.trans hf'; simp at this; exact this.1.symm
      rw [hdecl] at hown2
      rw [← e1]; exact Option.some.inj (hown.symm.trans hown2)
    have h6 := u_fits hfc hkC hkind (Or.inr hlay) hi hd hn hfit
    refine W.putFinK hexec hb hown hlink hi hst hcf hin2 (by rw [q2]; exact h6) q1 q3 (by rw [hsl]; exact k2_hasslot (q4 k hk)) rfl rfl hdg fun H' e1 e2 e3 => ?_
    rw [hsl] at e1 ⊢
    exact kk H' _ ⟨_, hc, t_OB.to (V := updV (vp_V fs) k v) ⟨_, e1, q2, q3, t_set q4 hap hk v⟩ (fun j _ => vp_updV_set hl v j)⟩ e2 e3
/-- behind any call -/
theorem rb_aft {mc ms : Nat} {Qa : State → Outcome → State → Prop} {free : Addr → Prop} {st0 : List Value} (hr : va_Run p l e R s m args below meth c H locs cells slots mc ms (F0 m pc ls st0) rest Qa free)
    (kk : ∀ (v : Option Value) (st₀ t : State) (L : List Loc), st₀.heap = H → (∀ q ∈ L, free q.base) → Qa st₀ (.returned v) t → W p l e R s m args below meth c t.heap (locs ++ L) (cells + mc) (slots + ms) Q (F0 m (pc + 3) ls (v.toList ++ rest))) : W p l e R s m args below meth c H locs cells slots Q (F0 m pc ls st0) := by
  intro T hT X
  obtain ⟨v, st₀, t, T', L, h0, X', hL, e1, e2, hq, st⟩ := hr T hT X
  obtain ⟨t2, a1, b1⟩ := kk v st₀ t L h0 hL hq T' e1 X'
  exact ⟨t2, st t2 a1, b1⟩
end RBW
section RBY
variable {p : Program} {l : Launch} {e : Env} {R : Room} {s : State} {m : MethodId} {args : Array Value} {below : List Frame} {meth : Method} {c : Code} {H : Heap} {locs : List Loc} {cells slots : Nat} {Q : State → Prop}
variable {cc : ByteArray} {pc : Nat} {ls : Array Slot} {rest : List Value} {D : va_G} {cl : List vw_C} {tys : List (ClassId × FieldType)} {a : Nat}
theorem rb_copy (hexec : p.tables.exec = Jvm.exec) (hb : c.code = cc) (hml : c.maxLocals = ls.size) {own : String} {index : Nat} (hown : s.vm.findClass own = some m.cls) (hlink : (Cond.methodLink own index arraycopyName).before args s = true) (hnat : (Cond.native arraycopyName).before args s = true) (hstat : (Cond.static arraycopyName).before args s = true) (hini : (Cond.initialized "java/lang/System").before args s = true)
    (hK : va_K D cl tys s) (t0 t1 : Nat) {a0 : Nat} {c0 c1 : ClassId} {n0 n1 : Nat} {f g : Nat → Int32} {ty : FieldType} (ha0 : va_at D cl (a0, .inl (c0, n0, .inl f)) H) (ha1 : va_at D cl (a, .inl (c1, n1, .inl g)) H) (ht0 : tys[t0]? = some (c0, ty)) (ht1 : tys[t1]? = some (c1, ty)) (hprim : refKind ty = false)
    {sp dp n : Int32} (h1 : ¬ sp < 0) (h2 : ¬ dp < 0) (h3 : ¬ n < 0) (h4 : sp.toNatClampNeg + n.toNatClampNeg ≤ n0) (h5 : dp.toNatClampNeg + n.toNatClampNeg ≤ n1) (hfit : ∀ i, i < n.toNatClampNeg → fits ty (.int (f (sp.toNatClampNeg + i))) = true)
    (hframes : 1 ≤ R.frames) (hlocals : (rest.map fun v => v.category).sum + (nativeFrameWords "java/lang/System" "arraycopy" 5 + 11) ≤ R.locals) (hdg : decode cc pc = .ok (.invokestatic index, 3))
    (kk : ∀ (H1 : Heap) (L1 : List Loc), va_at D cl (a, .inl (c1, n1, .inl (va_cpy f g sp.toNatClampNeg dp.toNatClampNeg n.toNatClampNeg))) H1 → H1.size = H.size → (∀ q, q ≠ a → H1[q]? = H[q]?) → (∀ q ∈ L1, q.base = a) → W p l e R s m args below meth c H1 (locs ++ L1) cells slots Q (F0 m (pc + 3) ls rest)) : W p l e R s m args below meth c H locs cells slots Q (F0 m pc ls (.int n :: .int dp :: .ref a :: .int sp :: .ref a0 :: rest)) := by
  have nn : ∀ z : Int32, ¬ z < 0 → z.toInt = (z.toNatClampNeg : Int) := by
    intro z hz
    have hz0 : (0 : Int) ≤ z.toInt := by
      have := Int32.not_lt.mp hz
      simpa using Int32.le_iff_toInt_le.mp this
    show z.toInt = ((z.toInt.toNat : Nat) : Int)
    omega
  intro T hT X
  have hc0 : H[a0]? = some (vp_cell c0 (n0, .inl f)) := ha0
  have hc1 : H[a]? = some (vp_cell c1 (n1, .inl g)) := ha1
  obtain ⟨-, k0, hk0, cm0, hkk0⟩ := (hK.2 t0 _ ht0).1 n0 (fun j => .int (f j))
  obtain ⟨-, k1, hk1, cm1, hkk1⟩ := (hK.2 t1 _ ht1).1 n1 (fun j => .int (g j))
  obtain ⟨vm', X', step⟩ := X.arraycopy hexec hown hlink hnat hstat hini (src := a0) (dst := a) (cs := vp_cell c0 (n0, .inl f)) (cd := vp_cell c1 (n1, .inl g)) (srcPos := sp) (destPos := dp) (n := n) (by rw [hT]; exact hc0) (by rw [hT]; exact hc1)
    (fun _ h => by cases h) (fun _ h => by cases h) (fun h => by cases h) (fun h => by cases h) hk0 hk1 hkk0 hkk1 (by simp [hprim]) h1 h2 h3
    (by rw [nn sp h1, nn n h3]; show ¬ _ > ((arrV c0 n0 (fun j => .int (f j))).slots.size : Int); rw [arrV_size]; omega)
    (by rw [nn dp h2, nn n h3]; show ¬ _ > ((arrV c1 n1 (fun j => .int (g j))).slots.size : Int); rw [arrV_size]; omega)
    (fun vm₁ _ i hi => by
      have e : (vp_cell c0 (n0, .inl f)).slots.getD (sp.toNatClampNeg + i) .null = .int (f (sp.toNatClampNeg + i)) := by
        show (arrV c0 n0 (fun j => .int (f j))).slots.getD _ _ = _
        rw [Array.getD_eq_getD_getElem?, arrV_read _ _ (by omega)]
        rfl
      refine ⟨?_, ?_⟩
      · rw [e]
        exact hfit i hi
      · rw [e]
        exact trivial)
    (g := F0 m pc ls (.int n :: .int dp :: .ref a :: .int sp :: .ref a0 :: rest)) rfl (by rw [hml]) (rest := rest) rfl (by rw [hb]; exact hdg) hframes (by show 2 * 0 + _ + _ ≤ _; omega)
  have e1 : copied (vp_cell c0 (n0, .inl f)) (vp_cell c1 (n1, .inl g)) sp dp n = vp_cell c1 (n1, .inl (va_cpy f g sp.toNatClampNeg dp.toNatClampNeg n.toNatClampNeg)) := va_copied (fun z => .int z) c0 c1 f g h4
  rw [e1] at X' step
  have hl : a < H.size := (Array.getElem?_eq_some_iff.mp hc1).1
  have hheap : ((T.setVm vm').setCell a (vp_cell c1 (n1, .inl (va_cpy f g sp.toNatClampNeg dp.toNatClampNeg n.toNatClampNeg)))).heap = H.setIfInBounds a (vp_cell c1 (n1, .inl (va_cpy f g sp.toNatClampNeg dp.toNatClampNeg n.toNatClampNeg))) := by rw [← hT]; rfl
  have oq : ∀ q : Nat, q ≠ a → (H.setIfInBounds a (vp_cell c1 (n1, .inl (va_cpy f g sp.toNatClampNeg dp.toNatClampNeg n.toNatClampNeg))))[q]? = H[q]? := fun q hq => by simp [Array.getElem?_setIfInBounds, Ne.symm hq]
  obtain ⟨t, a1, b1⟩ := kk _ _ (show (H.setIfInBounds a _)[a]? = some _ by simp [Array.getElem?_setIfInBounds, hl]) (by simp) oq (fun q hq => by
      obtain ⟨z, -, hz⟩ := List.mem_map.mp hq
      rw [← hz]) _ hheap X'
  exact ⟨t, step t a1, b1⟩
end RBY
/-- what a method's walk knows -/
def rb_In (p : Program) (R : Room) (s : State) (m : MethodId) (args : Array Value) (meth : Method) (c : Code) (cc : ByteArray) (nL o d : Nat) (ini : Bool) (D : va_G) (cA : Nat → ClassId) (φ : Nat → Nat) (base b L : Nat) (xs : Nat → Int32) (Hs : Heap) (adV : Nat → Nat) : Prop :=
  p.tables.exec = Jvm.exec ∧ c.code = cc ∧ c.maxLocals = nL ∧ s.vm.findClass (rb_own o) = some m.cls ∧ (∀ w ∈ rb_ws, w.before args s = true) ∧ rb_KK D cA φ base b L xs Hs adV s ∧ (ini = true → meth.name = "<init>") ∧
    (∀ k, 6 ≤ k → φ k = base + (k - 6)) ∧ φ 0 = b ∧ Hs.size = base ∧ b < base ∧ d + 1 ≤ R.frames ∧ 37 * (d + 1) ≤ R.locals
/-- a method's contract at depth d -/
def rb_Ct (l : Launch) (D : va_G) (cA : Nat → ClassId) (φ : Nat → Nat) (base b L : Nat) (xs : Nat → Int32) (Hs : Heap) (adV : Nat → Nat) (d : Nat) (M : rb_M) (As : List Value) (σ : rb_S) (r : Option Value) (σ' : rb_S) : Prop :=
  Met l M.2.1 (rb_pcd M :: rb_ws) { frames := d, cells := σ'.2.1 - σ.2.1, slots := σ'.2.2 - σ.2.2, locals := 37 * d } (va_Pc (As.map (rb_cv φ)) (fun U => rb_rel D cA φ base L xs Hs σ U.heap ∧ rb_KK D cA φ base b L xs Hs adV U)) (fun _ _ oc t => oc = .returned (r.map (rb_cv φ)) ∧ rb_rel D cA φ base L xs Hs σ' t.heap) (σ'.2.1 - σ.2.1) (σ'.2.2 - σ.2.2) (fun q => base ≤ q)
def rb_MD (l : Launch) (D : va_G) (cA : Nat → ClassId) (φ : Nat → Nat) (base b L : Nat) (xs : Nat → Int32) (Hs : Heap) (adV : Nat → Nat) (d : Nat) : Prop :=
  ∀ (mi : Nat) (As : List Value) (σ : rb_S) (r : Option Value) (σ' : rb_S) (M : rb_M), rb_R d mi As σ = some (r, σ') → rb_mth mi = some M → σ.2.1 ≤ σ'.2.1 ∧ σ.2.2 ≤ σ'.2.2 ∧ rb_Ct l D cA φ base b L xs Hs adV d M As σ r σ'
section RBS
variable {p : Program} {l : Launch} {e : Env} {R : Room} {s : State} {m : MethodId} {args : Array Value} {below : List Frame} {meth : Method} {c : Code} {Q : State → Prop}
variable {D : va_G} {cA : Nat → ClassId} {φ : Nat → Nat} {base b L : Nat} {xs : Nat → Int32} {Hs : Heap} {adV : Nat → Nat} {n0 s0 nL o d : Nat} {cc : ByteArray} {ini : Bool} {ret : Option FieldType}
/-- the walk from a state of the small machine on -/
def rb_Wf (p : Program) (l : Launch) (e : Env) (R : Room) (s : State) (m : MethodId) (args : Array Value) (below : List Frame) (meth : Method) (c : Code) (Q : State → Prop) (D : va_G) (cA : Nat → ClassId) (φ : Nat → Nat) (base L : Nat) (xs : Nat → Int32) (Hs : Heap) (n0 s0 nL : Nat) (pc : Nat) (ls : rb_L) (st : List Value) (σ : rb_S) : Prop :=
  ∀ (H : Heap) (locs : List Loc) (lr : Array Slot), rb_rel D cA φ base L xs Hs σ H → (∀ q ∈ locs, base ≤ q.base) → rb_LR φ nL ls lr → W p l e R s m args below meth c H locs (σ.2.1 - n0) (σ.2.2 - s0) Q (F0 m pc lr (st.map (rb_cv φ)))
theorem rb_sing {H : Heap} {q : Nat × va_E} (h : va_at D vwCl q H) : va_P D vwCl [q] H := by
  intro k x hx
  cases k with
  | zero => cases hx; exact h
  | succ k => cases hx
/-- the words of a callee are the caller's -/
theorem rb_pay {M : rb_M} (hts : ∀ w ∈ rb_ws, w.before args s = true) (hM : rb_pcd M ∈ rb_ws) : ∀ w ∈ rb_pcd M :: rb_ws, ∀ (a' : Array Value) (U : State), s.WarmedH U.vm → w.before a' U = true :=
  pay_in hts (fun w hw => by
    have h1 : w ∈ rb_ws := by
      rcases List.mem_cons.mp hw with h | h
      · rw [h]; exact hM
      · exact h
    exact ⟨h1, good_of_word (List.mem_filter.mp h1).2⟩)
theorem rb_blind {As : List Value} {σ : rb_S} : FrameBlind (va_Pc (As.map (rb_cv φ)) (fun U => rb_rel D cA φ base L xs Hs σ U.heap ∧ rb_KK D cA φ base b L xs Hs adV U)) := by
  intro a U g mk q
  obtain ⟨q1, q2, q3⟩ := q
  exact ⟨q1, q2, rb_KK.same (u := U) rfl q3⟩
/-- a call's outcome: goes on with what came back -/
theorem rb_cont {M : rb_M} {As rest : List Value} {pc : Nat} {ls : rb_L} {lr : Array Slot} {σ σ' : rb_S} {r : Option Value} {H : Heap} {locs : List Loc} {st0 : List Value} (h1 : n0 ≤ σ.2.1) (h2 : s0 ≤ σ.2.2) (h3 : σ.2.1 ≤ σ'.2.1) (h4 : σ.2.2 ≤ σ'.2.2) (hL : ∀ q ∈ locs, base ≤ q.base) (hl : rb_LR φ nL ls lr)
    (hr : va_Run p l e R s m args below meth c H locs (σ.2.1 - n0) (σ.2.2 - s0) (σ'.2.1 - σ.2.1) (σ'.2.2 - σ.2.2) (F0 m pc lr st0) (rest.map (rb_cv φ)) (fun _ oc t => oc = .returned (r.map (rb_cv φ)) ∧ rb_rel D cA φ base L xs Hs σ' t.heap) (fun q => base ≤ q))
    (k : rb_Wf p l e R s m args below meth c Q D cA φ base L xs Hs n0 s0 nL (pc + 3) ls (r.toList ++ rest) σ') : W p l e R s m args below meth c H locs (σ.2.1 - n0) (σ.2.2 - s0) Q (F0 m pc lr st0) := by
  refine rb_aft hr (fun v st₀ t L' h0 hf hq => ?_)
  obtain ⟨hv, hrel⟩ := hq
  have hv' : v = r.map (rb_cv φ) := Outcome.returned.inj hv
  have e1 : σ.2.1 - n0 + (σ'.2.1 - σ.2.1) = σ'.2.1 - n0 := by omega
  have e2 : σ.2.2 - s0 + (σ'.2.2 - σ.2.2) = σ'.2.2 - s0 := by omega
  rw [e1, e2]
  have e3 : v.toList ++ rest.map (rb_cv φ) = (r.toList ++ rest).map (rb_cv φ) := by
    rw [hv', List.map_append]
    cases r <;> rfl
  rw [e3]
  refine k t.heap (locs ++ L') lr hrel (fun q hq => ?_) hl
  rcases List.mem_append.mp hq with h | h
  · exact hL q h
  · exact hf q h
theorem rb_recv' {H : Heap} {σ : rb_S} {a ci : Nat} {C : String} {T : u_T} {N : Nat} {fs : List Value} (hK : va_K D vwCl (rb_tys cA) s) (hr : rb_rel D cA φ base L xs Hs σ H) (ha : σ.1 a = some (.inr (ci, fs))) (hc : vwCl[ci]? = some (C, T, N)) : ∃ cell : Cell, H[φ a]? = some cell ∧ cell.vm.isStatics = false ∧ s.vm.findClass C = some cell.cls := by
  obtain ⟨-, -, hat, -⟩ := hr.dyn ha (by intro z; cases z)
  exact va_recv (q := (C, T, N)) hK (rb_sing hat) hc (q0 := 0) rfl
theorem rb_isR_e {σ : rb_S} {ci : Nat} {As : List Value} (h : rb_isR σ ci As = true) : ∃ (a : Nat) (fs t : List Value), As = .ref a :: t ∧ σ.1 a = some (.inr (ci, fs)) := by
  unfold rb_isR at h
  split at h
  · rename_i a t
    split at h
    · rename_i c fs e
      have e2 : c = ci := by simpa using h
      exact ⟨a, fs, t, rfl, by rw [e, e2]⟩
    · cases h
  · cases h
theorem rb_isS_e {As : List Value} (h : rb_isS As = true) : ∃ (a : Nat) (t : List Value), As = .ref a :: t ∧ 1 ≤ a ∧ a < 6 := by
  unfold rb_isS at h
  split at h
  · rename_i a t
    simp only [Bool.and_eq_true, decide_eq_true_eq] at h
    exact ⟨a, t, rfl, h.1, h.2⟩
  · cases h
theorem rb_cat_ok {st : List Value} (h : rb_cat st = true) : ((st.map (rb_cv φ)).map fun v => v.category).sum ≤ 8 := by
  unfold rb_cat at h
  rw [decide_eq_true_eq] at h
  rw [List.map_map]
  have e : ((fun v : Value => v.category) ∘ rb_cv φ) = Value.category := funext fun v => rb_cv_cat v
  rw [e]
  exact h
theorem rb_split {st : List Value} (n : Nat) : st.map (rb_cv φ) = (((st.take n).reverse).map (rb_cv φ)).reverse ++ (st.drop n).map (rb_cv φ) := by
  rw [List.map_reverse, List.reverse_reverse, ← List.map_append, List.take_append_drop]
theorem rb_ret_e {C : rb_C} {mi pc : Nat} {ls : rb_L} {As rest : List Value} {σ : rb_S} {x : rb_A ⊕ rb_B} (h : rb_ret C mi pc ls As rest σ = some x) : ∃ r σ', C mi As σ = some (r, σ') ∧ x = .inl (pc + 3, ls, r.toList ++ rest, σ') := by
  unfold rb_ret at h
  split at h
  · rename_i r σ' e
    exact ⟨r, σ', e, (Option.some.inj h).symm⟩
  · cases h
/-- a call -/
theorem rb_call (I : rb_In p R s m args meth c cc nL o d ini D cA φ base b L xs Hs adV) (hC : rb_MD l D cA φ base b L xs Hs adV d) {e0 : Nat × Nat × Nat × Nat × Nat × Nat × Nat} {i form len pc : Nat} {ls : rb_L} {st : List Value} {σ : rb_S} {x : rb_A ⊕ rb_B} (he : rb_iv o i = some e0)
    (hd : decode cc pc = .ok ((if form = 0 then .invokestatic i else if form = 1 then .invokevirtual i else .invokespecial i), len)) (hn : rb_ivk (rb_R d) (some e0) form len pc ls st σ = some x) (h0 : n0 ≤ σ.2.1) (h1 : s0 ≤ σ.2.2) :
    ∃ a' : rb_A, x = .inl a' ∧ σ.2.1 ≤ a'.2.2.2.2.1 ∧ σ.2.2 ≤ a'.2.2.2.2.2 ∧ (a'.2.2.2.2.1 - n0 ≤ R.cells → a'.2.2.2.2.2 - s0 ≤ R.slots → rb_Wf p l e R s m args below meth c Q D cA φ base L xs Hs n0 s0 nL a'.1 a'.2.1 a'.2.2.1 a'.2.2.2 → rb_Wf p l e R s m args below meth c Q D cA φ base L xs Hs n0 s0 nL pc ls st σ) := by
  obtain ⟨hx, hb, hml, hown, hts, hKK, hini, hφ, hφ0, hHs, hbb, hRf, hRl⟩ := I
  obtain ⟨hi, hck⟩ := rb_iv_ok he
  obtain ⟨kind, mi, n, ci, w1, w2, w3⟩ := e0
  unfold rb_ivk at hn
  split at hn
  rotate_left
  · cases hn
  rename_i hlen
  subst hlen
  dsimp only at hn
  obtain ⟨k1, k2⟩ := rb_key (o := o) hi
  unfold rb_ick at hck
  dsimp only at hck
  rw [k1, k2] at hck
  -- the common part of a call with a contract
  have key : ∀ (M : rb_M) (r : Option Value) (σ' : rb_S) (As : List Value), rb_mth mi = some M → rb_R d mi As σ = some (r, σ') → σ'.2.1 - n0 ≤ R.cells → σ'.2.2 - s0 ≤ R.slots → rb_pcd M ∈ rb_ws ∧
      (σ'.2.1 - σ.2.1 = σ'.2.1 - σ.2.1 ∧ σ'.2.2 - σ.2.2 = σ'.2.2 - σ.2.2 ∧ d + 1 ≤ R.frames ∧ 8 + (M.2.2.2.1 + 11) + 37 * d ≤ R.locals) ∧ (σ.2.1 - n0 + (σ'.2.1 - σ.2.1) ≤ R.cells ∧ σ.2.2 - s0 + (σ'.2.2 - σ.2.2) ≤ R.slots) ∧ (Cond.initialized M.2.1.cls).before args s = true ∧ (M.2.1.cls ≠ "java/lang/invoke/MethodHandle" ∧ M.2.1.cls ≠ "java/lang/invoke/VarHandle") := by
    intro M r σ' As hM hR hc1 hc2
    obtain ⟨g1, g2, g3, g4, g5, g6, g7, g8⟩ := rb_mth_ok hM
    obtain ⟨m1, m2, m3⟩ := hC mi As σ r σ' M hR hM
    exact ⟨g1, ⟨rfl, rfl, hRf, by omega⟩, ⟨by omega, by omega⟩, hts _ g2, g4, g5⟩
  by_cases c0 : (kind = 0 ∨ kind = 3) ∧ form = 0
  · rw [if_pos c0] at hn
    obtain ⟨hk, hf⟩ := c0
    subst hf
    split at hn
    rotate_left
    · cases hn
    rename_i hcond
    obtain ⟨hle, hcat⟩ := hcond
    obtain ⟨r, σ', hR, hxx⟩ := rb_ret_e hn
    refine ⟨_, hxx, ?_⟩
    rw [if_neg (by omega), if_neg (by omega)] at hck
    cases hM : rb_mth mi with
    | none => rw [hM] at hck; cases hck
    | some M =>
      rw [hM] at hck
      obtain ⟨m1, m2, hMet⟩ := hC mi _ σ r σ' M hR hM
      refine ⟨m1, m2, fun hc1 hc2 kk H locs lr hrel hL hl => ?_⟩
      obtain ⟨g1, g2, g3, g4, g5⟩ := key M r σ' _ hM hR hc1 hc2
      have hnn : ((st.take n).reverse.map (rb_cv φ)).length = n := by simp; omega
      refine rb_cont (M := M) (As := (st.take n).reverse) (rest := st.drop n) h0 h1 m1 m2 hL hl ?_ kk
      rcases hk with hk | hk
      · subst hk
        dsimp only at hck
        rw [if_pos rfl] at hck
        simp only [rb_np, Bool.and_eq_true, decide_eq_true_eq] at hck
        obtain ⟨⟨hw, ha⟩, hp⟩ := hck
        exact va_runS (Ts := rb_ws) (own := rb_own o) (As := (st.take n).reverse.map (rb_cv φ)) ⟨hx, hb, hml, hown, hts⟩ hMet ⟨⟨g2.1, g2.2.1, g2.2.2.1, g2.2.2.2, rb_pay hts g1, List.mem_cons_self, hts _ g1, g4, g5, fun sig h => by rw [h] at hp; exact (Option.some.inj hp).symm, hts _ (rb_wat hw rfl)⟩, hts _ (rb_wat ha rfl)⟩ ⟨rb_blind, fun U hU hW => ⟨rfl, by rw [hU]; exact hrel, rb_KK.warm hW hKK⟩⟩ rfl hnn hl.1.1 (rb_split n) (lv_room (rb_cat_ok hcat)) hd g3
      · subst hk
        dsimp only at hck
        rw [if_neg (by decide), if_pos rfl] at hck
        simp only [rb_np, Bool.and_eq_true, decide_eq_true_eq] at hck
        obtain ⟨⟨hw, ha⟩, hp⟩ := hck
        exact va_runSN (Ts := rb_ws) (own := rb_own o) (host := "RootBoxes") (As := (st.take n).reverse.map (rb_cv φ)) ⟨hx, hb, hml, hown, hts⟩ hMet ⟨⟨⟨g2.1, g2.2.1, g2.2.2.1, g2.2.2.2, rb_pay hts g1, List.mem_cons_self⟩, hts _ g1, g4, g5, fun sig h => by rw [h] at hp; exact (Option.some.inj hp).symm, va_Nw.use rfl (hKK.2.2.1 _ _ _ _ _ hw)⟩, hts _ (rb_wat ha rfl), trivial⟩ ⟨rb_blind, fun U hU hW => ⟨rfl, by rw [hU]; exact hrel, rb_KK.warm hW hKK⟩⟩ rfl hnn hl.1.1 (rb_split n) (lv_room (rb_cat_ok hcat)) hd g3
  rw [if_neg c0] at hn
  by_cases c1 : kind = 1 ∧ form = 1
  · rw [if_pos c1] at hn
    obtain ⟨hk, hf⟩ := c1
    subst hf; subst hk
    split at hn
    rotate_left
    · cases hn
    rename_i hcond
    obtain ⟨hle, hcat, hrc⟩ := hcond
    obtain ⟨r, σ', hR, hxx⟩ := rb_ret_e hn
    refine ⟨_, hxx, ?_⟩
    rw [if_neg (by decide), if_neg (by decide)] at hck
    cases hM : rb_mth mi with
    | none => rw [hM] at hck; cases hck
    | some M =>
      rw [hM] at hck
      dsimp only at hck
      rw [if_neg (by decide), if_neg (by decide), if_pos rfl] at hck
      simp only [rb_np, Bool.and_eq_true, decide_eq_true_eq] at hck
      obtain ⟨⟨⟨⟨⟨hw, ha⟩, hsl⟩, hp⟩, hn1⟩, hcls⟩ := hck
      obtain ⟨m1, m2, hMet⟩ := hC mi _ σ r σ' M hR hM
      refine ⟨m1, m2, fun hc1 hc2 kk H locs lr hrel hL hl => ?_⟩
      obtain ⟨g1, g2, g3, g4, g5⟩ := key M r σ' _ hM hR hc1 hc2
      refine rb_cont (M := M) (As := (st.take n).reverse) (rest := st.drop n) h0 h1 m1 m2 hL hl ?_ kk
      have hsp := rb_split (φ := φ) (st := st) n
      obtain ⟨a, fs, t, eAs, hcell⟩ := rb_isR_e hrc
      have hlt : t.length = n - 1 := by
        have := congrArg List.length eAs
        simp at this
        omega
      rw [eAs] at hMet hsp
      cases hv : vwCl[ci]? with
      | none => rw [hv] at hcls; cases hcls
      | some q =>
        obtain ⟨C, T, N⟩ := q
        rw [hv] at hcls
        have hC' : C = M.2.1.cls := Option.some.inj hcls
        have hcell' := rb_recv' hKK.1 hrel hcell hv
        exact va_runV (Ts := rb_ws) (own := rb_own o) (C := C) (b := φ a) (As := t.map (rb_cv φ)) ⟨hx, hb, hml, hown, hts⟩ hMet ⟨⟨g2.1, g2.2.1, g2.2.2.1, g2.2.2.2, rb_pay hts g1, List.mem_cons_self, hts _ g1, g4, g5, fun sig h => by rw [h] at hp; exact (Option.some.inj hp).symm, hts _ (rb_wat hw rfl)⟩, hts _ (rb_wat ha rfl), by rw [hC']; exact hts _ (rb_wat hsl rfl)⟩ ⟨rb_blind, hcell', fun U hU hW => ⟨rfl, by rw [hU]; exact hrel, rb_KK.warm hW hKK⟩⟩ rfl (by rw [List.length_map]; exact hlt) hl.1.1 (by rw [show (F0 m pc lr (st.map (rb_cv φ))).stack = st.map (rb_cv φ) from rfl, hsp]; simp [rb_cv]) (lv_room (rb_cat_ok hcat)) hd g3
  rw [if_neg c1] at hn
  by_cases c2 : (kind = 2 ∨ kind = 5) ∧ form = 2
  · rw [if_pos c2] at hn
    obtain ⟨hk, hf⟩ := c2
    subst hf
    split at hn
    rotate_left
    · cases hn
    rename_i hcond
    obtain ⟨hle, hcat, hrc⟩ := hcond
    obtain ⟨r, σ', hR, hxx⟩ := rb_ret_e hn
    refine ⟨_, hxx, ?_⟩
    rw [if_neg (by omega), if_neg (by omega)] at hck
    cases hM : rb_mth mi with
    | none => rw [hM] at hck; cases hck
    | some M =>
      rw [hM] at hck
      obtain ⟨m1, m2, hMet⟩ := hC mi _ σ r σ' M hR hM
      refine ⟨m1, m2, fun hc1 hc2 kk H locs lr hrel hL hl => ?_⟩
      obtain ⟨g1, g2, g3, g4, g5⟩ := key M r σ' _ hM hR hc1 hc2
      refine rb_cont (M := M) (As := (st.take n).reverse) (rest := st.drop n) h0 h1 m1 m2 hL hl ?_ kk
      have hsp := rb_split (φ := φ) (st := st) n
      obtain ⟨a, fs, t, eAs, hcell⟩ := rb_isR_e hrc
      have hlt : t.length = n - 1 := by
        have := congrArg List.length eAs
        simp at this
        omega
      rw [eAs] at hMet hsp
      rcases hk with hk | hk
      · subst hk
        dsimp only at hck
        rw [if_neg (by decide), if_neg (by decide), if_neg (by decide), if_neg (by decide), if_pos rfl] at hck
        simp only [rb_np, Bool.and_eq_true, decide_eq_true_eq] at hck
        obtain ⟨⟨⟨⟨⟨hw, ha⟩, hp⟩, hn1⟩, hnm⟩, hrt⟩ := hck
        have hpc : Cond.code M.2.1 M.2.2.1 M.2.2.2.1 none = rb_pcd M := by unfold rb_pcd; rw [hrt]
        exact va_runI (Ts := rb_ws) (own := rb_own o) (bytes := M.2.2.1) (maxL := M.2.2.2.1) (b := φ a) (As := t.map (rb_cv φ)) ⟨hx, hb, hml, hown, hts⟩ hMet ⟨⟨g2.1, g2.2.1, g2.2.2.1, g2.2.2.2, rb_pay hts g1, by rw [hpc]; exact List.mem_cons_self, by rw [hpc]; exact hts _ g1, g4, g5, fun sig h => by rw [h] at hp; exact (Option.some.inj hp).symm, hts _ (rb_wat hw rfl)⟩, hnm, hts _ (rb_wat ha rfl)⟩ ⟨rb_blind, fun U hU hW => ⟨rfl, by rw [hU]; exact hrel, rb_KK.warm hW hKK⟩⟩ rfl (by rw [List.length_map]; exact hlt) hl.1.1 (by rw [show (F0 m pc lr (st.map (rb_cv φ))).stack = st.map (rb_cv φ) from rfl, hsp]; simp [rb_cv]) (lv_room (rb_cat_ok hcat)) hd g3
      · subst hk
        dsimp only at hck
        rw [if_neg (by decide), if_neg (by decide), if_neg (by decide), if_neg (by decide), if_neg (by decide), if_pos rfl] at hck
        simp only [rb_np, Bool.and_eq_true, decide_eq_true_eq] at hck
        obtain ⟨⟨⟨⟨⟨hw, ha⟩, hp⟩, hn1⟩, hnm⟩, hrt⟩ := hck
        have hpc : Cond.code M.2.1 M.2.2.1 M.2.2.2.1 none = rb_pcd M := by unfold rb_pcd; rw [hrt]
        exact va_runIN (Ts := rb_ws) (own := rb_own o) (host := "RootBoxes") (bytes := M.2.2.1) (maxL := M.2.2.2.1) (b := φ a) (As := t.map (rb_cv φ)) ⟨hx, hb, hml, hown, hts⟩ hMet ⟨⟨⟨g2.1, g2.2.1, g2.2.2.1, g2.2.2.2, rb_pay hts g1, by rw [hpc]; exact List.mem_cons_self⟩, by rw [hpc]; exact hts _ g1, g4, g5, fun sig h => by rw [h] at hp; exact (Option.some.inj hp).symm, va_Nw.use rfl (hKK.2.2.1 _ _ _ _ _ hw)⟩, hnm, hts _ (rb_wat ha rfl)⟩ ⟨rb_blind, fun U hU hW => ⟨rfl, by rw [hU]; exact hrel, rb_KK.warm hW hKK⟩⟩ rfl (by rw [List.length_map]; exact hlt) hl.1.1 (by rw [show (F0 m pc lr (st.map (rb_cv φ))).stack = st.map (rb_cv φ) from rfl, hsp]; simp [rb_cv]) (lv_room (rb_cat_ok hcat)) hd g3
  rw [if_neg c2] at hn
  by_cases c8 : kind = 8 ∧ form = 1
  · rw [if_pos c8] at hn
    obtain ⟨hk, hf⟩ := c8
    subst hf; subst hk
    split at hn
    rotate_left
    · cases hn
    rename_i hcond
    obtain ⟨hle, hcat, hrc⟩ := hcond
    obtain ⟨r, σ', hR, hxx⟩ := rb_ret_e hn
    refine ⟨_, hxx, ?_⟩
    rw [if_neg (by decide), if_neg (by decide)] at hck
    cases hM : rb_mth mi with
    | none => rw [hM] at hck; cases hck
    | some M =>
      rw [hM] at hck
      dsimp only at hck
      rw [if_neg (by decide), if_neg (by decide), if_neg (by decide), if_pos rfl] at hck
      simp only [rb_np, Bool.and_eq_true, decide_eq_true_eq] at hck
      obtain ⟨⟨⟨⟨⟨hw, ha⟩, hsl⟩, hp⟩, hn1⟩, hcls⟩ := hck
      obtain ⟨m1, m2, hMet⟩ := hC mi _ σ r σ' M hR hM
      refine ⟨m1, m2, fun hc1 hc2 kk H locs lr hrel hL hl => ?_⟩
      obtain ⟨g1, g2, g3, g4, g5⟩ := key M r σ' _ hM hR hc1 hc2
      refine rb_cont (M := M) (As := (st.take n).reverse) (rest := st.drop n) h0 h1 m1 m2 hL hl ?_ kk
      have hsp := rb_split (φ := φ) (st := st) n
      obtain ⟨a, t, eAs, ha1, ha2⟩ := rb_isS_e hrc
      have hlt : t.length = n - 1 := by
        have := congrArg List.length eAs
        simp at this
        omega
      rw [eAs] at hMet hsp
      have hcell' : ∃ cell : Cell, H[φ a]? = some cell ∧ cell.vm.isStatics = false ∧ s.vm.findClass M.2.1.cls = some cell.cls := by
        obtain ⟨cell, z1, z2, z3, z4⟩ := (hKK.2.2.2.2.2.1.1 (a - 1) (by omega)).1
        have ea : a - 1 + 1 = a := by omega
        dsimp only at z1 z4
        rw [ea] at z1 z4
        exact ⟨cell, by rw [hrel.2.2.1 _ (Nat.not_le.mp z4)]; exact z1, z2, by rw [hcls]; exact z3⟩
      exact va_runV (Ts := rb_ws) (own := rb_own o) (C := M.2.1.cls) (b := φ a) (As := t.map (rb_cv φ)) ⟨hx, hb, hml, hown, hts⟩ hMet ⟨⟨g2.1, g2.2.1, g2.2.2.1, g2.2.2.2, rb_pay hts g1, List.mem_cons_self, hts _ g1, g4, g5, fun sig h => by rw [h] at hp; exact (Option.some.inj hp).symm, hts _ (rb_wat hw rfl)⟩, hts _ (rb_wat ha rfl), hts _ (rb_wat hsl rfl)⟩ ⟨rb_blind, hcell', fun U hU hW => ⟨rfl, by rw [hU]; exact hrel, rb_KK.warm hW hKK⟩⟩ rfl (by rw [List.length_map]; exact hlt) hl.1.1 (by rw [show (F0 m pc lr (st.map (rb_cv φ))).stack = st.map (rb_cv φ) from rfl, hsp]; simp [rb_cv]) (lv_room (rb_cat_ok hcat)) hd g3
  rw [if_neg c8] at hn
  by_cases c6 : kind = 6 ∧ form = 2
  · rw [if_pos c6] at hn
    obtain ⟨hk, hf⟩ := c6
    subst hf; subst hk
    obtain ⟨a, t, rfl, hn2⟩ := rb_pr_e hn
    by_cases hcat : rb_cat t = true
    rotate_left
    · rw [if_neg hcat] at hn2
      cases hn2
    rw [if_pos hcat] at hn2
    refine ⟨_, (Option.some.inj hn2).symm, Nat.le_refl _, Nat.le_refl _, fun hc1 hc2 kk H locs lr hrel hL hl => ?_⟩
    rw [if_pos rfl] at hck
    simp only [decide_eq_true_eq] at hck
    have hq := rb_cat_ok (φ := φ) hcat
    exact W.objInit hx hb hown (hts _ (rb_wat hck rfl)) (hts _ rb_w_oi) (hts _ rb_w_oc) rfl (by rw [hml]; exact hl.1.1) rfl hd (by omega) (by show 2 * 0 + _ + 12 ≤ _; omega) (kk H locs lr hrel hL hl)
  rw [if_neg c6] at hn
  by_cases c7 : kind = 7 ∧ form = 0
  · rw [if_pos c7] at hn
    obtain ⟨hk, hf⟩ := c7
    subst hf; subst hk
    split at hn
    rotate_left
    · cases hn
    rename_i nn dp dd sp ss t
    obtain ⟨t0, z0, f, hcs, hn2⟩ := rb_arI_e hn
    obtain ⟨t1, z1, g, hcd, hn3⟩ := rb_arI_e hn2
    by_cases hcond : t0 = 0 ∧ t1 = 0 ∧ ¬ sp < 0 ∧ ¬ dp < 0 ∧ ¬ nn < 0 ∧ sp.toNatClampNeg + nn.toNatClampNeg ≤ z0 ∧ dp.toNatClampNeg + nn.toNatClampNeg ≤ z1 ∧ rb_cat t = true
    rotate_left
    · rw [if_neg hcond] at hn3
      cases hn3
    rw [if_pos hcond] at hn3
    obtain ⟨rfl, rfl, y1, y2, y3, y4, y5, hcat⟩ := hcond
    refine ⟨_, (Option.some.inj hn3).symm, Nat.le_refl _, Nat.le_refl _, fun hc1 hc2 kk H locs lr hrel hL hl => ?_⟩
    rw [if_neg (by decide), if_pos rfl] at hck
    simp only [decide_eq_true_eq] at hck
    obtain ⟨s1, s2, s3, -⟩ := hrel.dyn hcs (by intro z; cases z)
    obtain ⟨d1, d2, d3, -⟩ := hrel.dyn hcd (by intro z; cases z)
    have hq := rb_cat_ok (φ := φ) hcat
    have e9 : nativeFrameWords "java/lang/System" "arraycopy" 5 ≤ 17 := by decide +kernel
    exact rb_copy hx hb (hml.trans hl.1.1.symm) hown (hts _ (rb_wat hck rfl)) (hts _ rb_w_an) (hts _ rb_w_as) (hts _ rb_w_ai) hKK.1 0 0 s3 d3 rfl rfl rfl y1 y2 y3 y4 y5 (fun _ _ => rfl) (by omega) (by omega) hd (fun H1 L1 e1 e2 e3 e4 => kk H1 (locs ++ L1) lr (hrel.wr hφ d1 d2 e1 (fun n g z => by cases z) e2 e3) (fun q hq => by
        rcases List.mem_append.mp hq with h | h
        · exact hL q h
        · rw [e4 q h, hφ dd d1]; exact Nat.le_add_right _ _) hl)
  rw [if_neg c7] at hn
  cases hn
end RBS
