/-! THE CLAIM OUT OF ONE WALK OF THE LAW'S BODY. Your part is whole_start (and what it stands on); all else here is the same for every law, but numbers. -/
def R_law : String := "RootBoxesLaw"
def lw_P (b : Addr) (xs : List Int32) (args : Array Value) (s : State) : Prop := args = #[.ref b] ∧ s.IntsAt b xs ∧ xs.length ≤ 2560 ∧ (Jvm.Cond.and given_1 narrow_1).before args s = true
def lw_Q (_ : Array Value) (s : State) (o : Outcome) (t : State) : Prop := o = .returned (some (.int 1)) ∧ Framed s o t [] 600000 7302250
def lw_Z (below : List Frame) (a : Array Value) (s : State) : State → Prop := fun t => ∃ o, t.status = .running ∧ Ended t below o ∧ lw_Q a s o t
/-- the law's own end, with 1 on the stack, nothing written that was there before, its room as the claim has it -/
theorem lw_ret {p : Program} {l : Launch} {e : Env} {s : State} {m : MethodId} {below : List Frame} {meth : Method} {c : Code} {b : Nat} (hx : p.tables.exec = Jvm.exec) (hb : c.code = code) (hr : meth.sig.returnType = ret) (hlocks : meth.locks = false) {pc : Nat} {H : Heap} {ls : Array Slot} (hdg : decode code pc = .ok (.ireturn, 1)) : W p l e room_1 s m #[Value.ref b] below meth c H [] 600000 7302250 (lw_Z below #[Value.ref b] s) (F0 m pc ls [.int 1]) := by
  intro T hT X
  obtain ⟨fs, hret, hrun, hended, hW, hframe⟩ := X.leave (v := some (.int 1)) (hlocks := hlocks) (fun h => by rw [hr] at h; cases h)
  have hmeth' : T.vm.method? m = some meth := X.method'
  refine ⟨T.setFrames fs, ?_, .returned (some (.int 1)), hrun, hended, rfl, ⟨_, rfl⟩, hW, hframe⟩
  jvm_step X.here [X.here.top, hx, hb, hdg, hmeth', hr, ret, narrow_b1]
  (try refine ⟨rfl, ?_⟩); (try refine ⟨rfl, ?_⟩)
  first | (intro acts; rw [hret _ acts rfl rfl rfl]) | rw [hret _ _ rfl rfl rfl]
  exact Steps.refl _
/-- what holds at the law's entry: the machine, the code, the tables' words (any of lw_tbl by 'hts w (by decide +kernel)'), the script of L ints xs at the cell b, what the Statement gives of the start (any of its parts by flat_of_before) -/
def lw_At (p : Program) (s : State) (m : MethodId) (meth : Method) (c : Code) (b L : Nat) (xs : Nat → Int32) : Prop :=
  p.tables.exec = Jvm.exec ∧ c.code = code ∧ meth.sig.returnType = ret ∧ c.maxLocals = 4 ∧ s.vm.findClass R_law = some m.cls ∧ (∀ w ∈ lw_tbl, w.before #[Value.ref b] s = true) ∧ va_X b L xs s s.heap ∧ b < s.heap.size ∧ meth.locks = false ∧ (Jvm.Cond.and given_1 narrow_1).before #[Value.ref b] s = true

theorem rb_inst : ∀ (ci : Nat) (C : String) (T : u_T) (N : Nat), vwCl[ci]? = some (C, T, N) → Cond.instantiable C N ∈ rb_ws := by
  intro ci C T N h
  match ci, h with
  | 0, h => cases h; exact rb_wat (i := 236) (by decide +kernel) rfl
  | 1, h => cases h; exact rb_wat (i := 146) (by decide +kernel) rfl
  | 2, h => cases h; exact rb_wat (i := 123) (by decide +kernel) rfl
  | 3, h => cases h; exact rb_wat (i := 226) (by decide +kernel) rfl
  | 4, h => cases h; exact rb_wat (i := 95) (by decide +kernel) rfl
  | 5, h => cases h; exact rb_wat (i := 129) (by decide +kernel) rfl
  | 6, h => cases h; exact rb_wat (i := 220) (by decide +kernel) rfl
  | 7, h => cases h; exact rb_wat (i := 81) (by decide +kernel) rfl
  | 8, h => cases h; exact rb_wat (i := 73) (by decide +kernel) rfl
  | 9, h => cases h; exact rb_wat (i := 911) (by decide +kernel) rfl
  | k + 10, h => simp [vwCl] at h
theorem rb_strw : ∀ i, i < 5 → Cond.stringRef RX4 (rb_strI.getD i 0) (rb_strT.getD i "") ∈ lw_tbl := by
  intro i hi
  match i, hi with
  | 0, _ => exact List.mem_of_getElem? (i := 353) (by decide +kernel)
  | 1, _ => exact List.mem_of_getElem? (i := 406) (by decide +kernel)
  | 2, _ => exact List.mem_of_getElem? (i := 407) (by decide +kernel)
  | 3, _ => exact List.mem_of_getElem? (i := 408) (by decide +kernel)
  | 4, _ => exact List.mem_of_getElem? (i := 409) (by decide +kernel)
  | k + 5, hi => exact absurd hi (by omega)
/-- the start of the small machine: the script alone -/
def rb_s0 (L : Nat) (xs : Nat → Int32) : rb_S := (fun k => if k = 0 then some (.inl (9, L, .inl xs)) else none, 6, 0)
/-- what is left to show, of the small machine alone -/
def rb_Goal : Prop := ∀ (L : Nat) (xs : Nat → Int32), L ≤ 2560 → ∃ σ' : rb_S, rb_lim (rb_stp (rb_R 11) rb_law) (0, [some (.ref 0), none, none, none], [], rb_s0 L xs) = some (some (.int 1), σ') ∧ σ'.2.1 ≤ 600000 ∧ σ'.2.2 ≤ 7302250
set_option maxHeartbeats 4000000 in
set_option maxRecDepth 100000 in
theorem whole_of (hgoal : rb_Goal) {p : Program} {e : Env} {s : State} {m : MethodId} {below : List Frame} {meth : Method} {c : Code} (l : Launch) {b L : Nat} {xs : Nat → Int32} (hL : L ≤ 2560) (C0 : lw_At p s m meth c b L xs) : W p l e room_1 s m #[Value.ref b] below meth c s.heap [] 0 0 (lw_Z below #[Value.ref b] s) (entryFrame m ([Value.ref b] : List Value).toArray 4) := by
  obtain ⟨hx, hb, hr, hml, hown, htl, hX, hbl, hlocks, hgv⟩ := id C0
  have hts : ∀ w ∈ rb_ws, w.before #[Value.ref b] s = true := fun w hw => htl w (List.mem_filter.mp hw).1
  have hA : ∀ a : Nat, a < s.heap.size → ¬ (fun q => s.heap.size ≤ q) a := fun a h => Nat.not_le.mpr h
  have hs := flat_of_before _ hgv
  -- the classes
  have hcl : ∀ k : Nat, ∃ z : ClassId × (Nat → Nat), ∀ q : vw_C, vwCl[k]? = some q → u_Kn s q.1 q.2.1 q.2.2 z.1 z.2 := by
    intro k
    cases hk : vwCl[k]? with
    | none => exact ⟨(0, fun _ => 0), fun q h => by cases h⟩
    | some q =>
      obtain ⟨C, T, N⟩ := q
      obtain ⟨c0, i0, h0⟩ := u_known (C := C) (T := T) (N := N) (n := N) hts (rb_clf k C T N hk).1 (hts _ (rb_inst k C T N hk))
      exact ⟨(c0, i0), fun q h => by cases h; exact h0⟩
  obtain ⟨zz, hzz⟩ := Classical.axiomOfChoice hcl
  -- the array classes
  obtain ⟨cI, kI, compI, i1, i2, i3⟩ := Cond.arrayClass_spec (hts _ rb_w_cI)
  obtain ⟨cJ, kJ, compJ, j1, j2, j3⟩ := Cond.arrayClass_spec (hts _ rb_w_cJ)
  have ao2 : va_AO RX5 s := va_AO.of (A := #[Value.ref b]) (htl _ (List.mem_of_getElem? (i := 152) (by decide +kernel)))
  have ao3 : va_AO RX6 s := va_AO.of (A := #[Value.ref b]) (htl _ (List.mem_of_getElem? (i := 279) (by decide +kernel)))
  obtain ⟨comp2, c2, k2, p1, -, p3, p4, p5⟩ := Cond.arrayOver_spec ao2
  obtain ⟨comp3, c3, k3, q1, -, q3, q4, q5⟩ := Cond.arrayOver_spec ao3
  -- the texts
  obtain ⟨adK, adV, hStr, hEv⟩ := vk_Sof (args := #[Value.ref b]) (s := s) (N := 5) (tm := fun i => Term.string RX4 (rb_strI.getD i 0)) (len := rb_strN) (byt := rb_strB) (A := fun q => s.heap.size ≤ q) (by decide +kernel)
    (fun i hi => hs _ ((by decide +kernel : ∀ i, i < 5 → Cond.exactly (Term.string RX4 (rb_strI.getD i 0)) "java/lang/String" ∈ flatC (Jvm.Cond.and given_1 narrow_1)) i hi))
    (fun i hi => hs _ ((by decide +kernel : ∀ i, i < 5 → Cond.eq (.field (Term.string RX4 (rb_strI.getD i 0)) "java/lang/String" "coder" "B") (.int 0) ∈ flatC (Jvm.Cond.and given_1 narrow_1)) i hi))
    (fun i hi => hs _ ((by decide +kernel : ∀ i, i < 5 → Cond.arrayOf (.field (Term.string RX4 (rb_strI.getD i 0)) "java/lang/String" "value" "[B") .byte ∈ flatC (Jvm.Cond.and given_1 narrow_1)) i hi))
    (fun i hi => hs _ ((by decide +kernel : ∀ i, i < 5 → Cond.eq (.length (.field (Term.string RX4 (rb_strI.getD i 0)) "java/lang/String" "value" "[B")) (.int (Int32.ofNat (rb_strN.getD i 0))) ∈ flatC (Jvm.Cond.and given_1 narrow_1)) i hi))
    (fun i hi j hj => hs _ ((by decide +kernel : ∀ i, i < 5 → ∀ j, j < rb_strN.getD i 0 → Cond.eq (.elem (.field (Term.string RX4 (rb_strI.getD i 0)) "java/lang/String" "value" "[B") (.int (Int32.ofNat j))) (.int ((rb_strB.getD i []).getD j 0)) ∈ flatC (Jvm.Cond.and given_1 narrow_1)) i hi j hj))
    (fun i j hi hj hij => ((by decide +kernel : ∀ i, i < 5 → ∀ j, j < 5 → i ≠ j → (Cond.not (Cond.eq (Term.string RX4 (rb_strI.getD i 0)) (Term.string RX4 (rb_strI.getD j 0)))) ∈ flatC (Jvm.Cond.and given_1 narrow_1) ∨ (Cond.not (Cond.eq (Term.string RX4 (rb_strI.getD j 0)) (Term.string RX4 (rb_strI.getD i 0)))) ∈ flatC (Jvm.Cond.and given_1 narrow_1)) i hi j hj hij).imp (hs _) (hs _)) hA
  have hZ : va_Z "java/lang/String" "COMPACT_STRINGS" "Z" (.int 1) (fun q => s.heap.size ≤ q) s s.heap := va_Zof (htl _ (List.mem_of_getElem? (i := 367) (by decide +kernel))) (htl _ (List.mem_of_getElem? (i := 66) (by decide +kernel))) (va_eqi (hs _ (by decide +kernel))) hA
  have hZq : va_Zq "jdk/internal/util/Preconditions" "SIOOBE_FORMATTER" "Ljava/util/function/BiFunction;" (fun q => s.heap.size ≤ q) s s.heap := va_Zqof (htl _ (List.mem_of_getElem? (i := 383) (by decide +kernel))) (htl _ (List.mem_of_getElem? (i := 68) (by decide +kernel))) (hs _ (by decide +kernel)) hA
  obtain ⟨D, hD⟩ : ∃ D : va_G, D = (fun k => (zz k).1, fun k => (zz k).2) := ⟨_, rfl⟩
  obtain ⟨cA, hcA⟩ : ∃ cA : Nat → ClassId, cA = fun t => if t = 0 then cI else if t = 1 then cJ else if t = 2 then c2 else c3 := ⟨_, rfl⟩
  obtain ⟨φ, hφd⟩ : ∃ φ : Nat → Nat, φ = fun k => if k = 0 then b else if k < 6 then adK (k - 1) else s.heap.size + (k - 6) := ⟨_, rfl⟩
  have hφ : ∀ k, 6 ≤ k → φ k = s.heap.size + (k - 6) := fun k hk => by
    rw [hφd]
    show (if k = 0 then b else if k < 6 then adK (k - 1) else s.heap.size + (k - 6)) = _
    rw [if_neg (by omega), if_neg (by omega)]
  have hφ0 : φ 0 = b := by rw [hφd]; rfl
  have hφs : ∀ i, i < 5 → φ (i + 1) = adK i := fun i hi => by
    rw [hφd]
    show (if i + 1 = 0 then b else if i + 1 < 6 then adK (i + 1 - 1) else s.heap.size + (i + 1 - 6)) = _
    rw [if_neg (by omega), if_pos (by omega), Nat.add_sub_cancel]
  have hK : va_K D vwCl (rb_tys cA) s := by
    refine ⟨fun k q hq => by rw [hD]; exact hzz k q hq, fun k q hq => ?_⟩
    match k, hq with
    | 0, hq => cases hq; rw [hcA]; exact ⟨fun n z => ⟨fun k h => (by cases h), kI, i2, compI, i3⟩, i1⟩
    | 1, hq => cases hq; rw [hcA]; exact ⟨fun n z => ⟨fun k h => (by cases h), kJ, j2, compJ, j3⟩, j1⟩
    | 2, hq => cases hq; rw [hcA]; exact ⟨fun n z => ⟨fun k h => (by cases h), k2, p3, comp2, p4⟩, k2, comp2, p3, p4, p1, p5⟩
    | 3, hq => cases hq; rw [hcA]; exact ⟨fun n z => ⟨fun k h => (by cases h), k3, q3, comp3, q4⟩, k3, comp3, q3, q4, q1, q5⟩
    | k + 4, hq => simp [rb_tys] at hq
  have hKK : rb_KK D cA φ s.heap.size b L xs s.heap adV s := by
    refine ⟨hK, hX, fun k a i y h hw => va_Nw.of (A := #[Value.ref b]) rfl (htl _ (List.mem_of_getElem? hw)), ⟨ao2, ao3⟩, fun i hi => ?_, ⟨fun i hi => ?_, fun i j hi hj hij => ?_⟩, hZ, hZq⟩
    · rw [hφs i hi]
      refine vk_R.of (A := #[Value.ref b]) ?_ (hEv i hi)
      exact htl _ (rb_strw i hi)
    · dsimp only
      rw [hφs i hi]
      exact hStr.1 i hi
    · dsimp only at hij
      rw [hφs i hi, hφs j hj] at hij
      exact hStr.2 i j hi hj hij
  have hrel : rb_rel D cA φ s.heap.size L xs s.heap (rb_s0 L xs) s.heap := by
    refine ⟨Nat.le_refl _, by show s.heap.size = s.heap.size + (6 - 6); omega, fun q _ => rfl, fun k cc hk => ?_⟩
    change (if k = 0 then some (Sum.inl (9, L, Sum.inl xs)) else none) = some cc at hk
    by_cases e0 : k = 0
    · rw [if_pos e0] at hk
      exact Or.inl ⟨e0, (Option.some.inj hk).symm⟩
    · rw [if_neg e0] at hk
      cases hk
  obtain ⟨σ', hrun, hc1, hc2⟩ := hgoal L xs hL
  obtain ⟨n, hn⟩ := rb_lim_ex hrun
  have hown' : s.vm.findClass (rb_own 10) = some m.cls := hown
  have I : rb_In p room_1 s m #[Value.ref b] meth c code 4 10 11 false D cA φ s.heap.size b L xs s.heap adV :=
    ⟨hx, hb, hml, hown', hts, hKK, (fun h => by cases h), hφ, hφ0, rfl, hbl, Nat.le_of_ble_eq_true rfl, Nat.le_of_ble_eq_true rfl⟩
  obtain ⟨-, -, hwalk⟩ := rb_run (n0 := 6) (s0 := 0) (ret := some .boolean) (e := e) (below := below) (Q := lw_Z below #[Value.ref b] s) I (rb_MDall hφ hφ0 rfl hbl 11) n (0, [some (.ref 0), none, none, none], [], rb_s0 L xs) hn (Nat.le_refl _) (Nat.le_refl _)
  have hl := lv_entry ([.ref b]) (n := 4) (Nat.le_of_ble_eq_true rfl)
  rw [lg_entry_eq]
  refine hwalk (by show σ'.2.1 - 6 ≤ 600000; omega) (by show σ'.2.2 - 0 ≤ 7302250; omega) ?_ s.heap [] _ hrel (fun q hq => by cases hq) ⟨?_, rfl⟩
  · intro pc ls st hend H locs lr hr2 hL2 hl2
    rcases hend with ⟨x, ty, e1, rfl, e3, -, -⟩ | ⟨x, e1, rfl, e3, -⟩ | ⟨x, ty, e1, rfl, e3, -, -⟩ | ⟨e1, rfl, e3, -⟩
    · cases e3
      refine va_forget hL2 ?_
      refine W.widen (k := 600000) (n := 7302250) (by omega) (by omega) ?_
      exact lw_ret hx hb hr hlocks e1
    · cases e3
    · cases e3
    · cases e3
  · have e0 : rb_as φ 0 [some (.ref 0), none, none, none] = [(0, .ref b)] := by
      show [(0, Value.ref (φ 0))] = [(0, .ref b)]
      rw [hφ0]
    rw [e0]
    exact hl
