/-! ===== what the tables' words say of the program's tables ===== -/
def rb_ws : List Cond := lw_tbl.filter goodWord
theorem rb_wat {i : Nat} {w : Cond} (h : lw_tbl[i]? = some w) (hg : goodWord w = true) : w ∈ rb_ws := List.mem_filter.mpr ⟨List.mem_of_getElem? h, hg⟩
theorem rb_lk {β : Type} {k : Nat} {v : β} : ∀ {l : List (Nat × β)}, l.lookup k = some v → (k, v) ∈ l := by
  intro l
  induction l with
  | nil => intro h; exact absurd h (by simp)
  | cons q l ih =>
    obtain ⟨a, b⟩ := q
    intro h
    rw [List.lookup_cons] at h
    by_cases e : (k == a) = true
    · rw [e] at h
      have e2 : k = a := by simpa using e
      rw [e2, Option.some.inj h]
      exact List.mem_cons_self
    · have e3 : (k == a) = false := by simpa using e
      rw [e3] at h
      exact List.mem_cons_of_mem _ (ih h)
theorem rb_key {o i : Nat} (h : i < 10000) : (o * 10000 + i) / 10000 = o ∧ (o * 10000 + i) % 10000 = i := by omega
theorem cw_0 : ∀ w ∈ u_ws RX0 TX0 3, w ∈ rb_ws := by
  have e : u_ws RX0 TX0 3 = ([247, 249, 251] : List Nat).filterMap (fun i => lw_tbl[i]?) := by decide +kernel
  have g : (u_ws RX0 TX0 3).all goodWord = true := by decide +kernel
  intro w hw
  have hg := List.all_eq_true.mp g w hw
  rw [e] at hw
  obtain ⟨j, -, hj⟩ := List.mem_filterMap.mp hw
  exact rb_wat hj hg
theorem cd_0 : (rb_def 0).length = 3 ∧ ∀ j, j < 3 → defaultValue (rb_tyF 0 j) = vp_V (rb_def 0) j := by decide +kernel
theorem cw_1 : ∀ w ∈ u_ws RX1 TX1 1, w ∈ rb_ws := by
  have e : u_ws RX1 TX1 1 = ([155] : List Nat).filterMap (fun i => lw_tbl[i]?) := by decide +kernel
  have g : (u_ws RX1 TX1 1).all goodWord = true := by decide +kernel
  intro w hw
  have hg := List.all_eq_true.mp g w hw
  rw [e] at hw
  obtain ⟨j, -, hj⟩ := List.mem_filterMap.mp hw
  exact rb_wat hj hg
theorem cd_1 : (rb_def 1).length = 1 ∧ ∀ j, j < 1 → defaultValue (rb_tyF 1 j) = vp_V (rb_def 1) j := by decide +kernel
theorem cw_2 : ∀ w ∈ u_ws RX2 TX2 20, w ∈ rb_ws := by
  have e : u_ws RX2 TX2 20 = ([178, 180, 182, 184, 186, 188, 190, 192, 194, 196, 198, 200, 202, 204, 206, 208, 210, 212, 214, 216] : List Nat).filterMap (fun i => lw_tbl[i]?) := by decide +kernel
  have g : (u_ws RX2 TX2 20).all goodWord = true := by decide +kernel
  intro w hw
  have hg := List.all_eq_true.mp g w hw
  rw [e] at hw
  obtain ⟨j, -, hj⟩ := List.mem_filterMap.mp hw
  exact rb_wat hj hg
theorem cd_2 : (rb_def 2).length = 20 ∧ ∀ j, j < 20 → defaultValue (rb_tyF 2 j) = vp_V (rb_def 2) j := by decide +kernel
theorem cw_3 : ∀ w ∈ u_ws RX3 TX3 1, w ∈ rb_ws := by
  have e : u_ws RX3 TX3 1 = ([232] : List Nat).filterMap (fun i => lw_tbl[i]?) := by decide +kernel
  have g : (u_ws RX3 TX3 1).all goodWord = true := by decide +kernel
  intro w hw
  have hg := List.all_eq_true.mp g w hw
  rw [e] at hw
  obtain ⟨j, -, hj⟩ := List.mem_filterMap.mp hw
  exact rb_wat hj hg
theorem cd_3 : (rb_def 3).length = 1 ∧ ∀ j, j < 1 → defaultValue (rb_tyF 3 j) = vp_V (rb_def 3) j := by decide +kernel
theorem cw_4 : ∀ w ∈ u_ws RX4 TX4 7, w ∈ rb_ws := by
  have e : u_ws RX4 TX4 7 = ([107, 109, 111, 113, 115, 117, 119] : List Nat).filterMap (fun i => lw_tbl[i]?) := by decide +kernel
  have g : (u_ws RX4 TX4 7).all goodWord = true := by decide +kernel
  intro w hw
  have hg := List.all_eq_true.mp g w hw
  rw [e] at hw
  obtain ⟨j, -, hj⟩ := List.mem_filterMap.mp hw
  exact rb_wat hj hg
theorem cd_4 : (rb_def 4).length = 7 ∧ ∀ j, j < 7 → defaultValue (rb_tyF 4 j) = vp_V (rb_def 4) j := by decide +kernel
theorem cw_5 : ∀ w ∈ u_ws RX5 TX5 2, w ∈ rb_ws := by
  have e : u_ws RX5 TX5 2 = ([140, 142] : List Nat).filterMap (fun i => lw_tbl[i]?) := by decide +kernel
  have g : (u_ws RX5 TX5 2).all goodWord = true := by decide +kernel
  intro w hw
  have hg := List.all_eq_true.mp g w hw
  rw [e] at hw
  obtain ⟨j, -, hj⟩ := List.mem_filterMap.mp hw
  exact rb_wat hj hg
theorem cd_5 : (rb_def 5).length = 2 ∧ ∀ j, j < 2 → defaultValue (rb_tyF 5 j) = vp_V (rb_def 5) j := by decide +kernel
theorem cw_6 : ∀ w ∈ u_ws RX6 TX6 8, w ∈ rb_ws := by
  have e : u_ws RX6 TX6 8 = ([262, 264, 266, 268, 270, 272, 274, 276] : List Nat).filterMap (fun i => lw_tbl[i]?) := by decide +kernel
  have g : (u_ws RX6 TX6 8).all goodWord = true := by decide +kernel
  intro w hw
  have hg := List.all_eq_true.mp g w hw
  rw [e] at hw
  obtain ⟨j, -, hj⟩ := List.mem_filterMap.mp hw
  exact rb_wat hj hg
theorem cd_6 : (rb_def 6).length = 8 ∧ ∀ j, j < 8 → defaultValue (rb_tyF 6 j) = vp_V (rb_def 6) j := by decide +kernel
theorem cw_7 : ∀ w ∈ u_ws RX7 TX7 2, w ∈ rb_ws := by
  have e : u_ws RX7 TX7 2 = ([88, 90] : List Nat).filterMap (fun i => lw_tbl[i]?) := by decide +kernel
  have g : (u_ws RX7 TX7 2).all goodWord = true := by decide +kernel
  intro w hw
  have hg := List.all_eq_true.mp g w hw
  rw [e] at hw
  obtain ⟨j, -, hj⟩ := List.mem_filterMap.mp hw
  exact rb_wat hj hg
theorem cd_7 : (rb_def 7).length = 2 ∧ ∀ j, j < 2 → defaultValue (rb_tyF 7 j) = vp_V (rb_def 7) j := by decide +kernel
theorem cw_8 : ∀ w ∈ u_ws RX8 TX8 6, w ∈ rb_ws := by
  have e : u_ws RX8 TX8 6 = ([288, 290, 292, 294, 296, 298] : List Nat).filterMap (fun i => lw_tbl[i]?) := by decide +kernel
  have g : (u_ws RX8 TX8 6).all goodWord = true := by decide +kernel
  intro w hw
  have hg := List.all_eq_true.mp g w hw
  rw [e] at hw
  obtain ⟨j, -, hj⟩ := List.mem_filterMap.mp hw
  exact rb_wat hj hg
theorem cd_8 : (rb_def 8).length = 6 ∧ ∀ j, j < 6 → defaultValue (rb_tyF 8 j) = vp_V (rb_def 8) j := by decide +kernel
theorem cw_9 : ∀ w ∈ u_ws RX9 TX9 17, w ∈ rb_ws := by
  have e : u_ws RX9 TX9 17 = ([933, 935, 937, 939, 941, 943, 945, 947, 949, 951, 953, 955, 957, 959, 961, 963, 965] : List Nat).filterMap (fun i => lw_tbl[i]?) := by decide +kernel
  have g : (u_ws RX9 TX9 17).all goodWord = true := by decide +kernel
  intro w hw
  have hg := List.all_eq_true.mp g w hw
  rw [e] at hw
  obtain ⟨j, -, hj⟩ := List.mem_filterMap.mp hw
  exact rb_wat hj hg
theorem cd_9 : (rb_def 9).length = 17 ∧ ∀ j, j < 17 → defaultValue (rb_tyF 9 j) = vp_V (rb_def 9) j := by decide +kernel
theorem rb_clf : ∀ (ci : Nat) (C : String) (T : u_T) (N : Nat), vwCl[ci]? = some (C, T, N) → (∀ w ∈ u_ws C T N, w ∈ rb_ws) ∧ (∀ k, k < N → parseFieldDescriptor (T k).2.2.1 = some (rb_tyF ci k)) ∧ (∀ a, a < N → ∀ b, b < N → a ≠ b → (T a).2.1 ≠ (T b).2.1) ∧ (rb_def ci).length = N ∧ ∀ j, j < N → defaultValue (rb_tyF ci j) = vp_V (rb_def ci) j := by
  intro ci C T N h
  match ci, h with
  | 0, h => cases h; exact ⟨cw_0, tyX0_ok, nmX0, cd_0.1, cd_0.2⟩
  | 1, h => cases h; exact ⟨cw_1, tyX1_ok, nmX1, cd_1.1, cd_1.2⟩
  | 2, h => cases h; exact ⟨cw_2, tyX2_ok, nmX2, cd_2.1, cd_2.2⟩
  | 3, h => cases h; exact ⟨cw_3, tyX3_ok, nmX3, cd_3.1, cd_3.2⟩
  | 4, h => cases h; exact ⟨cw_4, tyX4_ok, nmX4, cd_4.1, cd_4.2⟩
  | 5, h => cases h; exact ⟨cw_5, tyX5_ok, nmX5, cd_5.1, cd_5.2⟩
  | 6, h => cases h; exact ⟨cw_6, tyX6_ok, nmX6, cd_6.1, cd_6.2⟩
  | 7, h => cases h; exact ⟨cw_7, tyX7_ok, nmX7, cd_7.1, cd_7.2⟩
  | 8, h => cases h; exact ⟨cw_8, tyX8_ok, nmX8, cd_8.1, cd_8.2⟩
  | 9, h => cases h; exact ⟨cw_9, tyX9_ok, nmX9, cd_9.1, cd_9.2⟩
  | k + 10, h => simp [vwCl] at h
def rb_fldck (e : Nat × Nat × Nat × Bool × FieldType × Nat) : Bool := match vwCl[e.2.1]? with
  | some (_, T, N) => decide (e.2.2.1 < N) && decide ((T e.2.2.1).2.2.2 = e.2.2.2.1) && decide (parseFieldDescriptor (T e.2.2.1).2.2.1 = some e.2.2.2.2.1) && decide (lw_tbl[e.2.2.2.2.2]? = some (.fieldLink (rb_own (e.1 / 10000)) (e.1 % 10000) (T e.2.2.1).1 (T e.2.2.1).2.1 (T e.2.2.1).2.2.1)) && (!e.2.2.2.1 || decide ((T e.2.2.1).1 = rb_own (e.1 / 10000)))
  | none => false
theorem rb_fld_all : rb_fldT.all rb_fldck = true := by decide +kernel
theorem rb_fld_ok {o i ci k : Nat} {fin : Bool} {ty : FieldType} {q : Nat} (h : rb_fld o i = some (ci, k, fin, ty, q)) : ∃ (C : String) (T : u_T) (N : Nat), vwCl[ci]? = some (C, T, N) ∧ k < N ∧ (T k).2.2.2 = fin ∧ parseFieldDescriptor (T k).2.2.1 = some ty ∧ Cond.fieldLink (rb_own o) i (T k).1 (T k).2.1 (T k).2.2.1 ∈ rb_ws ∧ (fin = true → (T k).1 = rb_own o) := by
  unfold rb_fld at h
  split at h
  · rename_i hi
    have hm := List.all_eq_true.mp rb_fld_all _ (rb_lk h)
    obtain ⟨k1, k2⟩ := rb_key (o := o) hi
    simp only [rb_fldck, k1, k2] at hm
    cases hv : vwCl[ci]? with
    | none => rw [hv] at hm; exact absurd hm (by simp)
    | some r =>
      obtain ⟨C, T, N⟩ := r
      rw [hv] at hm
      simp only [Bool.and_eq_true, decide_eq_true_eq, Bool.or_eq_true, Bool.not_eq_true'] at hm
      obtain ⟨⟨⟨⟨h1, h2⟩, h3⟩, h4⟩, h5⟩ := hm
      refine ⟨C, T, N, rfl, h1, h2, h3, rb_wat h4 rfl, fun hf => ?_⟩
      rcases h5 with h5 | h5
      · rw [h5] at hf; exact absurd hf (by simp)
      · exact h5
  · exact absurd h (by simp)
def rb_newck (e : Nat × Nat × Nat × Nat × Nat) : Bool := match vwCl[e.2.1]? with
  | some (C, _, N) => decide (lw_tbl[e.2.2.1]? = some (.classLink (rb_own (e.1 / 10000)) (e.1 % 10000) C)) && decide (lw_tbl[e.2.2.2.1]? = some (.instantiable C N)) && decide (lw_tbl[e.2.2.2.2]? = some (.initialized C))
  | none => false
theorem rb_new_all : rb_newT.all rb_newck = true := by decide +kernel
theorem rb_new_ok {o i ci : Nat} {q : Nat × Nat × Nat} (h : rb_new o i = some (ci, q)) : ∃ (C : String) (T : u_T) (N : Nat), vwCl[ci]? = some (C, T, N) ∧ Cond.classLink (rb_own o) i C ∈ rb_ws ∧ Cond.instantiable C N ∈ rb_ws ∧ Cond.initialized C ∈ rb_ws := by
  unfold rb_new at h
  split at h
  · rename_i hi
    have hm := List.all_eq_true.mp rb_new_all _ (rb_lk h)
    obtain ⟨k1, k2⟩ := rb_key (o := o) hi
    simp only [rb_newck, k1, k2] at hm
    cases hv : vwCl[ci]? with
    | none => rw [hv] at hm; exact absurd hm (by simp)
    | some r =>
      obtain ⟨C, T, N⟩ := r
      rw [hv] at hm
      simp only [Bool.and_eq_true, decide_eq_true_eq] at hm
      obtain ⟨⟨h1, h2⟩, h3⟩ := hm
      exact ⟨C, T, N, rfl, rb_wat h1 rfl, rb_wat h2 rfl, rb_wat h3 rfl⟩
  · exact absurd h (by simp)
/-- the name of the class of an array's members -/
def rb_eltN (t : Nat) : String := if t = 2 then RX5 else RX6
def rb_anwck (e : Nat × Nat × Nat) : Bool := (decide (e.2.1 = 2) || decide (e.2.1 = 3)) && decide (lw_tbl[e.2.2]? = some (.classLink (rb_own (e.1 / 10000)) (e.1 % 10000) (rb_eltN e.2.1)))
theorem rb_anw_all : rb_anwT.all rb_anwck = true := by decide +kernel
theorem rb_anw_ok {o i tg q : Nat} (h : rb_anw o i = some (tg, q)) : (tg = 2 ∨ tg = 3) ∧ Cond.classLink (rb_own o) i (rb_eltN tg) ∈ rb_ws := by
  unfold rb_anw at h
  split at h
  · rename_i hi
    have hm := List.all_eq_true.mp rb_anw_all _ (rb_lk h)
    obtain ⟨k1, k2⟩ := rb_key (o := o) hi
    simp only [rb_anwck, k1, k2, Bool.and_eq_true, Bool.or_eq_true, decide_eq_true_eq] at hm
    exact ⟨hm.1, rb_wat hm.2 rfl⟩
  · exact absurd h (by simp)
theorem rb_kI_all : rb_kIT.all (fun e => decide (lw_tbl[e.2.2]? = some (.constant (rb_own (e.1 / 10000)) (e.1 % 10000) e.2.1))) = true := by decide +kernel
theorem rb_kI_ok {o i q : Nat} {v : Int32} (h : rb_kI o i = some (v, q)) : Cond.constant (rb_own o) i v ∈ rb_ws := by
  unfold rb_kI at h
  split at h
  · rename_i hi
    have hm := List.all_eq_true.mp rb_kI_all _ (rb_lk h)
    obtain ⟨k1, k2⟩ := rb_key (o := o) hi
    simp only [k1, k2, decide_eq_true_eq] at hm
    exact rb_wat hm rfl
  · exact absurd h (by simp)
theorem rb_kJ_all : rb_kJT.all (fun e => decide (lw_tbl[e.2.2]? = some (.constantLong (rb_own (e.1 / 10000)) (e.1 % 10000) e.2.1))) = true := by decide +kernel
theorem rb_kJ_ok {o i q : Nat} {v : Int64} (h : rb_kJ o i = some (v, q)) : Cond.constantLong (rb_own o) i v ∈ rb_ws := by
  unfold rb_kJ at h
  split at h
  · rename_i hi
    have hm := List.all_eq_true.mp rb_kJ_all _ (rb_lk h)
    obtain ⟨k1, k2⟩ := rb_key (o := o) hi
    simp only [k1, k2, decide_eq_true_eq] at hm
    exact rb_wat hm rfl
  · exact absurd h (by simp)
theorem rb_kS_all : rb_kST.all (fun e => decide (rb_own (e.1 / 10000) = RX4) && decide (1 ≤ e.2) && decide (e.2 < 6) && decide (rb_strI.getD (e.2 - 1) 0 = e.1 % 10000)) = true := by decide +kernel
theorem rb_kS_ok {o i k : Nat} (h : rb_kS o i = some k) : rb_own o = RX4 ∧ 1 ≤ k ∧ k < 6 ∧ rb_strI.getD (k - 1) 0 = i := by
  unfold rb_kS at h
  split at h
  · rename_i hi
    have hm := List.all_eq_true.mp rb_kS_all _ (rb_lk h)
    obtain ⟨k1, k2⟩ := rb_key (o := o) hi
    simp only [k1, k2, Bool.and_eq_true, decide_eq_true_eq] at hm
    exact ⟨hm.1.1.1, hm.1.1.2, hm.1.2, hm.2⟩
  · exact absurd h (by simp)
/-- the methods, those of a text too (1000: length, 1001: charAt) -/
def rb_mL : rb_M := (13, yJ0_length_8abf5, cJ0_length_8abf5, 1, some .int, false, 361, 66)
def rb_mC : rb_M := (13, yJ0_charAt_5068e, cJ0_charAt_5068e, 2, some .char, false, 371, 66)
def rb_mth (mi : Nat) : Option rb_M := if mi = 1000 then some rb_mL else if mi = 1001 then some rb_mC else rb_prog[mi]?
def rb_pcd (M : rb_M) : Cond := .code M.2.1 M.2.2.1 M.2.2.2.1 M.2.2.2.2.1
def rb_pck (M : rb_M) : Bool := decide (lw_tbl[M.2.2.2.2.2.2.2]? = some (.initialized M.2.1.cls)) && plainFor M.2.1 && decide (M.2.1.cls ≠ "java/lang/invoke/MethodHandle") && decide (M.2.1.cls ≠ "java/lang/invoke/VarHandle") && decide (M.2.2.2.1 ≤ 18) && decide (rb_own M.1 = M.2.1.cls) && (!M.2.2.2.2.2.1 || decide (M.2.1.name = "<init>"))
def rb_all : List rb_M := rb_mL :: rb_mC :: rb_prog
theorem rb_prog_ck : rb_all.all rb_pck = true := by decide +kernel
set_option maxRecDepth 100000 in
theorem rb_prog_cd : rb_all.map (fun M => lw_tbl[M.2.2.2.2.2.2.1]?) = rb_all.map (fun M => some (rb_pcd M)) := by rfl
theorem rb_mth_in {mi : Nat} {M : rb_M} (h : rb_mth mi = some M) : M ∈ rb_all := by
  unfold rb_mth at h
  split at h
  · rw [← Option.some.inj h]; exact List.mem_cons_self
  · split at h
    · rw [← Option.some.inj h]; exact List.mem_cons_of_mem _ List.mem_cons_self
    · exact List.mem_cons_of_mem _ (List.mem_cons_of_mem _ (List.mem_of_getElem? h))
theorem rb_mth_ok {mi : Nat} {M : rb_M} (h : rb_mth mi = some M) : rb_pcd M ∈ rb_ws ∧ Cond.initialized M.2.1.cls ∈ rb_ws ∧ plainFor M.2.1 = true ∧ M.2.1.cls ≠ "java/lang/invoke/MethodHandle" ∧ M.2.1.cls ≠ "java/lang/invoke/VarHandle" ∧ M.2.2.2.1 ≤ 18 ∧ rb_own M.1 = M.2.1.cls ∧ (M.2.2.2.2.2.1 = true → M.2.1.name = "<init>") := by
  have hi := rb_mth_in h
  have hm := List.all_eq_true.mp rb_prog_ck M hi
  simp only [rb_pck, Bool.and_eq_true, decide_eq_true_eq, Bool.or_eq_true, Bool.not_eq_true'] at hm
  obtain ⟨⟨⟨⟨⟨⟨h1, h2⟩, h3⟩, h4⟩, h5⟩, h6⟩, h7⟩ := hm
  refine ⟨?_, rb_wat h1 rfl, h2, h3, h4, h5, h6, fun hf => ?_⟩
  · obtain ⟨j, hj⟩ := List.getElem?_of_mem hi
    have e1 : (rb_all.map (fun M => lw_tbl[M.2.2.2.2.2.2.1]?))[j]? = some (lw_tbl[M.2.2.2.2.2.2.1]?) := by rw [List.getElem?_map, hj]; rfl
    have e2 : (rb_all.map (fun M => some (rb_pcd M)))[j]? = some (some (rb_pcd M)) := by rw [List.getElem?_map, hj]; rfl
    rw [rb_prog_cd, e2] at e1
    exact rb_wat (Option.some.inj e1).symm rfl
  · rcases h7 with h7 | h7
    · rw [h7] at hf; exact absurd hf (by simp)
    · exact h7
def rb_np (y : MethodName) (n : Nat) : Bool := decide ((parseMethodDescriptor y.desc).map (fun d => d.parameters.length) = some n)
def rb_ick (e : Nat × Nat × Nat × Nat × Nat × Nat × Nat × Nat) : Bool :=
  let o := rb_own (e.1 / 10000)
  let i := e.1 % 10000
  let kind := e.2.1
  let n := e.2.2.2.1
  let w := lw_tbl[e.2.2.2.2.2.1]?
  let a := lw_tbl[e.2.2.2.2.2.2.1]?
  let b := lw_tbl[e.2.2.2.2.2.2.2]?
  if kind = 6 then decide (w = some (.methodLink o i objectInit))
  else if kind = 7 then decide (w = some (.methodLink o i arraycopyName))
  else match rb_mth e.2.2.1 with
    | none => false
    | some M =>
      if kind = 0 then decide (w = some (.methodLink o i M.2.1)) && decide (a = some (.static M.2.1)) && rb_np M.2.1 n
      else if kind = 3 then decide (w = some (.methodLinkNest o i M.2.1 "RootBoxes")) && decide (a = some (.static M.2.1)) && rb_np M.2.1 n
      else if kind = 1 then decide (w = some (.methodLink o i M.2.1)) && decide (a = some (.instanceMethod M.2.1)) && decide (b = some (.selects M.2.1.cls M.2.1 M.2.1)) && rb_np M.2.1 (n - 1) && decide (1 ≤ n) && decide ((vwCl[e.2.2.2.2.1]?).map (fun r => r.1) = some M.2.1.cls)
      else if kind = 8 then decide (w = some (.methodLink o i M.2.1)) && decide (a = some (.instanceMethod M.2.1)) && decide (b = some (.selects M.2.1.cls M.2.1 M.2.1)) && rb_np M.2.1 (n - 1) && decide (1 ≤ n) && decide (M.2.1.cls = "java/lang/String")
      else if kind = 2 then decide (w = some (.methodLink o i M.2.1)) && decide (a = some (.instanceMethod M.2.1)) && rb_np M.2.1 (n - 1) && decide (1 ≤ n) && decide (M.2.1.name = "<init>") && decide (M.2.2.2.2.1 = none)
      else if kind = 5 then decide (w = some (.methodLinkNest o i M.2.1 "RootBoxes")) && decide (a = some (.instanceMethod M.2.1)) && rb_np M.2.1 (n - 1) && decide (1 ≤ n) && decide (M.2.1.name = "<init>") && decide (M.2.2.2.2.1 = none)
      else false
theorem rb_iv_all : rb_ivT.all rb_ick = true := by decide +kernel
theorem rb_iv_ok {o i : Nat} {q : Nat × Nat × Nat × Nat × Nat × Nat × Nat} (h : rb_iv o i = some q) : i < 10000 ∧ rb_ick (o * 10000 + i, q) = true := by
  unfold rb_iv at h
  split at h
  · rename_i hi
    exact ⟨hi, List.all_eq_true.mp rb_iv_all _ (rb_lk h)⟩
  · exact absurd h (by simp)
theorem rb_w_oi : Cond.instanceMethod objectInit ∈ rb_ws := rb_wat (i := 78) (by decide +kernel) rfl
theorem rb_w_oc : Cond.code objectInit ⟨#[0xb1]⟩ 1 none ∈ rb_ws := rb_wat (i := 79) (by rfl) rfl
theorem rb_w_an : Cond.native arraycopyName ∈ rb_ws := rb_wat (i := 888) (by decide +kernel) rfl
theorem rb_w_as : Cond.static arraycopyName ∈ rb_ws := rb_wat (i := 887) (by decide +kernel) rfl
theorem rb_w_ai : Cond.initialized "java/lang/System" ∈ rb_ws := rb_wat (i := 71) (by decide +kernel) rfl
theorem rb_w_cI : Cond.arrayClass .int ∈ rb_ws := rb_wat (i := 93) (by decide +kernel) rfl
theorem rb_w_cJ : Cond.arrayClass .long ∈ rb_ws := rb_wat (i := 968) (by decide +kernel) rfl
theorem rb_good {M : rb_M} : GoodIn (rb_pcd M :: rb_ws) rb_ws := fun w hw => ⟨List.mem_cons_of_mem _ hw, good_of_word (List.mem_filter.mp hw).2⟩
