/-! ===== the two methods of a text: length(), charAt(k) ===== -/
theorem tx_np {y : MethodName} {n : Nat} (h : (parseMethodDescriptor y.desc).map (fun d => d.parameters.length) = some n) : ∀ sig, parseMethodDescriptor y.desc = some sig → n = sig.parameters.length := fun sig hs => by
  rw [hs] at h
  exact (Option.some.inj h).symm
theorem tx_nb : ∀ k, k < 5 → rb_strN.getD k 0 < 2 ^ 31 := by decide +kernel
theorem tx_and : ∀ k j, k < 5 → j < rb_strN.getD k 0 → (rb_strB.getD k []).getD j 0 &&& 255 = rb_chr k j := by
  have h : ∀ k, k < 5 → ∀ j, j < rb_strN.getD k 0 → (rb_strB.getD k []).getD j 0 &&& 255 = rb_chr k j := by decide +kernel
  exact fun k j hk hj => h k hk j hj
section RBX
variable {l : Launch} {D : va_G} {cA : Nat → ClassId} {φ : Nat → Nat} {base b L : Nat} {xs : Nat → Int32} {Hs : Heap} {adV : Nat → Nat}
def tx_KH (D : va_G) (cA : Nat → ClassId) (φ : Nat → Nat) (base b L : Nat) (xs : Nat → Int32) (Hs : Heap) (adV : Nat → Nat) (U : State) : Prop := rb_KK D cA φ base b L xs Hs adV U ∧ Hs.size = base ∧ base ≤ U.heap.size ∧ ∀ q, q < base → U.heap[q]? = Hs[q]?
def tx_Q (v : Option Value) : Array Value → State → Outcome → State → Prop := fun _ st oc t => oc = .returned v ∧ t.heap = st.heap
theorem tx_blind {As : List Value} : FrameBlind (va_Pc As (fun U => tx_KH D cA φ base b L xs Hs adV U)) := by
  intro a U g mk q
  obtain ⟨q1, q2, q3⟩ := q
  exact ⟨q1, rb_KK.same (u := U) rfl q2, q3⟩
theorem tx_pay {args : Array Value} {s : State} {w0 : Cond} (hts : ∀ w ∈ rb_ws, w.before args s = true) (hM : w0 ∈ rb_ws) : ∀ w ∈ w0 :: rb_ws, ∀ (a' : Array Value) (U : State), s.WarmedH U.vm → w.before a' U = true :=
  pay_in hts (fun w hw => by
    have h1 : w ∈ rb_ws := by
      rcases List.mem_cons.mp hw with h | h
      · rw [h]; exact hM
      · exact h
    exact ⟨h1, good_of_word (List.mem_filter.mp h1).2⟩)
/-- what a walk of these knows of the heap -/
theorem tx_hS {s : State} (h : tx_KH D cA φ base b L xs Hs adV s) : vk_S 5 rb_strN rb_strB (fun i => φ (i + 1)) adV (fun q => base ≤ q) s s.heap ∧ va_Z "java/lang/String" "COMPACT_STRINGS" "Z" (.int 1) (fun q => base ≤ q) s s.heap ∧ va_Zq "jdk/internal/util/Preconditions" "SIOOBE_FORMATTER" "Ljava/util/function/BiFunction;" (fun q => base ≤ q) s s.heap := by
  obtain ⟨hK, hz, hl, hq⟩ := h
  have k : ∀ a : Nat, a < Hs.size → ¬ (fun q => base ≤ q) a → s.heap[a]? = Hs[a]? := fun a _ h2 => hq a (Nat.not_le.mp h2)
  exact ⟨hK.2.2.2.2.2.1.kept k, hK.2.2.2.2.2.2.1.kept k, hK.2.2.2.2.2.2.2.kept k⟩
/-- Preconditions.checkIndex: within -/
theorem tx_check3 {i n : Int32} (fv : Option Nat) (h0 : ¬ i < 0) (h1 : i < n) : Met l yJ3_checkIndex_8e157 (.code yJ3_checkIndex_8e157 cJ3_checkIndex_8e157 3 (some .int) :: rb_ws) { frames := 0, cells := 0, slots := 0, locals := 0 } (va_Pc [.int i, .int n, va_rf fv] (fun _ => True)) (tx_Q (some (.int i))) 0 0 (fun _ => False) := by
  refine va_MetF (cc := cJ3_checkIndex_8e157) (maxL := 3) (ret := some .int) (by decide +kernel) rfl ?_
  intro p e s m args below meth c s₁ B hml hv
  obtain ⟨rfl, -⟩ := hv
  have hx := B.exec
  have hb := B.bytes
  have hr := B.returns
  have hlocks := B.notSynchronized
  have hlen : (lg_sl ([.int i, .int n, va_rf fv])).length ≤ 3 := by cases fv <;> exact Nat.le_of_ble_eq_true rfl
  have hl := lv_entry ([.int i, .int n, va_rf fv]) (n := 3) hlen
  rw [lg_entry_eq]
  generalize (lg_sl ([.int i, .int n, va_rf fv]) ++ List.replicate (3 - (lg_sl ([.int i, .int n, va_rf fv])).length) Slot.unset).toArray = ls at hl ⊢
  refine lv_iload_n hx hb dJ3_checkIndex_8e157_0 rfl (lv_at hl 0 rfl) ?_
  refine lv_if_lt (tgt := 9) hx hb dJ3_checkIndex_8e157_1 (by decide) (fun z => absurd z h0) (fun _ => ?_)
  refine lv_iload_n hx hb dJ3_checkIndex_8e157_4 rfl (lv_at hl 0 rfl) ?_
  refine lv_iload_n hx hb dJ3_checkIndex_8e157_5 rfl (lv_at hl 1 rfl) ?_
  refine lv_icmp_lt (tgt := 16) hx hb dJ3_checkIndex_8e157_6 (by decide) (fun _ => ?_) (fun z => absurd h1 z)
  refine lv_iload_n hx hb dJ3_checkIndex_8e157_16 rfl (lv_at hl 0 rfl) ?_
  exact W.iret (v := i) hx hb hr (fun t ht hW => ⟨rfl, ht⟩) (fun q hq => by cases hq) dJ3_checkIndex_8e157_17
/-- String.checkIndex: within -/
theorem tx_check {i n : Int32} (h0 : ¬ i < 0) (h1 : i < n) : Met l yJ0_checkIndex_df160 (.code yJ0_checkIndex_df160 cJ0_checkIndex_df160 2 none :: rb_ws) { frames := 1, cells := 0, slots := 0, locals := 37 } (va_Pc [.int i, .int n] (fun U => tx_KH D cA φ base b L xs Hs adV U)) (tx_Q none) 0 0 (fun _ => False) := by
  refine va_MetF (cc := cJ0_checkIndex_df160) (maxL := 2) (ret := none) (by decide +kernel) rfl ?_
  intro p e s m args below meth c s₁ B hml hv
  obtain ⟨rfl, hKH⟩ := hv
  have hx := B.exec
  have hb := B.bytes
  have hr := B.returns
  have hlocks := B.notSynchronized
  have hown : s.vm.findClass RJ0 = some m.cls := findClass_of_methodNamed B.named
  have hall := atoms_spec (ws := .code yJ0_checkIndex_df160 cJ0_checkIndex_df160 2 none :: rb_ws) B.pre
  have hts : ∀ w ∈ rb_ws, w.before _ s = true := fun w hw => hall w (List.mem_cons_of_mem _ hw)
  obtain ⟨-, -, hF⟩ := tx_hS hKH
  have hl := lv_entry ([.int i, .int n]) (n := 2) (Nat.le_of_ble_eq_true rfl)
  rw [lg_entry_eq]
  generalize (lg_sl ([.int i, .int n]) ++ List.replicate (2 - (lg_sl ([.int i, .int n])).length) Slot.unset).toArray = ls at hl ⊢
  refine lv_iload_n hx hb dJ0_checkIndex_df160_0 rfl (lv_at hl 0 rfl) ?_
  refine lv_iload_n hx hb dJ0_checkIndex_df160_1 rfl (lv_at hl 1 rfl) ?_
  have go : ∀ fv : Option Nat, W p l e (headSpec (.code yJ0_checkIndex_df160 cJ0_checkIndex_df160 2 none :: rb_ws) { frames := 1, cells := 0, slots := 0, locals := 37 }).room s m ([Value.int i, .int n] : List Value).toArray below meth c s.heap [] 0 0 (MQ below (tx_Q none) ([Value.int i, .int n] : List Value).toArray s 0 0 (fun _ => False)) (F0 m 5 ls [va_rf fv, .int n, .int i]) := by
    intro fv
    have hw : Cond.code yJ3_checkIndex_8e157 cJ3_checkIndex_8e157 3 (some .int) ∈ rb_ws := rb_wat (i := 386) rfl rfl
    refine rb_aft (rest := []) (va_runS (Ts := rb_ws) (own := RJ0) (As := [.int i, .int n, va_rf fv]) ⟨hx, hb, hml, hown, hts⟩ (tx_check3 fv h0 h1) ⟨⟨rfl, rfl, Nat.le_of_ble_eq_true rfl, Nat.le_of_ble_eq_true rfl, tx_pay hts hw, List.mem_cons_self, hts _ hw, hts _ (rb_wat (i := 68) (by decide +kernel) rfl), ⟨by decide, by decide⟩, tx_np (n := 3) (by decide +kernel), hts _ (rb_wat (i := 384) (by decide +kernel) rfl)⟩, hts _ (rb_wat (i := 385) (by decide +kernel) rfl)⟩ ⟨fun _ _ _ _ q => q, fun U _ _ => ⟨rfl, trivial⟩⟩ rfl rfl hl.1 rfl (lv_room (Nat.le_of_ble_eq_true rfl)) dJ0_checkIndex_df160_5 ⟨Nat.le_of_ble_eq_true rfl, Nat.le_of_ble_eq_true rfl⟩) (fun v st₀ t L' e0 hf hq => ?_)
    obtain ⟨hv, hh⟩ := hq
    have hv' : v = some (.int i) := Outcome.returned.inj hv
    subst hv'
    have eL : L' = [] := List.eq_nil_iff_forall_not_mem.mpr (fun q hq => hf q hq)
    subst eL
    rw [hh, e0]
    refine lv_pop (va := .int i) (rest := []) hx hb dJ0_checkIndex_df160_8 rfl ?_
    exact W.vret hx hb hr (fun t ht hW => ⟨rfl, ht⟩) (fun q hq => by cases hq) dJ0_checkIndex_df160_9
  rcases hF with hF | ⟨t, hF⟩
  · exact va_gets (A := fun q => base ≤ q) hx hb hF va_S.rf hown (hts _ (rb_wat (i := 382) (by decide +kernel) rfl)) (fun _ h => h) dJ0_checkIndex_df160_2 (go none)
  · exact va_gets (A := fun q => base ≤ q) hx hb hF va_S.rf hown (hts _ (rb_wat (i := 382) (by decide +kernel) rfl)) (fun _ h => h) dJ0_checkIndex_df160_2 (go (some t))
/-- StringLatin1.charAt: within -/
theorem tx_charL {k : Nat} {i : Int32} (hk : k < 5) (hi : vp_in i (rb_strN.getD k 0)) : Met l yJ1_charAt_3b067 (.code yJ1_charAt_3b067 cJ1_charAt_3b067 2 (some .char) :: rb_ws) { frames := 2, cells := 0, slots := 0, locals := 74 } (va_Pc [.ref (adV k), .int i] (fun U => tx_KH D cA φ base b L xs Hs adV U)) (tx_Q (some (.int (rb_chr k i.toNatClampNeg)))) 0 0 (fun _ => False) := by
  refine va_MetF (cc := cJ1_charAt_3b067) (maxL := 2) (ret := some .char) (by decide +kernel) rfl ?_
  intro p e s m args below meth c s₁ B hml hv
  obtain ⟨rfl, hKH⟩ := hv
  have hx := B.exec
  have hb := B.bytes
  have hr := B.returns
  have hlocks := B.notSynchronized
  have hown : s.vm.findClass RJ1 = some m.cls := findClass_of_methodNamed B.named
  have hall := atoms_spec (ws := .code yJ1_charAt_3b067 cJ1_charAt_3b067 2 (some .char) :: rb_ws) B.pre
  have hts : ∀ w ∈ rb_ws, w.before _ s = true := fun w hw => hall w (List.mem_cons_of_mem _ hw)
  obtain ⟨hS, -, -⟩ := tx_hS hKH
  obtain ⟨-, -, -, hT⟩ := hS.1 k hk
  have hl := lv_entry ([.ref (adV k), .int i]) (n := 2) (Nat.le_of_ble_eq_true rfl)
  rw [lg_entry_eq]
  generalize (lg_sl ([.ref (adV k), .int i]) ++ List.replicate (2 - (lg_sl ([.ref (adV k), .int i])).length) Slot.unset).toArray = ls at hl ⊢
  refine lv_iload_n hx hb dJ1_charAt_3b067_0 rfl (lv_at hl 1 rfl) ?_
  refine lv_aload_n hx hb dJ1_charAt_3b067_1 rfl (lv_at hl 0 rfl) ?_
  refine va_tlen (A := fun q => base ≤ q) hx hb hT va_S.rf rfl dJ1_charAt_3b067_2 ?_
  have hw : Cond.code yJ0_checkIndex_df160 cJ0_checkIndex_df160 2 none ∈ rb_ws := rb_wat (i := 381) rfl rfl
  have hnb : rb_strN.getD k 0 < 2 ^ 31 := tx_nb k hk
  have hi0 : ¬ i < 0 := fun z => hi (Or.inl z)
  have hi1 : i < Int32.ofNat (rb_strN.getD k 0) := by
    obtain ⟨j, hj, rfl⟩ := vp_in_of hi hnb
    exact nI_lt hj hnb
  refine rb_aft (rest := []) (va_runS (Ts := rb_ws) (own := RJ1) (As := [.int i, .int (Int32.ofNat (rb_strN.getD k 0))]) ⟨hx, hb, hml, hown, hts⟩ (tx_check (D := D) (cA := cA) (φ := φ) (base := base) (b := b) (L := L) (xs := xs) (Hs := Hs) (adV := adV) hi0 hi1) ⟨⟨rfl, rfl, Nat.le_of_ble_eq_true rfl, Nat.le_of_ble_eq_true rfl, tx_pay hts hw, List.mem_cons_self, hts _ hw, hts _ (rb_wat (i := 66) (by decide +kernel) rfl), ⟨by decide, by decide⟩, tx_np (n := 2) (by decide +kernel), hts _ (rb_wat (i := 379) (by decide +kernel) rfl)⟩, hts _ (rb_wat (i := 380) (by decide +kernel) rfl)⟩ ⟨tx_blind, fun U hU hW => ⟨rfl, rb_KK.warm hW hKH.1, hKH.2.1, by rw [hU]; exact hKH.2.2.1, by rw [hU]; exact hKH.2.2.2⟩⟩ rfl rfl hl.1 rfl (lv_room (Nat.le_of_ble_eq_true rfl)) dJ1_charAt_3b067_3 ⟨Nat.le_of_ble_eq_true rfl, Nat.le_of_ble_eq_true rfl⟩) (fun v st₀ t L' e0 hf hq => ?_)
  obtain ⟨hv, hh⟩ := hq
  have hv' : v = none := Outcome.returned.inj hv
  subst hv'
  have eL : L' = [] := List.eq_nil_iff_forall_not_mem.mpr (fun q hq => hf q hq)
  subst eL
  rw [hh, e0]
  refine lv_aload_n (rest := []) hx hb dJ1_charAt_3b067_6 rfl (lv_at hl 0 rfl) ?_
  refine lv_iload_n hx hb dJ1_charAt_3b067_7 rfl (lv_at hl 1 rfl) ?_
  refine va_tb (A := fun q => base ≤ q) hx hb hT va_S.rf hi rfl dJ1_charAt_3b067_8 ?_
  refine lv_sipush hx hb dJ1_charAt_3b067_9 rfl ?_
  refine lv_iand hx hb dJ1_charAt_3b067_12 ?_
  refine lv_i2c hx hb dJ1_charAt_3b067_13 rfl ?_
  have e1 : (((rb_strB.getD k []).getD i.toNatClampNeg 0 &&& (Int16.ofInt 255).toInt32).toUInt32 % 65536).toInt32 = rb_chr k i.toNatClampNeg := by
    rw [show (Int16.ofInt 255).toInt32 = (255 : Int32) from by decide +kernel, sc_c2]
    exact tx_and k _ hk (Nat.not_le.mp fun q => hi (Or.inr q))
  have e2 : narrow .char (.int (rb_chr k i.toNatClampNeg)) = .int (rb_chr k i.toNatClampNeg) := by
    rw [← tx_and k _ hk (Nat.not_le.mp fun q => hi (Or.inr q))]
    exact sc_nar _
  rw [e1]
  exact W.zret hx hb hr e2 (fun t ht hW => ⟨rfl, ht⟩) (fun q hq => by cases hq) dJ1_charAt_3b067_14
/-- coder() -/
theorem tx_coder {k : Nat} (hk : k < 5) : Met l yJ0_coder_7d493 (.code yJ0_coder_7d493 cJ0_coder_7d493 1 (some .byte) :: rb_ws) { frames := 0, cells := 0, slots := 0, locals := 0 } (va_Pc [.ref (φ (k + 1))] (fun U => tx_KH D cA φ base b L xs Hs adV U)) (tx_Q (some (.int 0))) 0 0 (fun _ => False) := by
  refine va_MetF (cc := cJ0_coder_7d493) (maxL := 1) (ret := some .byte) (by decide +kernel) rfl ?_
  intro p e s m args below meth c s₁ B hml hv
  obtain ⟨rfl, hKH⟩ := hv
  have hx := B.exec
  have hb := B.bytes
  have hr := B.returns
  have hlocks := B.notSynchronized
  have hown : s.vm.findClass RJ0 = some m.cls := findClass_of_methodNamed B.named
  have hall := atoms_spec (ws := .code yJ0_coder_7d493 cJ0_coder_7d493 1 (some .byte) :: rb_ws) B.pre
  have hts : ∀ w ∈ rb_ws, w.before _ s = true := fun w hw => hall w (List.mem_cons_of_mem _ hw)
  obtain ⟨hS, hZ, -⟩ := tx_hS hKH
  obtain ⟨-, hC, -, -⟩ := hS.1 k hk
  have hl := lv_entry ([.ref (φ (k + 1))]) (n := 1) (Nat.le_of_ble_eq_true rfl)
  rw [lg_entry_eq]
  generalize (lg_sl ([.ref (φ (k + 1))]) ++ List.replicate (1 - (lg_sl ([.ref (φ (k + 1))])).length) Slot.unset).toArray = ls at hl ⊢
  refine va_gets (A := fun q => base ≤ q) hx hb hZ va_S.rf hown (hts _ (rb_wat (i := 366) (by decide +kernel) rfl)) (fun _ h => h) dJ0_coder_7d493_0 ?_
  refine lv_if_eq (tgt := 13) hx hb dJ0_coder_7d493_3 (by decide) (fun z => absurd z (by decide)) (fun _ => ?_)
  refine lv_aload_n hx hb dJ0_coder_7d493_6 rfl (lv_at hl 0 rfl) ?_
  refine vk_getf (A := fun q => base ≤ q) hx hb hC va_S.rf hown (hts _ (rb_wat (i := 1270) (by decide +kernel) rfl)) (fun _ h => h) dJ0_coder_7d493_7 ?_
  refine lv_goto (tgt := 14) hx hb dJ0_coder_7d493_10 (by decide) ?_
  exact W.zret hx hb hr (by decide +kernel) (fun t ht hW => ⟨rfl, ht⟩) (fun q hq => by cases hq) dJ0_coder_7d493_14
/-- isLatin1() -/
theorem tx_latin {k : Nat} (hk : k < 5) : Met l yJ0_isLatin1_aae02 (.code yJ0_isLatin1_aae02 cJ0_isLatin1_aae02 1 (some .boolean) :: rb_ws) { frames := 0, cells := 0, slots := 0, locals := 0 } (va_Pc [.ref (φ (k + 1))] (fun U => tx_KH D cA φ base b L xs Hs adV U)) (tx_Q (some (.int 1))) 0 0 (fun _ => False) := by
  refine va_MetF (cc := cJ0_isLatin1_aae02) (maxL := 1) (ret := some .boolean) (by decide +kernel) rfl ?_
  intro p e s m args below meth c s₁ B hml hv
  obtain ⟨rfl, hKH⟩ := hv
  have hx := B.exec
  have hb := B.bytes
  have hr := B.returns
  have hlocks := B.notSynchronized
  have hown : s.vm.findClass RJ0 = some m.cls := findClass_of_methodNamed B.named
  have hall := atoms_spec (ws := .code yJ0_isLatin1_aae02 cJ0_isLatin1_aae02 1 (some .boolean) :: rb_ws) B.pre
  have hts : ∀ w ∈ rb_ws, w.before _ s = true := fun w hw => hall w (List.mem_cons_of_mem _ hw)
  obtain ⟨hS, hZ, -⟩ := tx_hS hKH
  obtain ⟨-, hC, -, -⟩ := hS.1 k hk
  have hl := lv_entry ([.ref (φ (k + 1))]) (n := 1) (Nat.le_of_ble_eq_true rfl)
  rw [lg_entry_eq]
  generalize (lg_sl ([.ref (φ (k + 1))]) ++ List.replicate (1 - (lg_sl ([.ref (φ (k + 1))])).length) Slot.unset).toArray = ls at hl ⊢
  refine va_gets (A := fun q => base ≤ q) hx hb hZ va_S.rf hown (hts _ (rb_wat (i := 366) (by decide +kernel) rfl)) (fun _ h => h) dJ0_isLatin1_aae02_0 ?_
  refine lv_if_eq (tgt := 17) hx hb dJ0_isLatin1_aae02_3 (by decide) (fun z => absurd z (by decide)) (fun _ => ?_)
  refine lv_aload_n hx hb dJ0_isLatin1_aae02_6 rfl (lv_at hl 0 rfl) ?_
  refine vk_getf (A := fun q => base ≤ q) hx hb hC va_S.rf hown (hts _ (rb_wat (i := 1270) (by decide +kernel) rfl)) (fun _ h => h) dJ0_isLatin1_aae02_7 ?_
  refine lv_if_ne (tgt := 17) hx hb dJ0_isLatin1_aae02_10 (by decide) (fun z => absurd rfl z) (fun _ => ?_)
  refine lv_iconst (v := 1) hx hb dJ0_isLatin1_aae02_13 (by decide +kernel) ?_
  refine lv_goto (tgt := 18) hx hb dJ0_isLatin1_aae02_14 (by decide) ?_
  exact W.zret hx hb hr (by decide +kernel) (fun t ht hW => ⟨rfl, ht⟩) (fun q hq => by cases hq) dJ0_isLatin1_aae02_18
theorem tx_rv {s : State} {k : Nat} (hk : k < 5) (hKH : tx_KH D cA φ base b L xs Hs adV s) : ∃ cellB : Cell, s.heap[φ (k + 1)]? = some cellB ∧ cellB.vm.isStatics = false ∧ s.vm.findClass RJ0 = some cellB.cls := by
  obtain ⟨hS, -, -⟩ := tx_hS hKH
  obtain ⟨cell, z1, z2, z3, z4⟩ := (hS.1 k hk).1
  exact ⟨cell, z1, z2, z3⟩
theorem tx_rel {σ : rb_S} {U : State} (hHs : Hs.size = base) (h : rb_rel D cA φ base L xs Hs σ U.heap ∧ rb_KK D cA φ base b L xs Hs adV U) : tx_KH D cA φ base b L xs Hs adV U := ⟨h.2, hHs, by rw [h.1.2.1]; exact Nat.le_add_right _ _, h.1.2.2.1⟩
/-- length() -/
theorem tx_length (hHs : Hs.size = base) {d k : Nat} (hd : 2 ≤ d) (hk : k < 5) {σ : rb_S} : rb_Ct l D cA φ base b L xs Hs adV (d + 1) rb_mL [.ref (k + 1)] σ (some (.int (nI (rb_strN.getD k 0)))) σ := by
  unfold rb_Ct
  rw [Nat.sub_self, Nat.sub_self]
  refine va_MetF (cc := cJ0_length_8abf5) (maxL := 1) (ret := some .int) (by decide +kernel) rfl ?_
  intro p e s m args below meth c s₁ B hml hv
  obtain ⟨rfl, hv⟩ := hv
  have hKH := tx_rel hHs hv
  have hrel := hv.1
  have hx := B.exec
  have hb := B.bytes
  have hr := B.returns
  have hlocks := B.notSynchronized
  have hown : s.vm.findClass RJ0 = some m.cls := findClass_of_methodNamed B.named
  have hall := atoms_spec (ws := rb_pcd rb_mL :: rb_ws) B.pre
  have hts : ∀ w ∈ rb_ws, w.before _ s = true := fun w hw => hall w (List.mem_cons_of_mem _ hw)
  obtain ⟨hS, hZ, -⟩ := tx_hS hKH
  obtain ⟨-, -, hV, hT⟩ := hS.1 k hk
  have hl := lv_entry ([.ref (φ (k + 1))]) (n := 1) (Nat.le_of_ble_eq_true rfl)
  show W p l e _ s m ([Value.ref (φ (k + 1))] : List Value).toArray below meth c s.heap [] 0 0 _ (entryFrame m ([Value.ref (φ (k + 1))] : List Value).toArray 1)
  rw [lg_entry_eq]
  generalize (lg_sl ([.ref (φ (k + 1))]) ++ List.replicate (1 - (lg_sl ([.ref (φ (k + 1))])).length) Slot.unset).toArray = ls at hl ⊢
  refine lv_aload_n hx hb dJ0_length_8abf5_0 rfl (lv_at hl 0 rfl) ?_
  refine vk_getf (A := fun q => base ≤ q) hx hb hV va_S.rf hown (hts _ (rb_wat (i := 1269) (by decide +kernel) rfl)) (fun _ h => h) dJ0_length_8abf5_1 ?_
  refine va_tlen (A := fun q => base ≤ q) hx hb hT va_S.rf rfl dJ0_length_8abf5_4 ?_
  refine lv_aload_n hx hb dJ0_length_8abf5_5 rfl (lv_at hl 0 rfl) ?_
  have hw : Cond.code yJ0_coder_7d493 cJ0_coder_7d493 1 (some .byte) ∈ rb_ws := rb_wat (i := 365) rfl rfl
  refine rb_aft (rest := [.int (Int32.ofNat (rb_strN.getD k 0))]) (va_runV (Ts := rb_ws) (own := RJ0) (C := RJ0) (b := φ (k + 1)) (As := []) ⟨hx, hb, hml, hown, hts⟩ (tx_coder (D := D) (cA := cA) (φ := φ) (base := base) (b := b) (L := L) (xs := xs) (Hs := Hs) (adV := adV) hk) ⟨⟨rfl, rfl, by show 0 + 1 ≤ d + 1; omega, by show 8 + (1 + 11) + 0 ≤ 37 * (d + 1); omega, tx_pay hts hw, List.mem_cons_self, hts _ hw, hts _ (rb_wat (i := 66) (by decide +kernel) rfl), ⟨by decide, by decide⟩, tx_np (n := 0) (by decide +kernel), hts _ (rb_wat (i := 362) (by decide +kernel) rfl)⟩, hts _ (rb_wat (i := 363) (by decide +kernel) rfl), hts _ (rb_wat (i := 364) (by decide +kernel) rfl)⟩ ⟨tx_blind, tx_rv hk hKH, fun U hU hW => ⟨rfl, rb_KK.warm hW hKH.1, hKH.2.1, by rw [hU]; exact hKH.2.2.1, by rw [hU]; exact hKH.2.2.2⟩⟩ rfl rfl hl.1 rfl (lv_room (Nat.le_of_ble_eq_true rfl)) dJ0_length_8abf5_6 ⟨Nat.zero_le _, Nat.zero_le _⟩) (fun v st₀ t L' e0 hf hq => ?_)
  obtain ⟨hv, hh⟩ := hq
  have hv' : v = some (.int 0) := Outcome.returned.inj hv
  subst hv'
  have eL : L' = [] := List.eq_nil_iff_forall_not_mem.mpr (fun q hq => hf q hq)
  subst eL
  rw [hh, e0]
  refine lv_ishr (rest := []) hx hb dJ0_length_8abf5_9 ?_
  have e1 : Int32.ofNat (rb_strN.getD k 0) >>> ((0 : Int32) &&& 31) = nI (rb_strN.getD k 0) := sc_shr0 (tx_nb k hk)
  rw [e1]
  exact W.iret hx hb hr (fun t ht hW => ⟨rfl, by rw [ht]; exact hrel⟩) (fun q hq => by cases hq) dJ0_length_8abf5_10
/-- charAt(i) -/
theorem tx_charAt (hHs : Hs.size = base) {d k : Nat} {i : Int32} (hd : 4 ≤ d) (hk : k < 5) (hi : vp_in i (rb_strN.getD k 0)) {σ : rb_S} : rb_Ct l D cA φ base b L xs Hs adV (d + 1) rb_mC [.ref (k + 1), .int i] σ (some (.int (rb_chr k i.toNatClampNeg))) σ := by
  unfold rb_Ct
  rw [Nat.sub_self, Nat.sub_self]
  refine va_MetF (cc := cJ0_charAt_5068e) (maxL := 2) (ret := some .char) (by decide +kernel) rfl ?_
  intro p e s m args below meth c s₁ B hml hv
  obtain ⟨rfl, hv⟩ := hv
  have hKH := tx_rel hHs hv
  have hrel := hv.1
  have hx := B.exec
  have hb := B.bytes
  have hr := B.returns
  have hlocks := B.notSynchronized
  have hown : s.vm.findClass RJ0 = some m.cls := findClass_of_methodNamed B.named
  have hall := atoms_spec (ws := rb_pcd rb_mC :: rb_ws) B.pre
  have hts : ∀ w ∈ rb_ws, w.before _ s = true := fun w hw => hall w (List.mem_cons_of_mem _ hw)
  obtain ⟨hS, hZ, -⟩ := tx_hS hKH
  obtain ⟨-, -, hV, hT⟩ := hS.1 k hk
  have hl := lv_entry ([.ref (φ (k + 1)), .int i]) (n := 2) (Nat.le_of_ble_eq_true rfl)
  show W p l e _ s m ([Value.ref (φ (k + 1)), .int i] : List Value).toArray below meth c s.heap [] 0 0 _ (entryFrame m ([Value.ref (φ (k + 1)), .int i] : List Value).toArray 2)
  rw [lg_entry_eq]
  generalize (lg_sl ([.ref (φ (k + 1)), .int i]) ++ List.replicate (2 - (lg_sl ([.ref (φ (k + 1)), .int i])).length) Slot.unset).toArray = ls at hl ⊢
  refine lv_aload_n hx hb dJ0_charAt_5068e_0 rfl (lv_at hl 0 rfl) ?_
  have hw : Cond.code yJ0_isLatin1_aae02 cJ0_isLatin1_aae02 1 (some .boolean) ∈ rb_ws := rb_wat (i := 375) rfl rfl
  have hw2 : Cond.code yJ1_charAt_3b067 cJ1_charAt_3b067 2 (some .char) ∈ rb_ws := rb_wat (i := 378) rfl rfl
  refine rb_aft (rest := []) (va_runV (Ts := rb_ws) (own := RJ0) (C := RJ0) (b := φ (k + 1)) (As := []) ⟨hx, hb, hml, hown, hts⟩ (tx_latin (D := D) (cA := cA) (φ := φ) (base := base) (b := b) (L := L) (xs := xs) (Hs := Hs) (adV := adV) hk) ⟨⟨rfl, rfl, by show 0 + 1 ≤ d + 1; omega, by show 8 + (1 + 11) + 0 ≤ 37 * (d + 1); omega, tx_pay hts hw, List.mem_cons_self, hts _ hw, hts _ (rb_wat (i := 66) (by decide +kernel) rfl), ⟨by decide, by decide⟩, tx_np (n := 0) (by decide +kernel), hts _ (rb_wat (i := 372) (by decide +kernel) rfl)⟩, hts _ (rb_wat (i := 373) (by decide +kernel) rfl), hts _ (rb_wat (i := 374) (by decide +kernel) rfl)⟩ ⟨tx_blind, tx_rv hk hKH, fun U hU hW => ⟨rfl, rb_KK.warm hW hKH.1, hKH.2.1, by rw [hU]; exact hKH.2.2.1, by rw [hU]; exact hKH.2.2.2⟩⟩ rfl rfl hl.1 rfl (lv_room (Nat.le_of_ble_eq_true rfl)) dJ0_charAt_5068e_1 ⟨Nat.zero_le _, Nat.zero_le _⟩) (fun v st₀ t L' e0 hf hq => ?_)
  obtain ⟨hv, hh⟩ := hq
  have hv' : v = some (.int 1) := Outcome.returned.inj hv
  subst hv'
  have eL : L' = [] := List.eq_nil_iff_forall_not_mem.mpr (fun q hq => hf q hq)
  subst eL
  rw [hh, e0]
  refine lv_if_eq (rest := []) (tgt := 16) hx hb dJ0_charAt_5068e_4 (by decide) (fun z => absurd z (by decide)) (fun _ => ?_)
  refine lv_aload_n hx hb dJ0_charAt_5068e_7 rfl (lv_at hl 0 rfl) ?_
  refine vk_getf (A := fun q => base ≤ q) hx hb hV va_S.rf hown (hts _ (rb_wat (i := 1269) (by decide +kernel) rfl)) (fun _ h => h) dJ0_charAt_5068e_8 ?_
  refine lv_iload_n hx hb dJ0_charAt_5068e_11 rfl (lv_at hl 1 rfl) ?_
  refine rb_aft (rest := []) (va_runS (Ts := rb_ws) (own := RJ0) (As := [.ref (adV k), .int i]) ⟨hx, hb, hml, hown, hts⟩ (tx_charL (D := D) (cA := cA) (φ := φ) (base := base) (b := b) (L := L) (xs := xs) (Hs := Hs) (adV := adV) hk hi) ⟨⟨rfl, rfl, by show 2 + 1 ≤ d + 1; omega, by show 8 + (2 + 11) + 74 ≤ 37 * (d + 1); omega, tx_pay hts hw2, List.mem_cons_self, hts _ hw2, hts _ (rb_wat (i := 67) (by decide +kernel) rfl), ⟨by decide, by decide⟩, tx_np (n := 2) (by decide +kernel), hts _ (rb_wat (i := 376) (by decide +kernel) rfl)⟩, hts _ (rb_wat (i := 377) (by decide +kernel) rfl)⟩ ⟨tx_blind, fun U hU hW => ⟨rfl, rb_KK.warm hW hKH.1, hKH.2.1, by rw [hU]; exact hKH.2.2.1, by rw [hU]; exact hKH.2.2.2⟩⟩ rfl rfl hl.1 rfl (lv_room (Nat.le_of_ble_eq_true rfl)) dJ0_charAt_5068e_12 ⟨Nat.zero_le _, Nat.zero_le _⟩) (fun v st₀ t L' e0 hf hq => ?_)
  obtain ⟨hv, hh⟩ := hq
  have hv' : v = some (.int (rb_chr k i.toNatClampNeg)) := Outcome.returned.inj hv
  subst hv'
  have eL : L' = [] := List.eq_nil_iff_forall_not_mem.mpr (fun q hq => hf q hq)
  subst eL
  rw [hh, e0]
  have e2 : narrow .char (.int (rb_chr k i.toNatClampNeg)) = .int (rb_chr k i.toNatClampNeg) := by
    rw [← tx_and k _ hk (Nat.not_le.mp fun q => hi (Or.inr q))]
    exact sc_nar _
  exact W.zret hx hb hr e2 (fun t ht hW => ⟨rfl, by rw [ht]; exact hrel⟩) (fun q hq => by cases hq) dJ0_charAt_5068e_15
/-- the texts' two contracts -/
theorem tx_all (hHs : Hs.size = base) (d : Nat) : ∀ (mi : Nat) (As : List Value) (σ : rb_S) (r : Option Value) (σ' : rb_S) (M : rb_M), mi = 1000 ∨ mi = 1001 → rb_R (d + 1) mi As σ = some (r, σ') → rb_mth mi = some M → σ.2.1 ≤ σ'.2.1 ∧ σ.2.2 ≤ σ'.2.2 ∧ rb_Ct l D cA φ base b L xs Hs adV (d + 1) M As σ r σ' := by
  intro mi As σ r σ' M hmi hR hM
  rcases hmi with rfl | rfl
  · cases hM
    unfold rb_R at hR
    rw [if_pos rfl] at hR
    split at hR
    · rename_i a
      split at hR
      · rename_i hc
        cases hR
        obtain ⟨k, rfl⟩ : ∃ k, a = k + 1 := ⟨a - 1, by have := hc.2.1; exact (Nat.sub_add_cancel this).symm⟩
        exact ⟨Nat.le_refl _, Nat.le_refl _, tx_length hHs hc.1 (Nat.lt_of_succ_lt_succ hc.2.2)⟩
      · cases hR
    · cases hR
  · cases hM
    unfold rb_R at hR
    rw [if_neg (by decide), if_pos rfl] at hR
    split at hR
    · rename_i a i
      split at hR
      · rename_i hc
        cases hR
        obtain ⟨k, rfl⟩ : ∃ k, a = k + 1 := ⟨a - 1, by have := hc.2.1; exact (Nat.sub_add_cancel this).symm⟩
        exact ⟨Nat.le_refl _, Nat.le_refl _, tx_charAt hHs hc.1 (Nat.lt_of_succ_lt_succ hc.2.2.1) (rb_in_ok hc.2.2.2)⟩
      · cases hR
    · cases hR
/-- every depth -/
theorem rb_MDall (hφ : ∀ k, 6 ≤ k → φ k = base + (k - 6)) (hφ0 : φ 0 = b) (hHs : Hs.size = base) (hbb : b < base) : ∀ d, rb_MD l D cA φ base b L xs Hs adV d := by
  intro d
  induction d with
  | zero => intro mi As σ r σ' M h; cases h
  | succ d ih => exact rb_MD_succ hφ hφ0 hHs hbb ih (tx_all hHs d)
end RBX
