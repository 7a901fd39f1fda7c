/-! ===== a whole run of the small machine is a walk ===== -/
section RBR
variable {p : Program} {l : Launch} {e : Env} {R : Room} {s : State} {m : MethodId} {args : Array Value} {below : List Frame} {meth : Method} {c : Code} {Q : State → Prop}
variable {D : va_G} {cA : Nat → ClassId} {φ : Nat → Nat} {base b L : Nat} {xs : Nat → Int32} {Hs : Heap} {adV : Nat → Nat} {n0 s0 nL o d : Nat} {cc : ByteArray} {ini : Bool} {ret : Option FieldType}
theorem rb_run (I : rb_In p R s m args meth c cc nL o d ini D cA φ base b L xs Hs adV) (hC : rb_MD l D cA φ base b L xs Hs adV d) {r : Option Value} {σ' : rb_S} : ∀ (n : Nat) (a : rb_A), rb_it (fun a : rb_A => rb_nxt (rb_R d) o ini ret (decode cc a.1) a.1 a.2.1 a.2.2.1 a.2.2.2) n a = some (r, σ') → n0 ≤ a.2.2.2.2.1 → s0 ≤ a.2.2.2.2.2 →
    a.2.2.2.2.1 ≤ σ'.2.1 ∧ a.2.2.2.2.2 ≤ σ'.2.2 ∧ (σ'.2.1 - n0 ≤ R.cells → σ'.2.2 - s0 ≤ R.slots → (∀ (pc : Nat) (ls : rb_L) (st : List Value), rb_End (decode cc pc) ret st r → rb_Wf p l e R s m args below meth c Q D cA φ base L xs Hs n0 s0 nL pc ls st σ') → rb_Wf p l e R s m args below meth c Q D cA φ base L xs Hs n0 s0 nL a.1 a.2.1 a.2.2.1 a.2.2.2) := by
  intro n
  induction n with
  | zero => intro a h; cases h
  | succ n ih =>
    intro a h h0 h1
    rw [rb_it] at h
    cases hx : rb_nxt (rb_R d) o ini ret (decode cc a.1) a.1 a.2.1 a.2.2.1 a.2.2.2 with
    | none => rw [hx] at h; cases h
    | some x' =>
      rw [hx] at h
      rcases rb_one (e := e) (below := below) (Q := Q) I hC h0 h1 hx with ⟨a', e1, s1, s2, s3⟩ | ⟨r', e1, hend⟩
      · subst e1
        obtain ⟨i1, i2, i3⟩ := ih a' h (Nat.le_trans h0 s1) (Nat.le_trans h1 s2)
        refine ⟨Nat.le_trans s1 i1, Nat.le_trans s2 i2, fun c1 c2 hf => s3 (by omega) (by omega) (i3 c1 c2 hf)⟩
      · subst e1
        have e2 : (r', a.2.2.2) = (r, σ') := Option.some.inj h
        cases e2
        exact ⟨Nat.le_refl _, Nat.le_refl _, fun _ _ hf => hf _ _ _ hend⟩
theorem rb_lay_as (φ : Nat → Nat) (k : Nat) : ∀ (As : List Value) (i : Nat), rb_as φ i (rb_lay As ++ List.replicate k none) = lv_args i (As.map (rb_cv φ)) := by
  intro As
  induction As with
  | nil =>
    intro i
    show rb_as φ i (List.replicate k none) = []
    induction k generalizing i with
    | zero => rfl
    | succ k ih => rw [List.replicate_succ, rb_as]; exact ih (i + 1)
  | cons v t ih =>
    intro i
    cases v <;> first
      | (show (i, _) :: rb_as φ (i + 1 + 1) (rb_lay t ++ List.replicate k none) = _; rw [ih]; rfl)
      | (show (i, _) :: rb_as φ (i + 1) (rb_lay t ++ List.replicate k none) = _; rw [ih]; rfl)
theorem rb_lay_len (φ : Nat → Nat) : ∀ (As : List Value), (rb_lay As).length = (lg_sl (As.map (rb_cv φ))).length := by
  intro As
  induction As with
  | nil => rfl
  | cons v t ih =>
    rw [List.map_cons, show lg_sl (rb_cv φ v :: t.map (rb_cv φ)) = (if (rb_cv φ v).category = 2 then [.val (rb_cv φ v), .second] else [.val (rb_cv φ v)]) ++ lg_sl (t.map (rb_cv φ)) from by simp [lg_sl], List.length_append, ← ih, rb_cv_cat]
    cases v <;> simp [rb_lay, Value.category] <;> omega
theorem rb_ent_ok {n : Nat} {As : List Value} {ls : rb_L} (h : rb_ent n As = some ls) : (lg_sl (As.map (rb_cv φ))).length ≤ n ∧ rb_LR φ n ls ((lg_sl (As.map (rb_cv φ)) ++ List.replicate (n - (lg_sl (As.map (rb_cv φ))).length) Slot.unset).toArray) := by
  unfold rb_ent at h
  split at h
  · rename_i hle
    have e := Option.some.inj h
    subst e
    have hl : (lg_sl (As.map (rb_cv φ))).length ≤ n := by rw [← rb_lay_len φ]; exact hle
    refine ⟨hl, ?_, by rw [List.length_append, List.length_replicate]; omega⟩
    rw [rb_lay_as]
    exact lv_entry _ hl
  · cases h
set_option maxHeartbeats 4000000 in
/-- the contracts of the next depth; 'hS': those of the texts' two methods -/
theorem rb_MD_succ (hφ : ∀ k, 6 ≤ k → φ k = base + (k - 6)) (hφ0 : φ 0 = b) (hHs : Hs.size = base) (hbb : b < base) (hC : rb_MD l D cA φ base b L xs Hs adV d)
    (hS : ∀ (mi : Nat) (As : List Value) (σ : rb_S) (r : Option Value) (σ' : rb_S) (M : rb_M), mi = 1000 ∨ mi = 1001 → rb_R (d + 1) mi As σ = some (r, σ') → rb_mth mi = some M → σ.2.1 ≤ σ'.2.1 ∧ σ.2.2 ≤ σ'.2.2 ∧ rb_Ct l D cA φ base b L xs Hs adV (d + 1) M As σ r σ') : rb_MD l D cA φ base b L xs Hs adV (d + 1) := by
  intro mi As σ r σ' M hR hM
  by_cases h1000 : mi = 1000
  · exact hS mi As σ r σ' M (Or.inl h1000) hR hM
  by_cases h1001 : mi = 1001
  · exact hS mi As σ r σ' M (Or.inr h1001) hR hM
  have hM' : rb_prog[mi]? = some M := by
    unfold rb_mth at hM
    rw [if_neg h1000, if_neg h1001] at hM
    exact hM
  unfold rb_R at hR
  rw [if_neg h1000, if_neg h1001, hM'] at hR
  dsimp only at hR
  cases hent : rb_ent M.2.2.2.1 As with
  | none => rw [hent] at hR; cases hR
  | some ls =>
    rw [hent] at hR
    obtain ⟨n, hn⟩ := rb_lim_ex hR
    obtain ⟨g1, g2, g3, g4, g5, g6, g7, g8⟩ := rb_mth_ok hM
    have mono : σ.2.1 ≤ σ'.2.1 ∧ σ.2.2 ≤ σ'.2.2 := rb_ok_it (rb_moR d) n _ hn
    refine ⟨mono.1, mono.2, ?_⟩
    refine va_MetF (cc := M.2.2.1) (maxL := M.2.2.2.1) (ret := M.2.2.2.2.1) g3 rfl ?_
    intro p e s m args below meth c s₁ B hml hv
    obtain ⟨rfl, hrel, hKK⟩ := hv
    have hall := atoms_spec (ws := rb_pcd M :: rb_ws) B.pre
    have hown : s.vm.findClass (rb_own M.1) = some m.cls := by rw [g7]; exact findClass_of_methodNamed B.named
    have hlocks := B.notSynchronized
    have hrt := B.returns
    have hb := B.bytes
    have hx := B.exec
    have hini : M.2.2.2.2.2.1 = true → meth.name = "<init>" := fun h => (name_of_methodNamed B.named B.method).1.trans (g8 h)
    have I : rb_In p (headSpec (rb_pcd M :: rb_ws) { frames := d + 1, cells := σ'.2.1 - σ.2.1, slots := σ'.2.2 - σ.2.2, locals := 37 * (d + 1) }).room s m (As.map (rb_cv φ)).toArray meth c M.2.2.1 M.2.2.2.1 M.1 d M.2.2.2.2.2.1 D cA φ base b L xs Hs adV :=
      ⟨hx, hb, hml, hown, fun w hw => hall w (List.mem_cons_of_mem _ hw), hKK, hini, hφ, hφ0, hHs, hbb, Nat.le_refl _, Nat.le_refl _⟩
    obtain ⟨k1, k2⟩ := rb_ent_ok (φ := φ) hent
    rw [lg_entry_eq]
    obtain ⟨-, -, hrun⟩ := rb_run (n0 := σ.2.1) (s0 := σ.2.2) (ret := M.2.2.2.2.1) (e := e) (below := below) (Q := MQ below (fun _ _ oc t => oc = .returned (r.map (rb_cv φ)) ∧ rb_rel D cA φ base L xs Hs σ' t.heap) (As.map (rb_cv φ)).toArray s (σ'.2.1 - σ.2.1) (σ'.2.2 - σ.2.2) (fun q => base ≤ q)) I hC n (0, ls, [], σ) hn (Nat.le_refl _) (Nat.le_refl _)
    have hw := hrun (Nat.le_refl _) (Nat.le_refl _) ?_ s.heap [] _ hrel (fun q hq => by cases hq) k2
    · rw [Nat.sub_self, Nat.sub_self] at hw
      exact hw
    · intro pc ls2 st hend H locs lr hr2 hL hl2
      rcases hend with ⟨x, ty, e1, rfl, rfl, e4, e5⟩ | ⟨x, e1, rfl, rfl, e4⟩ | ⟨x, ty, e1, rfl, rfl, e4, e5⟩ | ⟨e1, rfl, rfl, e4⟩
      · exact W.zret hx hb (hrt.trans e4) (rb_tyok_ok (φ := φ) e5).1 (fun t ht _ => ⟨rfl, by rw [ht]; exact hr2⟩) hL e1
      · exact W.lret hx hb (hrt.trans e4) (fun t ht _ => ⟨rfl, by rw [ht]; exact hr2⟩) hL e1
      · exact W.aret hx hb (hrt.trans e4) e5 (Or.inr ⟨_, rfl⟩) (fun t ht _ => ⟨rfl, by rw [ht]; exact hr2⟩) hL e1
      · exact W.vret hx hb (hrt.trans e4) (fun t ht _ => ⟨rfl, by rw [ht]; exact hr2⟩) hL e1
end RBR
