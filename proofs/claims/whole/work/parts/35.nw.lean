/-! ===== a State at B .. B + 13: arrays by offset, counts by offset, LEAST ===== -/
abbrev sP : Type := (Nat → Nat → Int32) × (Nat → Nat)
def sc (B : Nat) (P : sP) (l : Int32) : Nat → va_E
  | 0 => .inr (6, [.ref (B + 1), .ref (B + 3), .ref (B + 5), .ref (B + 7), .ref (B + 9), .ref (B + 11), .ref (B + 13), .int l])
  | 1 => .inr (3, [.ref (B + 2)])
  | 2 => .inl (0, 25, .inl (P.1 2))
  | 3 => .inr (3, [.ref (B + 4)])
  | 4 => .inl (0, 25, .inl (P.1 4))
  | 5 => brw (B + 6) (nI 64) (nI (P.2 5))
  | 6 => .inl (0, 4 * 64, .inl (P.1 6))
  | 7 => brw (B + 8) (nI 200) (nI (P.2 7))
  | 8 => .inl (0, 4 * 200, .inl (P.1 8))
  | 9 => brw (B + 10) (nI 200) (nI (P.2 9))
  | 10 => .inl (0, 4 * 200, .inl (P.1 10))
  | 11 => brw (B + 12) (nI 200) (nI (P.2 11))
  | 12 => .inl (0, 4 * 200, .inl (P.1 12))
  | _ => .inl (0, 200, .inl (P.1 13))
def so (σ : rb_S) (B : Nat) (P : sP) (l : Int32) : rb_S := (fun k => if B ≤ k ∧ k < B + 14 then some (sc B P l (k - B)) else σ.1 k, σ.2)
theorem so_at {σ : rb_S} {B o : Nat} {P : sP} {l : Int32} (h : o < 14) : (so σ B P l).1 (B + o) = some (sc B P l o) := by
  show (if B ≤ B + o ∧ B + o < B + 14 then some (sc B P l (B + o - B)) else σ.1 (B + o)) = _
  rw [if_pos (by omega), Nat.add_sub_cancel_left]
theorem so_no {σ : rb_S} {B k : Nat} {P : sP} {l : Int32} (h : ¬ (B ≤ k ∧ k < B + 14)) : (so σ B P l).1 k = σ.1 k := if_neg h
theorem so_wr {σ : rb_S} {B o : Nat} {P P' : sP} {l l' : Int32} {c : va_E} (ho : o < 14) (h : ∀ t, t < 14 → sc B P' l' t = if t = o then c else sc B P l t) : rb_wr (so σ B P l) (B + o) c = so σ B P' l' := by
  refine Prod.ext ?_ rfl
  funext j
  show va_up (so σ B P l).1 (B + o) (some c) j = (so σ B P' l').1 j
  by_cases hj : B ≤ j ∧ j < B + 14
  · obtain ⟨t, rfl⟩ : ∃ t, j = B + t := ⟨j - B, by omega⟩
    rw [so_at (by omega), h t (by omega)]
    by_cases ht : t = o
    · rw [ht, va_up_self, if_pos rfl]
    · rw [va_up_ne _ _ (by omega), if_neg ht, so_at (by omega)]
  · rw [va_up_ne _ _ (by omega), so_no hj, so_no hj]
theorem js_out {σ : rb_S} {Z : Nat → sI} {k : Nat} {c : va_E} (h : ¬ (13 ≤ k ∧ k ≤ 84 ∧ k ≠ 15 ∧ k ≠ 16 ∧ k ≠ 44 ∧ k ≠ 45)) : rb_wr (js σ Z) k c = js (rb_wr σ k c) Z := by
  refine Prod.ext ?_ rfl
  funext j
  show va_up (js σ Z).1 k (some c) j = (js (rb_wr σ k c) Z).1 j
  by_cases hj : j = k
  · rw [hj, va_up_self, js_no h, wr_at]
  · rw [va_up_ne _ _ hj]
    unfold js
    show (if _ then _ else σ.1 j) = (if _ then _ else (rb_wr σ k c).1 j)
    rw [wr_ne hj]
theorem so_out {σ : rb_S} {B k : Nat} {P : sP} {l : Int32} {c : va_E} (h : ¬ (B ≤ k ∧ k < B + 14)) : rb_wr (so σ B P l) k c = so (rb_wr σ k c) B P l := by
  refine Prod.ext ?_ rfl
  funext j
  show va_up (so σ B P l).1 k (some c) j = (so (rb_wr σ k c) B P l).1 j
  by_cases hj : j = k
  · rw [hj, va_up_self, so_no h, wr_at]
  · rw [va_up_ne _ _ hj]
    unfold so
    show (if _ then _ else σ.1 j) = (if _ then _ else (rb_wr σ k c).1 j)
    rw [wr_ne hj]
def StAt (σ : rb_S) (B : Nat) (P : sP) (l : Int32) : Prop := ∀ o, o < 14 → σ.1 (B + o) = some (sc B P l o)
theorem so_self {σ : rb_S} {B : Nat} {P : sP} {l : Int32} (h : StAt σ B P l) : so σ B P l = σ := by
  refine Prod.ext ?_ rfl
  funext j
  by_cases hj : B ≤ j ∧ j < B + 14
  · obtain ⟨t, rfl⟩ : ∃ t, j = B + t := ⟨j - B, by omega⟩
    rw [so_at (by omega), h t (by omega)]
  · rw [so_no hj]
/-- the heap as the judge and the State have it -/
def nw (σ : rb_S) (P : sP) (l : Int32) (Z : Nat → sI) : rb_S := js (so σ 85 P l) Z
theorem nw_no {σ : rb_S} {P : sP} {l : Int32} {Z : Nat → sI} {k : Nat} (h : k < 13 ∨ k = 15 ∨ k = 16 ∨ k = 44 ∨ k = 45 ∨ 99 ≤ k) : (nw σ P l Z).1 k = σ.1 k := by
  unfold nw
  rw [js_no (by omega), so_no (by omega)]
theorem nw_sp {σ : rb_S} {P : sP} {l : Int32} {Z : Nat → sI} {k : Nat} (h : spK k) : (nw σ P l Z).1 k = some (sp (Z k).1 (Z k).2) := js_at h
theorem nw_out {σ : rb_S} {P : sP} {l : Int32} {Z : Nat → sI} {k : Nat} {c : va_E} (h : k < 13 ∨ k = 15 ∨ k = 16 ∨ k = 44 ∨ k = 45 ∨ 99 ≤ k) : rb_wr (nw σ P l Z) k c = nw (rb_wr σ k c) P l Z := by
  unfold nw
  rw [js_out (by omega), so_out (by omega)]
section
variable {σ : rb_S} {P : sP} {l : Int32} {Z : Nat → sI}
theorem nw_85 : (nw σ P l Z).1 85 = some (.inr (6, [.ref 86, .ref 88, .ref 90, .ref 92, .ref 94, .ref 96, .ref 98, .int l])) := rfl
theorem nw_86 : (nw σ P l Z).1 86 = some (.inr (3, [.ref 87])) := rfl
theorem nw_87 : (nw σ P l Z).1 87 = some (.inl (0, 25, .inl (P.1 2))) := rfl
theorem nw_88 : (nw σ P l Z).1 88 = some (.inr (3, [.ref 89])) := rfl
theorem nw_89 : (nw σ P l Z).1 89 = some (.inl (0, 25, .inl (P.1 4))) := rfl
theorem nw_90 : (nw σ P l Z).1 90 = some (brw 91 (nI 64) (nI (P.2 5))) := rfl
theorem nw_91 : (nw σ P l Z).1 91 = some (.inl (0, 4 * 64, .inl (P.1 6))) := rfl
theorem nw_92 : (nw σ P l Z).1 92 = some (brw 93 (nI 200) (nI (P.2 7))) := rfl
theorem nw_93 : (nw σ P l Z).1 93 = some (.inl (0, 4 * 200, .inl (P.1 8))) := rfl
theorem nw_94 : (nw σ P l Z).1 94 = some (brw 95 (nI 200) (nI (P.2 9))) := rfl
theorem nw_95 : (nw σ P l Z).1 95 = some (.inl (0, 4 * 200, .inl (P.1 10))) := rfl
theorem nw_96 : (nw σ P l Z).1 96 = some (brw 97 (nI 200) (nI (P.2 11))) := rfl
theorem nw_97 : (nw σ P l Z).1 97 = some (.inl (0, 4 * 200, .inl (P.1 12))) := rfl
theorem nw_98 : (nw σ P l Z).1 98 = some (.inl (0, 200, .inl (P.1 13))) := rfl
theorem nww_87 {g : Nat → Int32} : rb_wr (nw σ P l Z) 87 (.inl (0, 25, .inl g)) = nw σ (va_up P.1 2 g, P.2) l Z := by
  unfold nw
  rw [js_out (by omega), so_wr (B := 85) (o := 2) (P' := (va_up P.1 2 g, P.2)) (l' := l) (by omega)]
  intro t ht
  match t, ht with
  | 0, _ => rfl
  | 1, _ => rfl
  | 2, _ => rfl
  | 3, _ => rfl
  | 4, _ => rfl
  | 5, _ => rfl
  | 6, _ => rfl
  | 7, _ => rfl
  | 8, _ => rfl
  | 9, _ => rfl
  | 10, _ => rfl
  | 11, _ => rfl
  | 12, _ => rfl
  | 13, _ => rfl
  | t + 14, ht => exact absurd ht (by omega)
theorem nww_89 {g : Nat → Int32} : rb_wr (nw σ P l Z) 89 (.inl (0, 25, .inl g)) = nw σ (va_up P.1 4 g, P.2) l Z := by
  unfold nw
  rw [js_out (by omega), so_wr (B := 85) (o := 4) (P' := (va_up P.1 4 g, P.2)) (l' := l) (by omega)]
  intro t ht
  match t, ht with
  | 0, _ => rfl
  | 1, _ => rfl
  | 2, _ => rfl
  | 3, _ => rfl
  | 4, _ => rfl
  | 5, _ => rfl
  | 6, _ => rfl
  | 7, _ => rfl
  | 8, _ => rfl
  | 9, _ => rfl
  | 10, _ => rfl
  | 11, _ => rfl
  | 12, _ => rfl
  | 13, _ => rfl
  | t + 14, ht => exact absurd ht (by omega)
theorem nww_91 {g : Nat → Int32} : rb_wr (nw σ P l Z) 91 (.inl (0, 4 * 64, .inl g)) = nw σ (va_up P.1 6 g, P.2) l Z := by
  unfold nw
  rw [js_out (by omega), so_wr (B := 85) (o := 6) (P' := (va_up P.1 6 g, P.2)) (l' := l) (by omega)]
  intro t ht
  match t, ht with
  | 0, _ => rfl
  | 1, _ => rfl
  | 2, _ => rfl
  | 3, _ => rfl
  | 4, _ => rfl
  | 5, _ => rfl
  | 6, _ => rfl
  | 7, _ => rfl
  | 8, _ => rfl
  | 9, _ => rfl
  | 10, _ => rfl
  | 11, _ => rfl
  | 12, _ => rfl
  | 13, _ => rfl
  | t + 14, ht => exact absurd ht (by omega)
theorem nww_93 {g : Nat → Int32} : rb_wr (nw σ P l Z) 93 (.inl (0, 4 * 200, .inl g)) = nw σ (va_up P.1 8 g, P.2) l Z := by
  unfold nw
  rw [js_out (by omega), so_wr (B := 85) (o := 8) (P' := (va_up P.1 8 g, P.2)) (l' := l) (by omega)]
  intro t ht
  match t, ht with
  | 0, _ => rfl
  | 1, _ => rfl
  | 2, _ => rfl
  | 3, _ => rfl
  | 4, _ => rfl
  | 5, _ => rfl
  | 6, _ => rfl
  | 7, _ => rfl
  | 8, _ => rfl
  | 9, _ => rfl
  | 10, _ => rfl
  | 11, _ => rfl
  | 12, _ => rfl
  | 13, _ => rfl
  | t + 14, ht => exact absurd ht (by omega)
theorem nww_95 {g : Nat → Int32} : rb_wr (nw σ P l Z) 95 (.inl (0, 4 * 200, .inl g)) = nw σ (va_up P.1 10 g, P.2) l Z := by
  unfold nw
  rw [js_out (by omega), so_wr (B := 85) (o := 10) (P' := (va_up P.1 10 g, P.2)) (l' := l) (by omega)]
  intro t ht
  match t, ht with
  | 0, _ => rfl
  | 1, _ => rfl
  | 2, _ => rfl
  | 3, _ => rfl
  | 4, _ => rfl
  | 5, _ => rfl
  | 6, _ => rfl
  | 7, _ => rfl
  | 8, _ => rfl
  | 9, _ => rfl
  | 10, _ => rfl
  | 11, _ => rfl
  | 12, _ => rfl
  | 13, _ => rfl
  | t + 14, ht => exact absurd ht (by omega)
theorem nww_97 {g : Nat → Int32} : rb_wr (nw σ P l Z) 97 (.inl (0, 4 * 200, .inl g)) = nw σ (va_up P.1 12 g, P.2) l Z := by
  unfold nw
  rw [js_out (by omega), so_wr (B := 85) (o := 12) (P' := (va_up P.1 12 g, P.2)) (l' := l) (by omega)]
  intro t ht
  match t, ht with
  | 0, _ => rfl
  | 1, _ => rfl
  | 2, _ => rfl
  | 3, _ => rfl
  | 4, _ => rfl
  | 5, _ => rfl
  | 6, _ => rfl
  | 7, _ => rfl
  | 8, _ => rfl
  | 9, _ => rfl
  | 10, _ => rfl
  | 11, _ => rfl
  | 12, _ => rfl
  | 13, _ => rfl
  | t + 14, ht => exact absurd ht (by omega)
theorem nww_98 {g : Nat → Int32} : rb_wr (nw σ P l Z) 98 (.inl (0, 200, .inl g)) = nw σ (va_up P.1 13 g, P.2) l Z := by
  unfold nw
  rw [js_out (by omega), so_wr (B := 85) (o := 13) (P' := (va_up P.1 13 g, P.2)) (l' := l) (by omega)]
  intro t ht
  match t, ht with
  | 0, _ => rfl
  | 1, _ => rfl
  | 2, _ => rfl
  | 3, _ => rfl
  | 4, _ => rfl
  | 5, _ => rfl
  | 6, _ => rfl
  | 7, _ => rfl
  | 8, _ => rfl
  | 9, _ => rfl
  | 10, _ => rfl
  | 11, _ => rfl
  | 12, _ => rfl
  | 13, _ => rfl
  | t + 14, ht => exact absurd ht (by omega)
theorem nww_90 {n : Nat} : rb_wr (nw σ P l Z) 90 (brw 91 (nI 64) (nI n)) = nw σ (P.1, va_up P.2 5 n) l Z := by
  unfold nw
  rw [js_out (by omega), so_wr (B := 85) (o := 5) (P' := (P.1, va_up P.2 5 n)) (l' := l) (by omega)]
  intro t ht
  match t, ht with
  | 0, _ => rfl
  | 1, _ => rfl
  | 2, _ => rfl
  | 3, _ => rfl
  | 4, _ => rfl
  | 5, _ => rfl
  | 6, _ => rfl
  | 7, _ => rfl
  | 8, _ => rfl
  | 9, _ => rfl
  | 10, _ => rfl
  | 11, _ => rfl
  | 12, _ => rfl
  | 13, _ => rfl
  | t + 14, ht => exact absurd ht (by omega)
theorem nww_92 {n : Nat} : rb_wr (nw σ P l Z) 92 (brw 93 (nI 200) (nI n)) = nw σ (P.1, va_up P.2 7 n) l Z := by
  unfold nw
  rw [js_out (by omega), so_wr (B := 85) (o := 7) (P' := (P.1, va_up P.2 7 n)) (l' := l) (by omega)]
  intro t ht
  match t, ht with
  | 0, _ => rfl
  | 1, _ => rfl
  | 2, _ => rfl
  | 3, _ => rfl
  | 4, _ => rfl
  | 5, _ => rfl
  | 6, _ => rfl
  | 7, _ => rfl
  | 8, _ => rfl
  | 9, _ => rfl
  | 10, _ => rfl
  | 11, _ => rfl
  | 12, _ => rfl
  | 13, _ => rfl
  | t + 14, ht => exact absurd ht (by omega)
theorem nww_94 {n : Nat} : rb_wr (nw σ P l Z) 94 (brw 95 (nI 200) (nI n)) = nw σ (P.1, va_up P.2 9 n) l Z := by
  unfold nw
  rw [js_out (by omega), so_wr (B := 85) (o := 9) (P' := (P.1, va_up P.2 9 n)) (l' := l) (by omega)]
  intro t ht
  match t, ht with
  | 0, _ => rfl
  | 1, _ => rfl
  | 2, _ => rfl
  | 3, _ => rfl
  | 4, _ => rfl
  | 5, _ => rfl
  | 6, _ => rfl
  | 7, _ => rfl
  | 8, _ => rfl
  | 9, _ => rfl
  | 10, _ => rfl
  | 11, _ => rfl
  | 12, _ => rfl
  | 13, _ => rfl
  | t + 14, ht => exact absurd ht (by omega)
theorem nww_96 {n : Nat} : rb_wr (nw σ P l Z) 96 (brw 97 (nI 200) (nI n)) = nw σ (P.1, va_up P.2 11 n) l Z := by
  unfold nw
  rw [js_out (by omega), so_wr (B := 85) (o := 11) (P' := (P.1, va_up P.2 11 n)) (l' := l) (by omega)]
  intro t ht
  match t, ht with
  | 0, _ => rfl
  | 1, _ => rfl
  | 2, _ => rfl
  | 3, _ => rfl
  | 4, _ => rfl
  | 5, _ => rfl
  | 6, _ => rfl
  | 7, _ => rfl
  | 8, _ => rfl
  | 9, _ => rfl
  | 10, _ => rfl
  | 11, _ => rfl
  | 12, _ => rfl
  | 13, _ => rfl
  | t + 14, ht => exact absurd ht (by omega)
theorem nww_85 {l' : Int32} : rb_wr (nw σ P l Z) 85 (.inr (6, [.ref 86, .ref 88, .ref 90, .ref 92, .ref 94, .ref 96, .ref 98, .int l'])) = nw σ P l' Z := by
  unfold nw
  rw [js_out (by omega), so_wr (B := 85) (o := 0) (P' := P) (l' := l') (by omega)]
  intro t ht
  match t, ht with
  | 0, _ => rfl
  | 1, _ => rfl
  | 2, _ => rfl
  | 3, _ => rfl
  | 4, _ => rfl
  | 5, _ => rfl
  | 6, _ => rfl
  | 7, _ => rfl
  | 8, _ => rfl
  | 9, _ => rfl
  | 10, _ => rfl
  | 11, _ => rfl
  | 12, _ => rfl
  | 13, _ => rfl
  | t + 14, ht => exact absurd ht (by omega)
end
