/-! ===== THE SMALL MACHINE: one step is a function; heap cells by number (0: the script, 1 .. 5: the texts, from 6 on: what was made, in its order) ===== -/
/-- the heap, the next number, the slots used so far -/
abbrev rb_S : Type := (Nat → Option va_E) × Nat × Nat
abbrev rb_L : Type := List (Option Value)
abbrev rb_A : Type := Nat × rb_L × List Value × rb_S
abbrev rb_B : Type := Option Value × rb_S
abbrev rb_C : Type := Nat → List Value → rb_S → Option rb_B
abbrev rb_N : Type := Option (rb_A ⊕ rb_B)
/-- what a field, or an answer, of a type may hold -/
def rb_tyok : FieldType → Value → Bool
  | .int, .int _ => true
  | .long, .long _ => true
  | .boolean, .int v => v == 0 || v == 1
  | .object _, .ref _ => true
  | .object _, .null => true
  | .array _, .ref _ => true
  | .array _, .null => true
  | _, _ => false
def rb_inv : Option Value → Option Value
  | some (.long _) => none
  | some (.double _) => none
  | v => v
def rb_set1 : Nat → Value → rb_L → Option rb_L
  | _, _, [] => none
  | 0, v, _ :: t => some (some v :: t)
  | i + 1, v, a :: t => match rb_set1 i v t with
    | none => none
    | some t' => some ((if i = 0 then rb_inv a else a) :: t')
def rb_set2 : Nat → Value → rb_L → Option rb_L
  | _, _, [] => none
  | 0, v, _ :: t => match t with
    | [] => none
    | _ :: t2 => some (some v :: none :: t2)
  | i + 1, v, a :: t => match rb_set2 i v t with
    | none => none
    | some t' => some ((if i = 0 then rb_inv a else a) :: t')
def rb_go (len n pc : Nat) (ls : rb_L) (st : List Value) (σ : rb_S) : rb_N := if len = n then some (.inl (pc + n, ls, st, σ)) else none
def rb_jp (pc : Nat) (off : Int) (ls : rb_L) (st : List Value) (σ : rb_S) : rb_N := if 0 ≤ (pc : Int) + off then some (.inl (((pc : Int) + off).toNat, ls, st, σ)) else none
def rb_j (len pc : Nat) (off : Int) (ls : rb_L) (st : List Value) (σ : rb_S) : rb_N := if len = 3 then rb_jp pc off ls st σ else none
def rb_ldi (ls : rb_L) (i : Nat) (f : Int32 → rb_N) : rb_N := match ls[i]? with
  | some (some (.int x)) => f x
  | _ => none
def rb_ldl (ls : rb_L) (i : Nat) (f : Int64 → rb_N) : rb_N := match ls[i]? with
  | some (some (.long x)) => f x
  | _ => none
def rb_lda (ls : rb_L) (i : Nat) (f : Value → rb_N) : rb_N := match ls[i]? with
  | some (some (.ref x)) => f (.ref x)
  | some (some .null) => f .null
  | _ => none
def rb_pi (st : List Value) (f : Int32 → List Value → rb_N) : rb_N := match st with
  | .int x :: t => f x t
  | _ => none
def rb_pl (st : List Value) (f : Int64 → List Value → rb_N) : rb_N := match st with
  | .long x :: t => f x t
  | _ => none
def rb_pa (st : List Value) (f : Value → List Value → rb_N) : rb_N := match st with
  | .ref x :: t => f (.ref x) t
  | .null :: t => f .null t
  | _ => none
def rb_pr (st : List Value) (f : Nat → List Value → rb_N) : rb_N := match st with
  | .ref x :: t => f x t
  | _ => none
def rb_ii (st : List Value) (f : Int32 → Int32 → List Value → rb_N) : rb_N := match st with
  | .int y :: .int x :: t => f x y t
  | _ => none
def rb_ll (st : List Value) (f : Int64 → Int64 → List Value → rb_N) : rb_N := match st with
  | .long y :: .long x :: t => f x y t
  | _ => none
def rb_s1 (len n pc : Nat) (o : Option rb_L) (st : List Value) (σ : rb_S) : rb_N := match o with
  | some ls => rb_go len n pc ls st σ
  | none => none
def rb_obj (σ : rb_S) (a ci : Nat) (f : List Value → rb_N) : rb_N := match σ.1 a with
  | some (.inr (c, fs)) => if c = ci then f fs else none
  | _ => none
def rb_arI (σ : rb_S) (a : Nat) (f : Nat → Nat → (Nat → Int32) → rb_N) : rb_N := match σ.1 a with
  | some (.inl (t, n, .inl g)) => f t n g
  | _ => none
def rb_arJ (σ : rb_S) (a : Nat) (f : Nat → (Nat → Int64) → rb_N) : rb_N := match σ.1 a with
  | some (.inl (t, n, .inr (.inl g))) => if t = 1 then f n g else none
  | _ => none
def rb_arA (σ : rb_S) (a : Nat) (f : Nat → Nat → (Nat → Option Nat) → rb_N) : rb_N := match σ.1 a with
  | some (.inl (t, n, .inr (.inr (.inr (.inr g))))) => f t n g
  | _ => none
/-- an array's length: of ints, longs or references -/
def rb_arN (σ : rb_S) (a : Nat) (f : Nat → rb_N) : rb_N := match σ.1 a with
  | some (.inl (t, n, .inl _)) => if t = 0 ∨ t = 9 then f n else none
  | some (.inl (t, n, .inr (.inl _))) => if t = 1 then f n else none
  | some (.inl (t, n, .inr (.inr (.inr (.inr _))))) => if t = 2 ∨ t = 3 then f n else none
  | _ => none
/-- a cell is put at a number -/
def rb_wr (σ : rb_S) (a : Nat) (c : va_E) : rb_S := (va_up σ.1 a (some c), σ.2)
/-- a cell more -/
def rb_mk (σ : rb_S) (c : va_E) (n : Nat) : rb_S := (va_up σ.1 σ.2.1 (some c), σ.2.1 + 1, σ.2.2 + n)
/-- an index within -/
def rb_in (i : Int32) (n : Nat) : Bool := decide (¬ i < 0) && decide (i.toNatClampNeg < n)
/-- the class of an array's members -/
def rb_elt (t : Nat) : Nat := if t = 2 then 5 else 6
def rb_isR (σ : rb_S) (ci : Nat) (As : List Value) : Bool := match As with
  | .ref a :: _ => match σ.1 a with
    | some (.inr (c, _)) => c == ci
    | _ => false
  | _ => false
def rb_isS (As : List Value) : Bool := match As with
  | .ref a :: _ => decide (1 ≤ a) && decide (a < 6)
  | _ => false
def rb_cat (st : List Value) : Bool := decide ((st.map Value.category).sum ≤ 8)
def rb_ret (C : rb_C) (mi pc : Nat) (ls : rb_L) (As rest : List Value) (σ : rb_S) : rb_N := match C mi As σ with
  | some (r, σ') => some (.inl (pc + 3, ls, r.toList ++ rest, σ'))
  | none => none
/-- a call: 'form' 0 invokestatic, 1 invokevirtual, 2 invokespecial -/
def rb_ivk (C : rb_C) (e : Option (Nat × Nat × Nat × Nat × Nat × Nat × Nat)) (form len pc : Nat) (ls : rb_L) (st : List Value) (σ : rb_S) : rb_N :=
  if len = 3 then match e with
    | some (kind, mi, n, ci, _) =>
      if (kind = 0 ∨ kind = 3) ∧ form = 0 then (if n ≤ st.length ∧ rb_cat (st.drop n) = true then rb_ret C mi pc ls (st.take n).reverse (st.drop n) σ else none)
      else if kind = 1 ∧ form = 1 then (if n ≤ st.length ∧ rb_cat (st.drop n) = true ∧ rb_isR σ ci (st.take n).reverse = true then rb_ret C mi pc ls (st.take n).reverse (st.drop n) σ else none)
      else if (kind = 2 ∨ kind = 5) ∧ form = 2 then (if n ≤ st.length ∧ rb_cat (st.drop n) = true ∧ rb_isR σ ci (st.take n).reverse = true then rb_ret C mi pc ls (st.take n).reverse (st.drop n) σ else none)
      else if kind = 8 ∧ form = 1 then (if n ≤ st.length ∧ rb_cat (st.drop n) = true ∧ rb_isS (st.take n).reverse = true then rb_ret C mi pc ls (st.take n).reverse (st.drop n) σ else none)
      else if kind = 6 ∧ form = 2 then rb_pr st fun _ t => (if rb_cat t = true then some (.inl (pc + 3, ls, t, σ)) else none)
      else if kind = 7 ∧ form = 0 then (match st with
        | .int n :: .int dp :: .ref d :: .int sp :: .ref s :: t =>
          rb_arI σ s fun t0 n0 f => rb_arI σ d fun t1 n1 g =>
            if t0 = 0 ∧ t1 = 0 ∧ ¬ sp < 0 ∧ ¬ dp < 0 ∧ ¬ n < 0 ∧ sp.toNatClampNeg + n.toNatClampNeg ≤ n0 ∧ dp.toNatClampNeg + n.toNatClampNeg ≤ n1 ∧ rb_cat t = true then
              some (.inl (pc + 3, ls, t, rb_wr σ d (.inl (0, n1, .inl (va_cpy f g sp.toNatClampNeg dp.toNatClampNeg n.toNatClampNeg))))) else none
        | _ => none)
      else none
    | none => none
  else none
def rb_nxt (C : rb_C) (o : Nat) (ini : Bool) (ret : Option FieldType) (d : Except DecodeError (Instr × Nat)) (pc : Nat) (ls : rb_L) (st : List Value) (σ : rb_S) : rb_N :=
  match d with
  | .error _ => none
  | .ok (ins, len) => match ins with
    | .aconst_null => rb_go len 1 pc ls (.null :: st) σ
    | .iconst n => rb_go len 1 pc ls (.int (Int32.ofInt n) :: st) σ
    | .bipush n => rb_go len 2 pc ls (.int (Int8.ofInt n).toInt32 :: st) σ
    | .sipush n => rb_go len 3 pc ls (.int (Int16.ofInt n).toInt32 :: st) σ
    | .lconst n => rb_go len 1 pc ls (.long (Int64.ofNat (n : Nat)) :: st) σ
    | .ldc i => (match rb_kI o i with
      | some (v, _) => rb_go len 2 pc ls (.int v :: st) σ
      | none => match rb_kS o i with
        | some k => rb_go len 2 pc ls (.ref k :: st) σ
        | none => none)
    | .ldc2_w i => (match rb_kJ o i with
      | some (v, _) => rb_go len 3 pc ls (.long v :: st) σ
      | none => none)
    | .iload_n k => rb_ldi ls (k : Nat) fun x => rb_go len 1 pc ls (.int x :: st) σ
    | .iload k => rb_ldi ls k fun x => rb_go len 2 pc ls (.int x :: st) σ
    | .lload_n k => rb_ldl ls (k : Nat) fun x => rb_go len 1 pc ls (.long x :: st) σ
    | .lload k => rb_ldl ls k fun x => rb_go len 2 pc ls (.long x :: st) σ
    | .aload_n k => rb_lda ls (k : Nat) fun x => rb_go len 1 pc ls (x :: st) σ
    | .aload k => rb_lda ls k fun x => rb_go len 2 pc ls (x :: st) σ
    | .istore_n k => rb_pi st fun x t => rb_s1 len 1 pc (rb_set1 (k : Nat) (.int x) ls) t σ
    | .istore k => rb_pi st fun x t => rb_s1 len 2 pc (rb_set1 k (.int x) ls) t σ
    | .lstore_n k => rb_pl st fun x t => rb_s1 len 1 pc (rb_set2 (k : Nat) (.long x) ls) t σ
    | .lstore k => rb_pl st fun x t => rb_s1 len 2 pc (rb_set2 k (.long x) ls) t σ
    | .astore_n k => rb_pr st fun x t => rb_s1 len 1 pc (rb_set1 (k : Nat) (.ref x) ls) t σ
    | .astore k => rb_pr st fun x t => rb_s1 len 2 pc (rb_set1 k (.ref x) ls) t σ
    | .iinc k n => rb_ldi ls k fun x => rb_s1 len 3 pc (rb_set1 k (.int (x + Int32.ofInt n)) ls) st σ
    | .iadd => rb_ii st fun x y t => rb_go len 1 pc ls (.int (x + y) :: t) σ
    | .isub => rb_ii st fun x y t => rb_go len 1 pc ls (.int (x - y) :: t) σ
    | .imul => rb_ii st fun x y t => rb_go len 1 pc ls (.int (x * y) :: t) σ
    | .iand => rb_ii st fun x y t => rb_go len 1 pc ls (.int (x &&& y) :: t) σ
    | .ior => rb_ii st fun x y t => rb_go len 1 pc ls (.int (x ||| y) :: t) σ
    | .idiv => rb_ii st fun x y t => if y = 0 then none else rb_go len 1 pc ls (.int (x / y) :: t) σ
    | .irem => rb_ii st fun x y t => if y = 0 then none else rb_go len 1 pc ls (.int (x - x / y * y) :: t) σ
    | .ineg => rb_pi st fun x t => rb_go len 1 pc ls (.int (-x) :: t) σ
    | .ladd => rb_ll st fun x y t => rb_go len 1 pc ls (.long (x + y) :: t) σ
    | .lsub => rb_ll st fun x y t => rb_go len 1 pc ls (.long (x - y) :: t) σ
    | .lmul => rb_ll st fun x y t => rb_go len 1 pc ls (.long (x * y) :: t) σ
    | .lxor => rb_ll st fun x y t => rb_go len 1 pc ls (.long (x ^^^ y) :: t) σ
    | .ldiv => rb_ll st fun x y t => if y = 0 then none else rb_go len 1 pc ls (.long (x / y) :: t) σ
    | .lneg => rb_pl st fun x t => rb_go len 1 pc ls (.long (-x) :: t) σ
    | .lcmp => rb_ll st fun x y t => rb_go len 1 pc ls (.int (lg_cmp x y) :: t) σ
    | .i2l => rb_pi st fun x t => rb_go len 1 pc ls (.long x.toInt64 :: t) σ
    | .l2i => rb_pl st fun x t => rb_go len 1 pc ls (.int x.toInt32 :: t) σ
    | .dup => (match st with
      | v :: t => if v.category = 1 then rb_go len 1 pc ls (v :: v :: t) σ else none
      | _ => none)
    | .dup2 => (match st with
      | v :: w :: t => if v.category = 1 ∧ w.category = 1 then rb_go len 1 pc ls (v :: w :: v :: w :: t) σ else none
      | _ => none)
    | .pop => (match st with
      | v :: t => if v.category = 1 then rb_go len 1 pc ls t σ else none
      | _ => none)
    | .ifCond cnd off => rb_pi st fun x t => (match cnd with
      | .eq => if x = 0 then rb_j len pc off ls t σ else rb_go len 3 pc ls t σ
      | .ne => if x = 0 then rb_go len 3 pc ls t σ else rb_j len pc off ls t σ
      | .lt => if x < 0 then rb_j len pc off ls t σ else rb_go len 3 pc ls t σ
      | .ge => if 0 ≤ x then rb_j len pc off ls t σ else rb_go len 3 pc ls t σ
      | .gt => if 0 < x then rb_j len pc off ls t σ else rb_go len 3 pc ls t σ
      | .le => if x ≤ 0 then rb_j len pc off ls t σ else rb_go len 3 pc ls t σ)
    | .if_icmp cnd off => rb_ii st fun x y t => (match cnd with
      | .eq => if x = y then rb_j len pc off ls t σ else rb_go len 3 pc ls t σ
      | .ne => if x = y then rb_go len 3 pc ls t σ else rb_j len pc off ls t σ
      | .lt => if x < y then rb_j len pc off ls t σ else rb_go len 3 pc ls t σ
      | .ge => if y ≤ x then rb_j len pc off ls t σ else rb_go len 3 pc ls t σ
      | .gt => if y < x then rb_j len pc off ls t σ else rb_go len 3 pc ls t σ
      | .le => if x ≤ y then rb_j len pc off ls t σ else rb_go len 3 pc ls t σ)
    | .goto off => rb_j len pc off ls st σ
    | .ifnull off => rb_pa st fun v t => (match v with
      | .null => rb_j len pc off ls t σ
      | _ => rb_go len 3 pc ls t σ)
    | .ifnonnull off => rb_pa st fun v t => (match v with
      | .null => rb_go len 3 pc ls t σ
      | _ => rb_j len pc off ls t σ)
    | .tableswitch dflt lo hi offs => rb_pi st fun x t => if x.toInt < lo ∨ hi < x.toInt then rb_jp pc dflt ls t σ else (match offs[(x.toInt - lo).toNat]? with
      | some off => rb_jp pc off ls t σ
      | none => none)
    | .getfield i => (match rb_fld o i with
      | some (ci, k, _) => rb_pr st fun a t => rb_obj σ a ci fun fs => (match fs[k]? with
        | some v => rb_go len 3 pc ls (v :: t) σ
        | none => none)
      | none => none)
    | .putfield i => (match rb_fld o i with
      | some (ci, k, fin, ty, _) => (match st with
        | v :: .ref a :: t => rb_obj σ a ci fun fs => if k < fs.length ∧ rb_tyok ty v = true ∧ (fin = false ∨ ini = true) then rb_go len 3 pc ls t (rb_wr σ a (.inr (ci, fs.set k v))) else none
        | _ => none)
      | none => none)
    | .iaload => (match st with
      | .int i :: .ref a :: t => rb_arI σ a fun tg n g => if (tg = 0 ∨ tg = 9) ∧ rb_in i n = true then rb_go len 1 pc ls (.int (g i.toNatClampNeg) :: t) σ else none
      | _ => none)
    | .laload => (match st with
      | .int i :: .ref a :: t => rb_arJ σ a fun n g => if rb_in i n = true then rb_go len 1 pc ls (.long (g i.toNatClampNeg) :: t) σ else none
      | _ => none)
    | .aaload => (match st with
      | .int i :: .ref a :: t => rb_arA σ a fun tg n g => if (tg = 2 ∨ tg = 3) ∧ rb_in i n = true then rb_go len 1 pc ls (va_rf (g i.toNatClampNeg) :: t) σ else none
      | _ => none)
    | .iastore => (match st with
      | .int x :: .int i :: .ref a :: t => rb_arI σ a fun tg n g => if tg = 0 ∧ rb_in i n = true then rb_go len 1 pc ls t (rb_wr σ a (.inl (0, n, .inl (upd g i.toNatClampNeg x)))) else none
      | _ => none)
    | .lastore => (match st with
      | .long x :: .int i :: .ref a :: t => rb_arJ σ a fun n g => if rb_in i n = true then rb_go len 1 pc ls t (rb_wr σ a (.inl (1, n, .inr (.inl (vp_updL g i.toNatClampNeg x))))) else none
      | _ => none)
    | .aastore => (match st with
      | .ref x :: .int i :: .ref a :: t => rb_arA σ a fun tg n g => rb_obj σ x (rb_elt tg) fun _ => if (tg = 2 ∨ tg = 3) ∧ rb_in i n = true then rb_go len 1 pc ls t (rb_wr σ a (.inl (tg, n, .inr (.inr (.inr (.inr (va_up g i.toNatClampNeg (some x)))))))) else none
      | _ => none)
    | .arraylength => rb_pr st fun a t => rb_arN σ a fun n => rb_go len 1 pc ls (.int (Int32.ofNat n) :: t) σ
    | .newarray ty => rb_pi st fun x t => if ¬ x < 0 ∧ x.toNatClampNeg ≤ 1000000 then (match ty with
      | .int => rb_go len 2 pc ls (.ref σ.2.1 :: t) (rb_mk σ (.inl (0, x.toNatClampNeg, .inl fun _ => 0)) x.toNatClampNeg)
      | .long => rb_go len 2 pc ls (.ref σ.2.1 :: t) (rb_mk σ (.inl (1, x.toNatClampNeg, .inr (.inl fun _ => 0))) x.toNatClampNeg)
      | _ => none) else none
    | .anewarray i => (match rb_anw o i with
      | some (tg, _) => rb_pi st fun x t => if ¬ x < 0 ∧ x.toNatClampNeg ≤ 1000000 then rb_go len 3 pc ls (.ref σ.2.1 :: t) (rb_mk σ (.inl (tg, x.toNatClampNeg, .inr (.inr (.inr (.inr fun _ => none))))) x.toNatClampNeg) else none
      | none => none)
    | .new i => (match rb_new o i with
      | some (ci, _) => rb_go len 3 pc ls (.ref σ.2.1 :: st) (rb_mk σ (.inr (ci, rb_def ci)) (rb_def ci).length)
      | none => none)
    | .invokestatic i => rb_ivk C (rb_iv o i) 0 len pc ls st σ
    | .invokevirtual i => rb_ivk C (rb_iv o i) 1 len pc ls st σ
    | .invokespecial i => rb_ivk C (rb_iv o i) 2 len pc ls st σ
    | .ireturn => (match st with
      | [.int x] => (match ret with
        | some ty => if len = 1 ∧ rb_tyok ty (.int x) = true then some (.inr (some (.int x), σ)) else none
        | none => none)
      | _ => none)
    | .lreturn => (match st with
      | [.long x] => if len = 1 ∧ ret = some .long then some (.inr (some (.long x), σ)) else none
      | _ => none)
    | .areturn => (match st with
      | [.ref x] => (match ret with
        | some (.object _) => if len = 1 then some (.inr (some (.ref x), σ)) else none
        | some (.array _) => if len = 1 then some (.inr (some (.ref x), σ)) else none
        | _ => none)
      | _ => none)
    | .return_ => (match st with
      | [] => if len = 1 ∧ ret = none then some (.inr (none, σ)) else none
      | _ => none)
    | _ => none
/-! ===== many steps ===== -/
def rb_it {α β : Type} (f : α → Option (α ⊕ β)) : Nat → α → Option β
  | 0, _ => none
  | n + 1, a => match f a with
    | none => none
    | some (.inl a') => rb_it f n a'
    | some (.inr b) => some b
noncomputable def rb_lim {α β : Type} (f : α → Option (α ⊕ β)) (a : α) : Option β :=
  haveI := Classical.propDecidable (∃ n b, rb_it f n a = some b)
  if h : ∃ n b, rb_it f n a = some b then some (Classical.choose (Classical.choose_spec h)) else none
def rb_stp (C : rb_C) (M : rb_M) (a : rb_A) : rb_N := rb_nxt C M.1 M.2.2.2.2.2.1 M.2.2.2.2.1 (decode M.2.2.1 a.1) a.1 a.2.1 a.2.2.1 a.2.2.2
def rb_lay : List Value → rb_L
  | [] => []
  | .long x :: vs => some (.long x) :: none :: rb_lay vs
  | .double x :: vs => some (.double x) :: none :: rb_lay vs
  | v :: vs => some v :: rb_lay vs
def rb_ent (n : Nat) (As : List Value) : Option rb_L := if (rb_lay As).length ≤ n then some (rb_lay As ++ List.replicate (n - (rb_lay As).length) none) else none
/-- the char of a text at a place -/
def rb_chr (i k : Nat) : Int32 := (rb_strB.getD i []).getD k 0
noncomputable def rb_R : Nat → rb_C
  | 0 => fun _ _ _ => none
  | d + 1 => fun mi As σ =>
    if mi = 1000 then (match As with
      | [.ref a] => if 2 ≤ d ∧ 1 ≤ a ∧ a < 6 then some (some (.int (nI (rb_strN.getD (a - 1) 0))), σ) else none
      | _ => none)
    else if mi = 1001 then (match As with
      | [.ref a, .int i] => if 4 ≤ d ∧ 1 ≤ a ∧ a < 6 ∧ rb_in i (rb_strN.getD (a - 1) 0) = true then some (some (.int (rb_chr (a - 1) i.toNatClampNeg)), σ) else none
      | _ => none)
    else match rb_prog[mi]? with
      | none => none
      | some M => match rb_ent M.2.2.2.1 As with
        | none => none
        | some ls => rb_lim (rb_stp (rb_R d) M) (0, ls, [], σ)
theorem rb_it_mono {α β : Type} {f : α → Option (α ⊕ β)} : ∀ (n k : Nat) (a : α) (b : β), rb_it f n a = some b → rb_it f (n + k) a = some b := by
  intro n
  induction n with
  | zero => intro k a b h; exact absurd h (by simp [rb_it])
  | succ n ih =>
    intro k a b h
    rw [Nat.succ_add]
    rw [rb_it] at h ⊢
    cases hf : f a with
    | none => rw [hf] at h; exact absurd h (by simp)
    | some x =>
      rw [hf] at h
      cases x with
      | inl a' => exact ih k a' b h
      | inr b' => exact h
theorem rb_it_det {α β : Type} {f : α → Option (α ⊕ β)} {n m : Nat} {a : α} {b b' : β} (h : rb_it f n a = some b) (h' : rb_it f m a = some b') : b = b' := by
  have e1 := rb_it_mono n m a b h
  have e2 := rb_it_mono m n a b' h'
  rw [Nat.add_comm] at e2
  exact Option.some.inj (e1.symm.trans e2)
theorem rb_lim_of {α β : Type} {f : α → Option (α ⊕ β)} {n : Nat} {a : α} {b : β} (h : rb_it f n a = some b) : rb_lim f a = some b := by
  have hex : ∃ n b, rb_it f n a = some b := ⟨n, b, h⟩
  unfold rb_lim
  rw [dif_pos hex]
  exact congrArg some (rb_it_det (Classical.choose_spec (Classical.choose_spec hex)) h)
theorem rb_lim_ex {α β : Type} {f : α → Option (α ⊕ β)} {a : α} {b : β} (h : rb_lim f a = some b) : ∃ n, rb_it f n a = some b := by
  unfold rb_lim at h
  split at h
  · rename_i hex
    have e := Option.some.inj h
    exact ⟨_, e ▸ Classical.choose_spec (Classical.choose_spec hex)⟩
  · exact absurd h (by simp)
/-- what a step's outcome leads to; 'k' only bounds how far a simplifier goes -/
noncomputable def rb_gg {α β : Type} (f : α → Option (α ⊕ β)) (_k : Nat) (a : α) : Option β := rb_lim f a
noncomputable def rb_ct {α β : Type} (f : α → Option (α ⊕ β)) (k : Nat) (o : Option (α ⊕ β)) : Option β := match o with
  | none => none
  | some (.inl a) => rb_gg f k a
  | some (.inr b) => some b
theorem rb_lim_eq {α β : Type} (f : α → Option (α ⊕ β)) (a : α) (k : Nat) : rb_lim f a = rb_ct f k (f a) := by
  cases hf : f a with
  | none =>
    show rb_lim f a = none
    unfold rb_lim
    refine dif_neg ?_
    rintro ⟨n, b, h⟩
    cases n with
    | zero => exact absurd h (by simp [rb_it])
    | succ n => rw [rb_it, hf] at h; exact absurd h (by simp)
  | some x =>
    cases x with
    | inr b =>
      show rb_lim f a = some b
      exact rb_lim_of (n := 1) (by rw [rb_it, hf])
    | inl a' =>
      show rb_lim f a = rb_lim f a'
      cases h : rb_lim f a' with
      | some b =>
        obtain ⟨n, hn⟩ := rb_lim_ex h
        exact rb_lim_of (n := n + 1) (by rw [rb_it, hf]; exact hn)
      | none =>
        cases h2 : rb_lim f a with
        | none => rfl
        | some b =>
          obtain ⟨n, hn⟩ := rb_lim_ex h2
          cases n with
          | zero => exact absurd hn (by simp [rb_it])
          | succ n =>
            rw [rb_it, hf] at hn
            exact absurd (h.symm.trans (rb_lim_of hn)) (by simp)
theorem rb_gg_eq {α β : Type} (f : α → Option (α ⊕ β)) (a : α) (k : Nat) : rb_gg f (k + 1) a = rb_ct f k (f a) := rb_lim_eq f a k
theorem rb_ct_go {α β : Type} (f : α → Option (α ⊕ β)) (k : Nat) (a : α) : rb_ct f k (some (.inl a)) = rb_gg f k a := rfl
theorem rb_ct_end {α β : Type} (f : α → Option (α ⊕ β)) (k : Nat) (b : β) : rb_ct f k (some (.inr b)) = some b := rfl
theorem rb_ct_ite {α β : Type} (f : α → Option (α ⊕ β)) (k : Nat) (c : Prop) [Decidable c] (x y : Option (α ⊕ β)) : rb_ct f k (if c then x else y) = if c then rb_ct f k x else rb_ct f k y := by
  by_cases h : c
  · rw [if_pos h, if_pos h]
  · rw [if_neg h, if_neg h]
