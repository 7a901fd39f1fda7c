theorem xx_null {C : rb_C} {o : Nat} {ini : Bool} {ret : Option FieldType} {pc : Nat} {ls : rb_L} {st : List Value} {σ : rb_S} : rb_nxt C o ini ret (.ok (.aconst_null, 1)) pc ls st σ = some (.inl (pc + 1, ls, .null :: st, σ)) := rfl
theorem xx_iconst {C : rb_C} {o : Nat} {ini : Bool} {ret : Option FieldType} {pc : Nat} {ls : rb_L} {st : List Value} {σ : rb_S} {n : Int} : rb_nxt C o ini ret (.ok (.iconst n, 1)) pc ls st σ = some (.inl (pc + 1, ls, .int (Int32.ofInt n) :: st, σ)) := rfl
theorem xx_bipush {C : rb_C} {o : Nat} {ini : Bool} {ret : Option FieldType} {pc : Nat} {ls : rb_L} {st : List Value} {σ : rb_S} {n : Int} : rb_nxt C o ini ret (.ok (.bipush n, 2)) pc ls st σ = some (.inl (pc + 2, ls, .int (Int8.ofInt n).toInt32 :: st, σ)) := rfl
theorem xx_sipush {C : rb_C} {o : Nat} {ini : Bool} {ret : Option FieldType} {pc : Nat} {ls : rb_L} {st : List Value} {σ : rb_S} {n : Int} : rb_nxt C o ini ret (.ok (.sipush n, 3)) pc ls st σ = some (.inl (pc + 3, ls, .int (Int16.ofInt n).toInt32 :: st, σ)) := rfl
theorem xx_lconst {C : rb_C} {o : Nat} {ini : Bool} {ret : Option FieldType} {pc : Nat} {ls : rb_L} {st : List Value} {σ : rb_S} {n : Fin 2} : rb_nxt C o ini ret (.ok (.lconst n, 1)) pc ls st σ = some (.inl (pc + 1, ls, .long (Int64.ofNat (n : Nat)) :: st, σ)) := rfl
theorem xx_iload0 {C : rb_C} {o : Nat} {ini : Bool} {ret : Option FieldType} {pc : Nat} {ls : rb_L} {st : List Value} {σ : rb_S} {t : rb_L} {x : Int32} : rb_nxt C o ini ret (.ok (.iload 0, 2)) pc (some (.int x) :: t) st σ = some (.inl (pc + 2, (some (.int x) :: t), .int x :: st, σ)) := rfl
theorem xx_iloadn0 {C : rb_C} {o : Nat} {ini : Bool} {ret : Option FieldType} {pc : Nat} {ls : rb_L} {st : List Value} {σ : rb_S} {t : rb_L} {x : Int32} : rb_nxt C o ini ret (.ok (.iload_n 0, 1)) pc (some (.int x) :: t) st σ = some (.inl (pc + 1, (some (.int x) :: t), .int x :: st, σ)) := rfl
theorem xx_lload0 {C : rb_C} {o : Nat} {ini : Bool} {ret : Option FieldType} {pc : Nat} {ls : rb_L} {st : List Value} {σ : rb_S} {t : rb_L} {x : Int64} : rb_nxt C o ini ret (.ok (.lload 0, 2)) pc (some (.long x) :: t) st σ = some (.inl (pc + 2, (some (.long x) :: t), .long x :: st, σ)) := rfl
theorem xx_lloadn0 {C : rb_C} {o : Nat} {ini : Bool} {ret : Option FieldType} {pc : Nat} {ls : rb_L} {st : List Value} {σ : rb_S} {t : rb_L} {x : Int64} : rb_nxt C o ini ret (.ok (.lload_n 0, 1)) pc (some (.long x) :: t) st σ = some (.inl (pc + 1, (some (.long x) :: t), .long x :: st, σ)) := rfl
theorem xx_aload0 {C : rb_C} {o : Nat} {ini : Bool} {ret : Option FieldType} {pc : Nat} {ls : rb_L} {st : List Value} {σ : rb_S} {t : rb_L} {x : Nat} : rb_nxt C o ini ret (.ok (.aload 0, 2)) pc (some (.ref x) :: t) st σ = some (.inl (pc + 2, (some (.ref x) :: t), .ref x :: st, σ)) := rfl
theorem xx_aload0N {C : rb_C} {o : Nat} {ini : Bool} {ret : Option FieldType} {pc : Nat} {ls : rb_L} {st : List Value} {σ : rb_S} {t : rb_L} : rb_nxt C o ini ret (.ok (.aload 0, 2)) pc (some .null :: t) st σ = some (.inl (pc + 2, (some .null :: t), .null :: st, σ)) := rfl
theorem xx_aloadn0 {C : rb_C} {o : Nat} {ini : Bool} {ret : Option FieldType} {pc : Nat} {ls : rb_L} {st : List Value} {σ : rb_S} {t : rb_L} {x : Nat} : rb_nxt C o ini ret (.ok (.aload_n 0, 1)) pc (some (.ref x) :: t) st σ = some (.inl (pc + 1, (some (.ref x) :: t), .ref x :: st, σ)) := rfl
theorem xx_aloadn0N {C : rb_C} {o : Nat} {ini : Bool} {ret : Option FieldType} {pc : Nat} {ls : rb_L} {st : List Value} {σ : rb_S} {t : rb_L} : rb_nxt C o ini ret (.ok (.aload_n 0, 1)) pc (some .null :: t) st σ = some (.inl (pc + 1, (some .null :: t), .null :: st, σ)) := rfl
theorem xx_istore0 {C : rb_C} {o : Nat} {ini : Bool} {ret : Option FieldType} {pc : Nat} {ls : rb_L} {st : List Value} {σ : rb_S} {b : Option Value} {t : rb_L} {x : Int32} : rb_nxt C o ini ret (.ok (.istore 0, 2)) pc (b :: t) (.int x :: st) σ = some (.inl (pc + 2, (some (.int x) :: t), st, σ)) := rfl
theorem xx_istoren0 {C : rb_C} {o : Nat} {ini : Bool} {ret : Option FieldType} {pc : Nat} {ls : rb_L} {st : List Value} {σ : rb_S} {b : Option Value} {t : rb_L} {x : Int32} : rb_nxt C o ini ret (.ok (.istore_n 0, 1)) pc (b :: t) (.int x :: st) σ = some (.inl (pc + 1, (some (.int x) :: t), st, σ)) := rfl
theorem xx_astore0 {C : rb_C} {o : Nat} {ini : Bool} {ret : Option FieldType} {pc : Nat} {ls : rb_L} {st : List Value} {σ : rb_S} {b : Option Value} {t : rb_L} {x : Nat} : rb_nxt C o ini ret (.ok (.astore 0, 2)) pc (b :: t) (.ref x :: st) σ = some (.inl (pc + 2, (some (.ref x) :: t), st, σ)) := rfl
theorem xx_astoren0 {C : rb_C} {o : Nat} {ini : Bool} {ret : Option FieldType} {pc : Nat} {ls : rb_L} {st : List Value} {σ : rb_S} {b : Option Value} {t : rb_L} {x : Nat} : rb_nxt C o ini ret (.ok (.astore_n 0, 1)) pc (b :: t) (.ref x :: st) σ = some (.inl (pc + 1, (some (.ref x) :: t), st, σ)) := rfl
theorem xx_lstore0 {C : rb_C} {o : Nat} {ini : Bool} {ret : Option FieldType} {pc : Nat} {ls : rb_L} {st : List Value} {σ : rb_S} {b b2 : Option Value} {t : rb_L} {x : Int64} : rb_nxt C o ini ret (.ok (.lstore 0, 2)) pc (b :: b2 :: t) (.long x :: st) σ = some (.inl (pc + 2, (some (.long x) :: none :: t), st, σ)) := rfl
theorem xx_lstoren0 {C : rb_C} {o : Nat} {ini : Bool} {ret : Option FieldType} {pc : Nat} {ls : rb_L} {st : List Value} {σ : rb_S} {b b2 : Option Value} {t : rb_L} {x : Int64} : rb_nxt C o ini ret (.ok (.lstore_n 0, 1)) pc (b :: b2 :: t) (.long x :: st) σ = some (.inl (pc + 1, (some (.long x) :: none :: t), st, σ)) := rfl
theorem xx_iinc0 {C : rb_C} {o : Nat} {ini : Bool} {ret : Option FieldType} {pc : Nat} {ls : rb_L} {st : List Value} {σ : rb_S} {t : rb_L} {x : Int32} {n : Int} : rb_nxt C o ini ret (.ok (.iinc 0 n, 3)) pc (some (.int x) :: t) st σ = some (.inl (pc + 3, (some (.int (x + Int32.ofInt n)) :: t), st, σ)) := rfl
theorem xx_iload1 {C : rb_C} {o : Nat} {ini : Bool} {ret : Option FieldType} {pc : Nat} {ls : rb_L} {st : List Value} {σ : rb_S} {a0 : Option Value} {t : rb_L} {x : Int32} : rb_nxt C o ini ret (.ok (.iload 1, 2)) pc (a0 :: some (.int x) :: t) st σ = some (.inl (pc + 2, (a0 :: some (.int x) :: t), .int x :: st, σ)) := rfl
theorem xx_iloadn1 {C : rb_C} {o : Nat} {ini : Bool} {ret : Option FieldType} {pc : Nat} {ls : rb_L} {st : List Value} {σ : rb_S} {a0 : Option Value} {t : rb_L} {x : Int32} : rb_nxt C o ini ret (.ok (.iload_n 1, 1)) pc (a0 :: some (.int x) :: t) st σ = some (.inl (pc + 1, (a0 :: some (.int x) :: t), .int x :: st, σ)) := rfl
theorem xx_lload1 {C : rb_C} {o : Nat} {ini : Bool} {ret : Option FieldType} {pc : Nat} {ls : rb_L} {st : List Value} {σ : rb_S} {a0 : Option Value} {t : rb_L} {x : Int64} : rb_nxt C o ini ret (.ok (.lload 1, 2)) pc (a0 :: some (.long x) :: t) st σ = some (.inl (pc + 2, (a0 :: some (.long x) :: t), .long x :: st, σ)) := rfl
theorem xx_lloadn1 {C : rb_C} {o : Nat} {ini : Bool} {ret : Option FieldType} {pc : Nat} {ls : rb_L} {st : List Value} {σ : rb_S} {a0 : Option Value} {t : rb_L} {x : Int64} : rb_nxt C o ini ret (.ok (.lload_n 1, 1)) pc (a0 :: some (.long x) :: t) st σ = some (.inl (pc + 1, (a0 :: some (.long x) :: t), .long x :: st, σ)) := rfl
theorem xx_aload1 {C : rb_C} {o : Nat} {ini : Bool} {ret : Option FieldType} {pc : Nat} {ls : rb_L} {st : List Value} {σ : rb_S} {a0 : Option Value} {t : rb_L} {x : Nat} : rb_nxt C o ini ret (.ok (.aload 1, 2)) pc (a0 :: some (.ref x) :: t) st σ = some (.inl (pc + 2, (a0 :: some (.ref x) :: t), .ref x :: st, σ)) := rfl
theorem xx_aload1N {C : rb_C} {o : Nat} {ini : Bool} {ret : Option FieldType} {pc : Nat} {ls : rb_L} {st : List Value} {σ : rb_S} {a0 : Option Value} {t : rb_L} : rb_nxt C o ini ret (.ok (.aload 1, 2)) pc (a0 :: some .null :: t) st σ = some (.inl (pc + 2, (a0 :: some .null :: t), .null :: st, σ)) := rfl
theorem xx_aloadn1 {C : rb_C} {o : Nat} {ini : Bool} {ret : Option FieldType} {pc : Nat} {ls : rb_L} {st : List Value} {σ : rb_S} {a0 : Option Value} {t : rb_L} {x : Nat} : rb_nxt C o ini ret (.ok (.aload_n 1, 1)) pc (a0 :: some (.ref x) :: t) st σ = some (.inl (pc + 1, (a0 :: some (.ref x) :: t), .ref x :: st, σ)) := rfl
theorem xx_aloadn1N {C : rb_C} {o : Nat} {ini : Bool} {ret : Option FieldType} {pc : Nat} {ls : rb_L} {st : List Value} {σ : rb_S} {a0 : Option Value} {t : rb_L} : rb_nxt C o ini ret (.ok (.aload_n 1, 1)) pc (a0 :: some .null :: t) st σ = some (.inl (pc + 1, (a0 :: some .null :: t), .null :: st, σ)) := rfl
theorem xx_istore1 {C : rb_C} {o : Nat} {ini : Bool} {ret : Option FieldType} {pc : Nat} {ls : rb_L} {st : List Value} {σ : rb_S} {a0 : Option Value} {b : Option Value} {t : rb_L} {x : Int32} : rb_nxt C o ini ret (.ok (.istore 1, 2)) pc (a0 :: b :: t) (.int x :: st) σ = some (.inl (pc + 2, (rb_inv a0 :: some (.int x) :: t), st, σ)) := rfl
theorem xx_istoren1 {C : rb_C} {o : Nat} {ini : Bool} {ret : Option FieldType} {pc : Nat} {ls : rb_L} {st : List Value} {σ : rb_S} {a0 : Option Value} {b : Option Value} {t : rb_L} {x : Int32} : rb_nxt C o ini ret (.ok (.istore_n 1, 1)) pc (a0 :: b :: t) (.int x :: st) σ = some (.inl (pc + 1, (rb_inv a0 :: some (.int x) :: t), st, σ)) := rfl
theorem xx_astore1 {C : rb_C} {o : Nat} {ini : Bool} {ret : Option FieldType} {pc : Nat} {ls : rb_L} {st : List Value} {σ : rb_S} {a0 : Option Value} {b : Option Value} {t : rb_L} {x : Nat} : rb_nxt C o ini ret (.ok (.astore 1, 2)) pc (a0 :: b :: t) (.ref x :: st) σ = some (.inl (pc + 2, (rb_inv a0 :: some (.ref x) :: t), st, σ)) := rfl
theorem xx_astoren1 {C : rb_C} {o : Nat} {ini : Bool} {ret : Option FieldType} {pc : Nat} {ls : rb_L} {st : List Value} {σ : rb_S} {a0 : Option Value} {b : Option Value} {t : rb_L} {x : Nat} : rb_nxt C o ini ret (.ok (.astore_n 1, 1)) pc (a0 :: b :: t) (.ref x :: st) σ = some (.inl (pc + 1, (rb_inv a0 :: some (.ref x) :: t), st, σ)) := rfl
theorem xx_lstore1 {C : rb_C} {o : Nat} {ini : Bool} {ret : Option FieldType} {pc : Nat} {ls : rb_L} {st : List Value} {σ : rb_S} {a0 : Option Value} {b b2 : Option Value} {t : rb_L} {x : Int64} : rb_nxt C o ini ret (.ok (.lstore 1, 2)) pc (a0 :: b :: b2 :: t) (.long x :: st) σ = some (.inl (pc + 2, (rb_inv a0 :: some (.long x) :: none :: t), st, σ)) := rfl
theorem xx_lstoren1 {C : rb_C} {o : Nat} {ini : Bool} {ret : Option FieldType} {pc : Nat} {ls : rb_L} {st : List Value} {σ : rb_S} {a0 : Option Value} {b b2 : Option Value} {t : rb_L} {x : Int64} : rb_nxt C o ini ret (.ok (.lstore_n 1, 1)) pc (a0 :: b :: b2 :: t) (.long x :: st) σ = some (.inl (pc + 1, (rb_inv a0 :: some (.long x) :: none :: t), st, σ)) := rfl
theorem xx_iinc1 {C : rb_C} {o : Nat} {ini : Bool} {ret : Option FieldType} {pc : Nat} {ls : rb_L} {st : List Value} {σ : rb_S} {a0 : Option Value} {t : rb_L} {x : Int32} {n : Int} : rb_nxt C o ini ret (.ok (.iinc 1 n, 3)) pc (a0 :: some (.int x) :: t) st σ = some (.inl (pc + 3, (rb_inv a0 :: some (.int (x + Int32.ofInt n)) :: t), st, σ)) := rfl
theorem xx_iload2 {C : rb_C} {o : Nat} {ini : Bool} {ret : Option FieldType} {pc : Nat} {ls : rb_L} {st : List Value} {σ : rb_S} {a0 : Option Value} {a1 : Option Value} {t : rb_L} {x : Int32} : rb_nxt C o ini ret (.ok (.iload 2, 2)) pc (a0 :: a1 :: some (.int x) :: t) st σ = some (.inl (pc + 2, (a0 :: a1 :: some (.int x) :: t), .int x :: st, σ)) := rfl
theorem xx_iloadn2 {C : rb_C} {o : Nat} {ini : Bool} {ret : Option FieldType} {pc : Nat} {ls : rb_L} {st : List Value} {σ : rb_S} {a0 : Option Value} {a1 : Option Value} {t : rb_L} {x : Int32} : rb_nxt C o ini ret (.ok (.iload_n 2, 1)) pc (a0 :: a1 :: some (.int x) :: t) st σ = some (.inl (pc + 1, (a0 :: a1 :: some (.int x) :: t), .int x :: st, σ)) := rfl
theorem xx_lload2 {C : rb_C} {o : Nat} {ini : Bool} {ret : Option FieldType} {pc : Nat} {ls : rb_L} {st : List Value} {σ : rb_S} {a0 : Option Value} {a1 : Option Value} {t : rb_L} {x : Int64} : rb_nxt C o ini ret (.ok (.lload 2, 2)) pc (a0 :: a1 :: some (.long x) :: t) st σ = some (.inl (pc + 2, (a0 :: a1 :: some (.long x) :: t), .long x :: st, σ)) := rfl
theorem xx_lloadn2 {C : rb_C} {o : Nat} {ini : Bool} {ret : Option FieldType} {pc : Nat} {ls : rb_L} {st : List Value} {σ : rb_S} {a0 : Option Value} {a1 : Option Value} {t : rb_L} {x : Int64} : rb_nxt C o ini ret (.ok (.lload_n 2, 1)) pc (a0 :: a1 :: some (.long x) :: t) st σ = some (.inl (pc + 1, (a0 :: a1 :: some (.long x) :: t), .long x :: st, σ)) := rfl
theorem xx_aload2 {C : rb_C} {o : Nat} {ini : Bool} {ret : Option FieldType} {pc : Nat} {ls : rb_L} {st : List Value} {σ : rb_S} {a0 : Option Value} {a1 : Option Value} {t : rb_L} {x : Nat} : rb_nxt C o ini ret (.ok (.aload 2, 2)) pc (a0 :: a1 :: some (.ref x) :: t) st σ = some (.inl (pc + 2, (a0 :: a1 :: some (.ref x) :: t), .ref x :: st, σ)) := rfl
theorem xx_aload2N {C : rb_C} {o : Nat} {ini : Bool} {ret : Option FieldType} {pc : Nat} {ls : rb_L} {st : List Value} {σ : rb_S} {a0 : Option Value} {a1 : Option Value} {t : rb_L} : rb_nxt C o ini ret (.ok (.aload 2, 2)) pc (a0 :: a1 :: some .null :: t) st σ = some (.inl (pc + 2, (a0 :: a1 :: some .null :: t), .null :: st, σ)) := rfl
theorem xx_aloadn2 {C : rb_C} {o : Nat} {ini : Bool} {ret : Option FieldType} {pc : Nat} {ls : rb_L} {st : List Value} {σ : rb_S} {a0 : Option Value} {a1 : Option Value} {t : rb_L} {x : Nat} : rb_nxt C o ini ret (.ok (.aload_n 2, 1)) pc (a0 :: a1 :: some (.ref x) :: t) st σ = some (.inl (pc + 1, (a0 :: a1 :: some (.ref x) :: t), .ref x :: st, σ)) := rfl
theorem xx_aloadn2N {C : rb_C} {o : Nat} {ini : Bool} {ret : Option FieldType} {pc : Nat} {ls : rb_L} {st : List Value} {σ : rb_S} {a0 : Option Value} {a1 : Option Value} {t : rb_L} : rb_nxt C o ini ret (.ok (.aload_n 2, 1)) pc (a0 :: a1 :: some .null :: t) st σ = some (.inl (pc + 1, (a0 :: a1 :: some .null :: t), .null :: st, σ)) := rfl
theorem xx_istore2 {C : rb_C} {o : Nat} {ini : Bool} {ret : Option FieldType} {pc : Nat} {ls : rb_L} {st : List Value} {σ : rb_S} {a0 : Option Value} {a1 : Option Value} {b : Option Value} {t : rb_L} {x : Int32} : rb_nxt C o ini ret (.ok (.istore 2, 2)) pc (a0 :: a1 :: b :: t) (.int x :: st) σ = some (.inl (pc + 2, (a0 :: rb_inv a1 :: some (.int x) :: t), st, σ)) := rfl
theorem xx_istoren2 {C : rb_C} {o : Nat} {ini : Bool} {ret : Option FieldType} {pc : Nat} {ls : rb_L} {st : List Value} {σ : rb_S} {a0 : Option Value} {a1 : Option Value} {b : Option Value} {t : rb_L} {x : Int32} : rb_nxt C o ini ret (.ok (.istore_n 2, 1)) pc (a0 :: a1 :: b :: t) (.int x :: st) σ = some (.inl (pc + 1, (a0 :: rb_inv a1 :: some (.int x) :: t), st, σ)) := rfl
theorem xx_astore2 {C : rb_C} {o : Nat} {ini : Bool} {ret : Option FieldType} {pc : Nat} {ls : rb_L} {st : List Value} {σ : rb_S} {a0 : Option Value} {a1 : Option Value} {b : Option Value} {t : rb_L} {x : Nat} : rb_nxt C o ini ret (.ok (.astore 2, 2)) pc (a0 :: a1 :: b :: t) (.ref x :: st) σ = some (.inl (pc + 2, (a0 :: rb_inv a1 :: some (.ref x) :: t), st, σ)) := rfl
theorem xx_astoren2 {C : rb_C} {o : Nat} {ini : Bool} {ret : Option FieldType} {pc : Nat} {ls : rb_L} {st : List Value} {σ : rb_S} {a0 : Option Value} {a1 : Option Value} {b : Option Value} {t : rb_L} {x : Nat} : rb_nxt C o ini ret (.ok (.astore_n 2, 1)) pc (a0 :: a1 :: b :: t) (.ref x :: st) σ = some (.inl (pc + 1, (a0 :: rb_inv a1 :: some (.ref x) :: t), st, σ)) := rfl
theorem xx_lstore2 {C : rb_C} {o : Nat} {ini : Bool} {ret : Option FieldType} {pc : Nat} {ls : rb_L} {st : List Value} {σ : rb_S} {a0 : Option Value} {a1 : Option Value} {b b2 : Option Value} {t : rb_L} {x : Int64} : rb_nxt C o ini ret (.ok (.lstore 2, 2)) pc (a0 :: a1 :: b :: b2 :: t) (.long x :: st) σ = some (.inl (pc + 2, (a0 :: rb_inv a1 :: some (.long x) :: none :: t), st, σ)) := rfl
theorem xx_lstoren2 {C : rb_C} {o : Nat} {ini : Bool} {ret : Option FieldType} {pc : Nat} {ls : rb_L} {st : List Value} {σ : rb_S} {a0 : Option Value} {a1 : Option Value} {b b2 : Option Value} {t : rb_L} {x : Int64} : rb_nxt C o ini ret (.ok (.lstore_n 2, 1)) pc (a0 :: a1 :: b :: b2 :: t) (.long x :: st) σ = some (.inl (pc + 1, (a0 :: rb_inv a1 :: some (.long x) :: none :: t), st, σ)) := rfl
theorem xx_iinc2 {C : rb_C} {o : Nat} {ini : Bool} {ret : Option FieldType} {pc : Nat} {ls : rb_L} {st : List Value} {σ : rb_S} {a0 : Option Value} {a1 : Option Value} {t : rb_L} {x : Int32} {n : Int} : rb_nxt C o ini ret (.ok (.iinc 2 n, 3)) pc (a0 :: a1 :: some (.int x) :: t) st σ = some (.inl (pc + 3, (a0 :: rb_inv a1 :: some (.int (x + Int32.ofInt n)) :: t), st, σ)) := rfl
theorem xx_iload3 {C : rb_C} {o : Nat} {ini : Bool} {ret : Option FieldType} {pc : Nat} {ls : rb_L} {st : List Value} {σ : rb_S} {a0 : Option Value} {a1 : Option Value} {a2 : Option Value} {t : rb_L} {x : Int32} : rb_nxt C o ini ret (.ok (.iload 3, 2)) pc (a0 :: a1 :: a2 :: some (.int x) :: t) st σ = some (.inl (pc + 2, (a0 :: a1 :: a2 :: some (.int x) :: t), .int x :: st, σ)) := rfl
theorem xx_iloadn3 {C : rb_C} {o : Nat} {ini : Bool} {ret : Option FieldType} {pc : Nat} {ls : rb_L} {st : List Value} {σ : rb_S} {a0 : Option Value} {a1 : Option Value} {a2 : Option Value} {t : rb_L} {x : Int32} : rb_nxt C o ini ret (.ok (.iload_n 3, 1)) pc (a0 :: a1 :: a2 :: some (.int x) :: t) st σ = some (.inl (pc + 1, (a0 :: a1 :: a2 :: some (.int x) :: t), .int x :: st, σ)) := rfl
theorem xx_lload3 {C : rb_C} {o : Nat} {ini : Bool} {ret : Option FieldType} {pc : Nat} {ls : rb_L} {st : List Value} {σ : rb_S} {a0 : Option Value} {a1 : Option Value} {a2 : Option Value} {t : rb_L} {x : Int64} : rb_nxt C o ini ret (.ok (.lload 3, 2)) pc (a0 :: a1 :: a2 :: some (.long x) :: t) st σ = some (.inl (pc + 2, (a0 :: a1 :: a2 :: some (.long x) :: t), .long x :: st, σ)) := rfl
theorem xx_lloadn3 {C : rb_C} {o : Nat} {ini : Bool} {ret : Option FieldType} {pc : Nat} {ls : rb_L} {st : List Value} {σ : rb_S} {a0 : Option Value} {a1 : Option Value} {a2 : Option Value} {t : rb_L} {x : Int64} : rb_nxt C o ini ret (.ok (.lload_n 3, 1)) pc (a0 :: a1 :: a2 :: some (.long x) :: t) st σ = some (.inl (pc + 1, (a0 :: a1 :: a2 :: some (.long x) :: t), .long x :: st, σ)) := rfl
theorem xx_aload3 {C : rb_C} {o : Nat} {ini : Bool} {ret : Option FieldType} {pc : Nat} {ls : rb_L} {st : List Value} {σ : rb_S} {a0 : Option Value} {a1 : Option Value} {a2 : Option Value} {t : rb_L} {x : Nat} : rb_nxt C o ini ret (.ok (.aload 3, 2)) pc (a0 :: a1 :: a2 :: some (.ref x) :: t) st σ = some (.inl (pc + 2, (a0 :: a1 :: a2 :: some (.ref x) :: t), .ref x :: st, σ)) := rfl
theorem xx_aload3N {C : rb_C} {o : Nat} {ini : Bool} {ret : Option FieldType} {pc : Nat} {ls : rb_L} {st : List Value} {σ : rb_S} {a0 : Option Value} {a1 : Option Value} {a2 : Option Value} {t : rb_L} : rb_nxt C o ini ret (.ok (.aload 3, 2)) pc (a0 :: a1 :: a2 :: some .null :: t) st σ = some (.inl (pc + 2, (a0 :: a1 :: a2 :: some .null :: t), .null :: st, σ)) := rfl
theorem xx_aloadn3 {C : rb_C} {o : Nat} {ini : Bool} {ret : Option FieldType} {pc : Nat} {ls : rb_L} {st : List Value} {σ : rb_S} {a0 : Option Value} {a1 : Option Value} {a2 : Option Value} {t : rb_L} {x : Nat} : rb_nxt C o ini ret (.ok (.aload_n 3, 1)) pc (a0 :: a1 :: a2 :: some (.ref x) :: t) st σ = some (.inl (pc + 1, (a0 :: a1 :: a2 :: some (.ref x) :: t), .ref x :: st, σ)) := rfl
theorem xx_aloadn3N {C : rb_C} {o : Nat} {ini : Bool} {ret : Option FieldType} {pc : Nat} {ls : rb_L} {st : List Value} {σ : rb_S} {a0 : Option Value} {a1 : Option Value} {a2 : Option Value} {t : rb_L} : rb_nxt C o ini ret (.ok (.aload_n 3, 1)) pc (a0 :: a1 :: a2 :: some .null :: t) st σ = some (.inl (pc + 1, (a0 :: a1 :: a2 :: some .null :: t), .null :: st, σ)) := rfl
theorem xx_istore3 {C : rb_C} {o : Nat} {ini : Bool} {ret : Option FieldType} {pc : Nat} {ls : rb_L} {st : List Value} {σ : rb_S} {a0 : Option Value} {a1 : Option Value} {a2 : Option Value} {b : Option Value} {t : rb_L} {x : Int32} : rb_nxt C o ini ret (.ok (.istore 3, 2)) pc (a0 :: a1 :: a2 :: b :: t) (.int x :: st) σ = some (.inl (pc + 2, (a0 :: a1 :: rb_inv a2 :: some (.int x) :: t), st, σ)) := rfl
theorem xx_istoren3 {C : rb_C} {o : Nat} {ini : Bool} {ret : Option FieldType} {pc : Nat} {ls : rb_L} {st : List Value} {σ : rb_S} {a0 : Option Value} {a1 : Option Value} {a2 : Option Value} {b : Option Value} {t : rb_L} {x : Int32} : rb_nxt C o ini ret (.ok (.istore_n 3, 1)) pc (a0 :: a1 :: a2 :: b :: t) (.int x :: st) σ = some (.inl (pc + 1, (a0 :: a1 :: rb_inv a2 :: some (.int x) :: t), st, σ)) := rfl
theorem xx_astore3 {C : rb_C} {o : Nat} {ini : Bool} {ret : Option FieldType} {pc : Nat} {ls : rb_L} {st : List Value} {σ : rb_S} {a0 : Option Value} {a1 : Option Value} {a2 : Option Value} {b : Option Value} {t : rb_L} {x : Nat} : rb_nxt C o ini ret (.ok (.astore 3, 2)) pc (a0 :: a1 :: a2 :: b :: t) (.ref x :: st) σ = some (.inl (pc + 2, (a0 :: a1 :: rb_inv a2 :: some (.ref x) :: t), st, σ)) := rfl
theorem xx_astoren3 {C : rb_C} {o : Nat} {ini : Bool} {ret : Option FieldType} {pc : Nat} {ls : rb_L} {st : List Value} {σ : rb_S} {a0 : Option Value} {a1 : Option Value} {a2 : Option Value} {b : Option Value} {t : rb_L} {x : Nat} : rb_nxt C o ini ret (.ok (.astore_n 3, 1)) pc (a0 :: a1 :: a2 :: b :: t) (.ref x :: st) σ = some (.inl (pc + 1, (a0 :: a1 :: rb_inv a2 :: some (.ref x) :: t), st, σ)) := rfl
theorem xx_lstore3 {C : rb_C} {o : Nat} {ini : Bool} {ret : Option FieldType} {pc : Nat} {ls : rb_L} {st : List Value} {σ : rb_S} {a0 : Option Value} {a1 : Option Value} {a2 : Option Value} {b b2 : Option Value} {t : rb_L} {x : Int64} : rb_nxt C o ini ret (.ok (.lstore 3, 2)) pc (a0 :: a1 :: a2 :: b :: b2 :: t) (.long x :: st) σ = some (.inl (pc + 2, (a0 :: a1 :: rb_inv a2 :: some (.long x) :: none :: t), st, σ)) := rfl
theorem xx_lstoren3 {C : rb_C} {o : Nat} {ini : Bool} {ret : Option FieldType} {pc : Nat} {ls : rb_L} {st : List Value} {σ : rb_S} {a0 : Option Value} {a1 : Option Value} {a2 : Option Value} {b b2 : Option Value} {t : rb_L} {x : Int64} : rb_nxt C o ini ret (.ok (.lstore_n 3, 1)) pc (a0 :: a1 :: a2 :: b :: b2 :: t) (.long x :: st) σ = some (.inl (pc + 1, (a0 :: a1 :: rb_inv a2 :: some (.long x) :: none :: t), st, σ)) := rfl
theorem xx_iinc3 {C : rb_C} {o : Nat} {ini : Bool} {ret : Option FieldType} {pc : Nat} {ls : rb_L} {st : List Value} {σ : rb_S} {a0 : Option Value} {a1 : Option Value} {a2 : Option Value} {t : rb_L} {x : Int32} {n : Int} : rb_nxt C o ini ret (.ok (.iinc 3 n, 3)) pc (a0 :: a1 :: a2 :: some (.int x) :: t) st σ = some (.inl (pc + 3, (a0 :: a1 :: rb_inv a2 :: some (.int (x + Int32.ofInt n)) :: t), st, σ)) := rfl
theorem xx_iload4 {C : rb_C} {o : Nat} {ini : Bool} {ret : Option FieldType} {pc : Nat} {ls : rb_L} {st : List Value} {σ : rb_S} {a0 : Option Value} {a1 : Option Value} {a2 : Option Value} {a3 : Option Value} {t : rb_L} {x : Int32} : rb_nxt C o ini ret (.ok (.iload 4, 2)) pc (a0 :: a1 :: a2 :: a3 :: some (.int x) :: t) st σ = some (.inl (pc + 2, (a0 :: a1 :: a2 :: a3 :: some (.int x) :: t), .int x :: st, σ)) := rfl
theorem xx_lload4 {C : rb_C} {o : Nat} {ini : Bool} {ret : Option FieldType} {pc : Nat} {ls : rb_L} {st : List Value} {σ : rb_S} {a0 : Option Value} {a1 : Option Value} {a2 : Option Value} {a3 : Option Value} {t : rb_L} {x : Int64} : rb_nxt C o ini ret (.ok (.lload 4, 2)) pc (a0 :: a1 :: a2 :: a3 :: some (.long x) :: t) st σ = some (.inl (pc + 2, (a0 :: a1 :: a2 :: a3 :: some (.long x) :: t), .long x :: st, σ)) := rfl
theorem xx_aload4 {C : rb_C} {o : Nat} {ini : Bool} {ret : Option FieldType} {pc : Nat} {ls : rb_L} {st : List Value} {σ : rb_S} {a0 : Option Value} {a1 : Option Value} {a2 : Option Value} {a3 : Option Value} {t : rb_L} {x : Nat} : rb_nxt C o ini ret (.ok (.aload 4, 2)) pc (a0 :: a1 :: a2 :: a3 :: some (.ref x) :: t) st σ = some (.inl (pc + 2, (a0 :: a1 :: a2 :: a3 :: some (.ref x) :: t), .ref x :: st, σ)) := rfl
theorem xx_aload4N {C : rb_C} {o : Nat} {ini : Bool} {ret : Option FieldType} {pc : Nat} {ls : rb_L} {st : List Value} {σ : rb_S} {a0 : Option Value} {a1 : Option Value} {a2 : Option Value} {a3 : Option Value} {t : rb_L} : rb_nxt C o ini ret (.ok (.aload 4, 2)) pc (a0 :: a1 :: a2 :: a3 :: some .null :: t) st σ = some (.inl (pc + 2, (a0 :: a1 :: a2 :: a3 :: some .null :: t), .null :: st, σ)) := rfl
theorem xx_istore4 {C : rb_C} {o : Nat} {ini : Bool} {ret : Option FieldType} {pc : Nat} {ls : rb_L} {st : List Value} {σ : rb_S} {a0 : Option Value} {a1 : Option Value} {a2 : Option Value} {a3 : Option Value} {b : Option Value} {t : rb_L} {x : Int32} : rb_nxt C o ini ret (.ok (.istore 4, 2)) pc (a0 :: a1 :: a2 :: a3 :: b :: t) (.int x :: st) σ = some (.inl (pc + 2, (a0 :: a1 :: a2 :: rb_inv a3 :: some (.int x) :: t), st, σ)) := rfl
theorem xx_astore4 {C : rb_C} {o : Nat} {ini : Bool} {ret : Option FieldType} {pc : Nat} {ls : rb_L} {st : List Value} {σ : rb_S} {a0 : Option Value} {a1 : Option Value} {a2 : Option Value} {a3 : Option Value} {b : Option Value} {t : rb_L} {x : Nat} : rb_nxt C o ini ret (.ok (.astore 4, 2)) pc (a0 :: a1 :: a2 :: a3 :: b :: t) (.ref x :: st) σ = some (.inl (pc + 2, (a0 :: a1 :: a2 :: rb_inv a3 :: some (.ref x) :: t), st, σ)) := rfl
theorem xx_lstore4 {C : rb_C} {o : Nat} {ini : Bool} {ret : Option FieldType} {pc : Nat} {ls : rb_L} {st : List Value} {σ : rb_S} {a0 : Option Value} {a1 : Option Value} {a2 : Option Value} {a3 : Option Value} {b b2 : Option Value} {t : rb_L} {x : Int64} : rb_nxt C o ini ret (.ok (.lstore 4, 2)) pc (a0 :: a1 :: a2 :: a3 :: b :: b2 :: t) (.long x :: st) σ = some (.inl (pc + 2, (a0 :: a1 :: a2 :: rb_inv a3 :: some (.long x) :: none :: t), st, σ)) := rfl
theorem xx_iinc4 {C : rb_C} {o : Nat} {ini : Bool} {ret : Option FieldType} {pc : Nat} {ls : rb_L} {st : List Value} {σ : rb_S} {a0 : Option Value} {a1 : Option Value} {a2 : Option Value} {a3 : Option Value} {t : rb_L} {x : Int32} {n : Int} : rb_nxt C o ini ret (.ok (.iinc 4 n, 3)) pc (a0 :: a1 :: a2 :: a3 :: some (.int x) :: t) st σ = some (.inl (pc + 3, (a0 :: a1 :: a2 :: rb_inv a3 :: some (.int (x + Int32.ofInt n)) :: t), st, σ)) := rfl
theorem xx_iload5 {C : rb_C} {o : Nat} {ini : Bool} {ret : Option FieldType} {pc : Nat} {ls : rb_L} {st : List Value} {σ : rb_S} {a0 : Option Value} {a1 : Option Value} {a2 : Option Value} {a3 : Option Value} {a4 : Option Value} {t : rb_L} {x : Int32} : rb_nxt C o ini ret (.ok (.iload 5, 2)) pc (a0 :: a1 :: a2 :: a3 :: a4 :: some (.int x) :: t) st σ = some (.inl (pc + 2, (a0 :: a1 :: a2 :: a3 :: a4 :: some (.int x) :: t), .int x :: st, σ)) := rfl
theorem xx_lload5 {C : rb_C} {o : Nat} {ini : Bool} {ret : Option FieldType} {pc : Nat} {ls : rb_L} {st : List Value} {σ : rb_S} {a0 : Option Value} {a1 : Option Value} {a2 : Option Value} {a3 : Option Value} {a4 : Option Value} {t : rb_L} {x : Int64} : rb_nxt C o ini ret (.ok (.lload 5, 2)) pc (a0 :: a1 :: a2 :: a3 :: a4 :: some (.long x) :: t) st σ = some (.inl (pc + 2, (a0 :: a1 :: a2 :: a3 :: a4 :: some (.long x) :: t), .long x :: st, σ)) := rfl
theorem xx_aload5 {C : rb_C} {o : Nat} {ini : Bool} {ret : Option FieldType} {pc : Nat} {ls : rb_L} {st : List Value} {σ : rb_S} {a0 : Option Value} {a1 : Option Value} {a2 : Option Value} {a3 : Option Value} {a4 : Option Value} {t : rb_L} {x : Nat} : rb_nxt C o ini ret (.ok (.aload 5, 2)) pc (a0 :: a1 :: a2 :: a3 :: a4 :: some (.ref x) :: t) st σ = some (.inl (pc + 2, (a0 :: a1 :: a2 :: a3 :: a4 :: some (.ref x) :: t), .ref x :: st, σ)) := rfl
theorem xx_aload5N {C : rb_C} {o : Nat} {ini : Bool} {ret : Option FieldType} {pc : Nat} {ls : rb_L} {st : List Value} {σ : rb_S} {a0 : Option Value} {a1 : Option Value} {a2 : Option Value} {a3 : Option Value} {a4 : Option Value} {t : rb_L} : rb_nxt C o ini ret (.ok (.aload 5, 2)) pc (a0 :: a1 :: a2 :: a3 :: a4 :: some .null :: t) st σ = some (.inl (pc + 2, (a0 :: a1 :: a2 :: a3 :: a4 :: some .null :: t), .null :: st, σ)) := rfl
theorem xx_istore5 {C : rb_C} {o : Nat} {ini : Bool} {ret : Option FieldType} {pc : Nat} {ls : rb_L} {st : List Value} {σ : rb_S} {a0 : Option Value} {a1 : Option Value} {a2 : Option Value} {a3 : Option Value} {a4 : Option Value} {b : Option Value} {t : rb_L} {x : Int32} : rb_nxt C o ini ret (.ok (.istore 5, 2)) pc (a0 :: a1 :: a2 :: a3 :: a4 :: b :: t) (.int x :: st) σ = some (.inl (pc + 2, (a0 :: a1 :: a2 :: a3 :: rb_inv a4 :: some (.int x) :: t), st, σ)) := rfl
theorem xx_astore5 {C : rb_C} {o : Nat} {ini : Bool} {ret : Option FieldType} {pc : Nat} {ls : rb_L} {st : List Value} {σ : rb_S} {a0 : Option Value} {a1 : Option Value} {a2 : Option Value} {a3 : Option Value} {a4 : Option Value} {b : Option Value} {t : rb_L} {x : Nat} : rb_nxt C o ini ret (.ok (.astore 5, 2)) pc (a0 :: a1 :: a2 :: a3 :: a4 :: b :: t) (.ref x :: st) σ = some (.inl (pc + 2, (a0 :: a1 :: a2 :: a3 :: rb_inv a4 :: some (.ref x) :: t), st, σ)) := rfl
theorem xx_lstore5 {C : rb_C} {o : Nat} {ini : Bool} {ret : Option FieldType} {pc : Nat} {ls : rb_L} {st : List Value} {σ : rb_S} {a0 : Option Value} {a1 : Option Value} {a2 : Option Value} {a3 : Option Value} {a4 : Option Value} {b b2 : Option Value} {t : rb_L} {x : Int64} : rb_nxt C o ini ret (.ok (.lstore 5, 2)) pc (a0 :: a1 :: a2 :: a3 :: a4 :: b :: b2 :: t) (.long x :: st) σ = some (.inl (pc + 2, (a0 :: a1 :: a2 :: a3 :: rb_inv a4 :: some (.long x) :: none :: t), st, σ)) := rfl
theorem xx_iinc5 {C : rb_C} {o : Nat} {ini : Bool} {ret : Option FieldType} {pc : Nat} {ls : rb_L} {st : List Value} {σ : rb_S} {a0 : Option Value} {a1 : Option Value} {a2 : Option Value} {a3 : Option Value} {a4 : Option Value} {t : rb_L} {x : Int32} {n : Int} : rb_nxt C o ini ret (.ok (.iinc 5 n, 3)) pc (a0 :: a1 :: a2 :: a3 :: a4 :: some (.int x) :: t) st σ = some (.inl (pc + 3, (a0 :: a1 :: a2 :: a3 :: rb_inv a4 :: some (.int (x + Int32.ofInt n)) :: t), st, σ)) := rfl
theorem xx_iload6 {C : rb_C} {o : Nat} {ini : Bool} {ret : Option FieldType} {pc : Nat} {ls : rb_L} {st : List Value} {σ : rb_S} {a0 : Option Value} {a1 : Option Value} {a2 : Option Value} {a3 : Option Value} {a4 : Option Value} {a5 : Option Value} {t : rb_L} {x : Int32} : rb_nxt C o ini ret (.ok (.iload 6, 2)) pc (a0 :: a1 :: a2 :: a3 :: a4 :: a5 :: some (.int x) :: t) st σ = some (.inl (pc + 2, (a0 :: a1 :: a2 :: a3 :: a4 :: a5 :: some (.int x) :: t), .int x :: st, σ)) := rfl
theorem xx_lload6 {C : rb_C} {o : Nat} {ini : Bool} {ret : Option FieldType} {pc : Nat} {ls : rb_L} {st : List Value} {σ : rb_S} {a0 : Option Value} {a1 : Option Value} {a2 : Option Value} {a3 : Option Value} {a4 : Option Value} {a5 : Option Value} {t : rb_L} {x : Int64} : rb_nxt C o ini ret (.ok (.lload 6, 2)) pc (a0 :: a1 :: a2 :: a3 :: a4 :: a5 :: some (.long x) :: t) st σ = some (.inl (pc + 2, (a0 :: a1 :: a2 :: a3 :: a4 :: a5 :: some (.long x) :: t), .long x :: st, σ)) := rfl
theorem xx_aload6 {C : rb_C} {o : Nat} {ini : Bool} {ret : Option FieldType} {pc : Nat} {ls : rb_L} {st : List Value} {σ : rb_S} {a0 : Option Value} {a1 : Option Value} {a2 : Option Value} {a3 : Option Value} {a4 : Option Value} {a5 : Option Value} {t : rb_L} {x : Nat} : rb_nxt C o ini ret (.ok (.aload 6, 2)) pc (a0 :: a1 :: a2 :: a3 :: a4 :: a5 :: some (.ref x) :: t) st σ = some (.inl (pc + 2, (a0 :: a1 :: a2 :: a3 :: a4 :: a5 :: some (.ref x) :: t), .ref x :: st, σ)) := rfl
theorem xx_aload6N {C : rb_C} {o : Nat} {ini : Bool} {ret : Option FieldType} {pc : Nat} {ls : rb_L} {st : List Value} {σ : rb_S} {a0 : Option Value} {a1 : Option Value} {a2 : Option Value} {a3 : Option Value} {a4 : Option Value} {a5 : Option Value} {t : rb_L} : rb_nxt C o ini ret (.ok (.aload 6, 2)) pc (a0 :: a1 :: a2 :: a3 :: a4 :: a5 :: some .null :: t) st σ = some (.inl (pc + 2, (a0 :: a1 :: a2 :: a3 :: a4 :: a5 :: some .null :: t), .null :: st, σ)) := rfl
theorem xx_istore6 {C : rb_C} {o : Nat} {ini : Bool} {ret : Option FieldType} {pc : Nat} {ls : rb_L} {st : List Value} {σ : rb_S} {a0 : Option Value} {a1 : Option Value} {a2 : Option Value} {a3 : Option Value} {a4 : Option Value} {a5 : Option Value} {b : Option Value} {t : rb_L} {x : Int32} : rb_nxt C o ini ret (.ok (.istore 6, 2)) pc (a0 :: a1 :: a2 :: a3 :: a4 :: a5 :: b :: t) (.int x :: st) σ = some (.inl (pc + 2, (a0 :: a1 :: a2 :: a3 :: a4 :: rb_inv a5 :: some (.int x) :: t), st, σ)) := rfl
theorem xx_astore6 {C : rb_C} {o : Nat} {ini : Bool} {ret : Option FieldType} {pc : Nat} {ls : rb_L} {st : List Value} {σ : rb_S} {a0 : Option Value} {a1 : Option Value} {a2 : Option Value} {a3 : Option Value} {a4 : Option Value} {a5 : Option Value} {b : Option Value} {t : rb_L} {x : Nat} : rb_nxt C o ini ret (.ok (.astore 6, 2)) pc (a0 :: a1 :: a2 :: a3 :: a4 :: a5 :: b :: t) (.ref x :: st) σ = some (.inl (pc + 2, (a0 :: a1 :: a2 :: a3 :: a4 :: rb_inv a5 :: some (.ref x) :: t), st, σ)) := rfl
theorem xx_lstore6 {C : rb_C} {o : Nat} {ini : Bool} {ret : Option FieldType} {pc : Nat} {ls : rb_L} {st : List Value} {σ : rb_S} {a0 : Option Value} {a1 : Option Value} {a2 : Option Value} {a3 : Option Value} {a4 : Option Value} {a5 : Option Value} {b b2 : Option Value} {t : rb_L} {x : Int64} : rb_nxt C o ini ret (.ok (.lstore 6, 2)) pc (a0 :: a1 :: a2 :: a3 :: a4 :: a5 :: b :: b2 :: t) (.long x :: st) σ = some (.inl (pc + 2, (a0 :: a1 :: a2 :: a3 :: a4 :: rb_inv a5 :: some (.long x) :: none :: t), st, σ)) := rfl
theorem xx_iinc6 {C : rb_C} {o : Nat} {ini : Bool} {ret : Option FieldType} {pc : Nat} {ls : rb_L} {st : List Value} {σ : rb_S} {a0 : Option Value} {a1 : Option Value} {a2 : Option Value} {a3 : Option Value} {a4 : Option Value} {a5 : Option Value} {t : rb_L} {x : Int32} {n : Int} : rb_nxt C o ini ret (.ok (.iinc 6 n, 3)) pc (a0 :: a1 :: a2 :: a3 :: a4 :: a5 :: some (.int x) :: t) st σ = some (.inl (pc + 3, (a0 :: a1 :: a2 :: a3 :: a4 :: rb_inv a5 :: some (.int (x + Int32.ofInt n)) :: t), st, σ)) := rfl
theorem xx_iload7 {C : rb_C} {o : Nat} {ini : Bool} {ret : Option FieldType} {pc : Nat} {ls : rb_L} {st : List Value} {σ : rb_S} {a0 : Option Value} {a1 : Option Value} {a2 : Option Value} {a3 : Option Value} {a4 : Option Value} {a5 : Option Value} {a6 : Option Value} {t : rb_L} {x : Int32} : rb_nxt C o ini ret (.ok (.iload 7, 2)) pc (a0 :: a1 :: a2 :: a3 :: a4 :: a5 :: a6 :: some (.int x) :: t) st σ = some (.inl (pc + 2, (a0 :: a1 :: a2 :: a3 :: a4 :: a5 :: a6 :: some (.int x) :: t), .int x :: st, σ)) := rfl
theorem xx_lload7 {C : rb_C} {o : Nat} {ini : Bool} {ret : Option FieldType} {pc : Nat} {ls : rb_L} {st : List Value} {σ : rb_S} {a0 : Option Value} {a1 : Option Value} {a2 : Option Value} {a3 : Option Value} {a4 : Option Value} {a5 : Option Value} {a6 : Option Value} {t : rb_L} {x : Int64} : rb_nxt C o ini ret (.ok (.lload 7, 2)) pc (a0 :: a1 :: a2 :: a3 :: a4 :: a5 :: a6 :: some (.long x) :: t) st σ = some (.inl (pc + 2, (a0 :: a1 :: a2 :: a3 :: a4 :: a5 :: a6 :: some (.long x) :: t), .long x :: st, σ)) := rfl
theorem xx_aload7 {C : rb_C} {o : Nat} {ini : Bool} {ret : Option FieldType} {pc : Nat} {ls : rb_L} {st : List Value} {σ : rb_S} {a0 : Option Value} {a1 : Option Value} {a2 : Option Value} {a3 : Option Value} {a4 : Option Value} {a5 : Option Value} {a6 : Option Value} {t : rb_L} {x : Nat} : rb_nxt C o ini ret (.ok (.aload 7, 2)) pc (a0 :: a1 :: a2 :: a3 :: a4 :: a5 :: a6 :: some (.ref x) :: t) st σ = some (.inl (pc + 2, (a0 :: a1 :: a2 :: a3 :: a4 :: a5 :: a6 :: some (.ref x) :: t), .ref x :: st, σ)) := rfl
theorem xx_aload7N {C : rb_C} {o : Nat} {ini : Bool} {ret : Option FieldType} {pc : Nat} {ls : rb_L} {st : List Value} {σ : rb_S} {a0 : Option Value} {a1 : Option Value} {a2 : Option Value} {a3 : Option Value} {a4 : Option Value} {a5 : Option Value} {a6 : Option Value} {t : rb_L} : rb_nxt C o ini ret (.ok (.aload 7, 2)) pc (a0 :: a1 :: a2 :: a3 :: a4 :: a5 :: a6 :: some .null :: t) st σ = some (.inl (pc + 2, (a0 :: a1 :: a2 :: a3 :: a4 :: a5 :: a6 :: some .null :: t), .null :: st, σ)) := rfl
theorem xx_istore7 {C : rb_C} {o : Nat} {ini : Bool} {ret : Option FieldType} {pc : Nat} {ls : rb_L} {st : List Value} {σ : rb_S} {a0 : Option Value} {a1 : Option Value} {a2 : Option Value} {a3 : Option Value} {a4 : Option Value} {a5 : Option Value} {a6 : Option Value} {b : Option Value} {t : rb_L} {x : Int32} : rb_nxt C o ini ret (.ok (.istore 7, 2)) pc (a0 :: a1 :: a2 :: a3 :: a4 :: a5 :: a6 :: b :: t) (.int x :: st) σ = some (.inl (pc + 2, (a0 :: a1 :: a2 :: a3 :: a4 :: a5 :: rb_inv a6 :: some (.int x) :: t), st, σ)) := rfl
theorem xx_astore7 {C : rb_C} {o : Nat} {ini : Bool} {ret : Option FieldType} {pc : Nat} {ls : rb_L} {st : List Value} {σ : rb_S} {a0 : Option Value} {a1 : Option Value} {a2 : Option Value} {a3 : Option Value} {a4 : Option Value} {a5 : Option Value} {a6 : Option Value} {b : Option Value} {t : rb_L} {x : Nat} : rb_nxt C o ini ret (.ok (.astore 7, 2)) pc (a0 :: a1 :: a2 :: a3 :: a4 :: a5 :: a6 :: b :: t) (.ref x :: st) σ = some (.inl (pc + 2, (a0 :: a1 :: a2 :: a3 :: a4 :: a5 :: rb_inv a6 :: some (.ref x) :: t), st, σ)) := rfl
theorem xx_lstore7 {C : rb_C} {o : Nat} {ini : Bool} {ret : Option FieldType} {pc : Nat} {ls : rb_L} {st : List Value} {σ : rb_S} {a0 : Option Value} {a1 : Option Value} {a2 : Option Value} {a3 : Option Value} {a4 : Option Value} {a5 : Option Value} {a6 : Option Value} {b b2 : Option Value} {t : rb_L} {x : Int64} : rb_nxt C o ini ret (.ok (.lstore 7, 2)) pc (a0 :: a1 :: a2 :: a3 :: a4 :: a5 :: a6 :: b :: b2 :: t) (.long x :: st) σ = some (.inl (pc + 2, (a0 :: a1 :: a2 :: a3 :: a4 :: a5 :: rb_inv a6 :: some (.long x) :: none :: t), st, σ)) := rfl
theorem xx_iinc7 {C : rb_C} {o : Nat} {ini : Bool} {ret : Option FieldType} {pc : Nat} {ls : rb_L} {st : List Value} {σ : rb_S} {a0 : Option Value} {a1 : Option Value} {a2 : Option Value} {a3 : Option Value} {a4 : Option Value} {a5 : Option Value} {a6 : Option Value} {t : rb_L} {x : Int32} {n : Int} : rb_nxt C o ini ret (.ok (.iinc 7 n, 3)) pc (a0 :: a1 :: a2 :: a3 :: a4 :: a5 :: a6 :: some (.int x) :: t) st σ = some (.inl (pc + 3, (a0 :: a1 :: a2 :: a3 :: a4 :: a5 :: rb_inv a6 :: some (.int (x + Int32.ofInt n)) :: t), st, σ)) := rfl
theorem xx_iload8 {C : rb_C} {o : Nat} {ini : Bool} {ret : Option FieldType} {pc : Nat} {ls : rb_L} {st : List Value} {σ : rb_S} {a0 : Option Value} {a1 : Option Value} {a2 : Option Value} {a3 : Option Value} {a4 : Option Value} {a5 : Option Value} {a6 : Option Value} {a7 : Option Value} {t : rb_L} {x : Int32} : rb_nxt C o ini ret (.ok (.iload 8, 2)) pc (a0 :: a1 :: a2 :: a3 :: a4 :: a5 :: a6 :: a7 :: some (.int x) :: t) st σ = some (.inl (pc + 2, (a0 :: a1 :: a2 :: a3 :: a4 :: a5 :: a6 :: a7 :: some (.int x) :: t), .int x :: st, σ)) := rfl
theorem xx_lload8 {C : rb_C} {o : Nat} {ini : Bool} {ret : Option FieldType} {pc : Nat} {ls : rb_L} {st : List Value} {σ : rb_S} {a0 : Option Value} {a1 : Option Value} {a2 : Option Value} {a3 : Option Value} {a4 : Option Value} {a5 : Option Value} {a6 : Option Value} {a7 : Option Value} {t : rb_L} {x : Int64} : rb_nxt C o ini ret (.ok (.lload 8, 2)) pc (a0 :: a1 :: a2 :: a3 :: a4 :: a5 :: a6 :: a7 :: some (.long x) :: t) st σ = some (.inl (pc + 2, (a0 :: a1 :: a2 :: a3 :: a4 :: a5 :: a6 :: a7 :: some (.long x) :: t), .long x :: st, σ)) := rfl
theorem xx_aload8 {C : rb_C} {o : Nat} {ini : Bool} {ret : Option FieldType} {pc : Nat} {ls : rb_L} {st : List Value} {σ : rb_S} {a0 : Option Value} {a1 : Option Value} {a2 : Option Value} {a3 : Option Value} {a4 : Option Value} {a5 : Option Value} {a6 : Option Value} {a7 : Option Value} {t : rb_L} {x : Nat} : rb_nxt C o ini ret (.ok (.aload 8, 2)) pc (a0 :: a1 :: a2 :: a3 :: a4 :: a5 :: a6 :: a7 :: some (.ref x) :: t) st σ = some (.inl (pc + 2, (a0 :: a1 :: a2 :: a3 :: a4 :: a5 :: a6 :: a7 :: some (.ref x) :: t), .ref x :: st, σ)) := rfl
theorem xx_aload8N {C : rb_C} {o : Nat} {ini : Bool} {ret : Option FieldType} {pc : Nat} {ls : rb_L} {st : List Value} {σ : rb_S} {a0 : Option Value} {a1 : Option Value} {a2 : Option Value} {a3 : Option Value} {a4 : Option Value} {a5 : Option Value} {a6 : Option Value} {a7 : Option Value} {t : rb_L} : rb_nxt C o ini ret (.ok (.aload 8, 2)) pc (a0 :: a1 :: a2 :: a3 :: a4 :: a5 :: a6 :: a7 :: some .null :: t) st σ = some (.inl (pc + 2, (a0 :: a1 :: a2 :: a3 :: a4 :: a5 :: a6 :: a7 :: some .null :: t), .null :: st, σ)) := rfl
theorem xx_istore8 {C : rb_C} {o : Nat} {ini : Bool} {ret : Option FieldType} {pc : Nat} {ls : rb_L} {st : List Value} {σ : rb_S} {a0 : Option Value} {a1 : Option Value} {a2 : Option Value} {a3 : Option Value} {a4 : Option Value} {a5 : Option Value} {a6 : Option Value} {a7 : Option Value} {b : Option Value} {t : rb_L} {x : Int32} : rb_nxt C o ini ret (.ok (.istore 8, 2)) pc (a0 :: a1 :: a2 :: a3 :: a4 :: a5 :: a6 :: a7 :: b :: t) (.int x :: st) σ = some (.inl (pc + 2, (a0 :: a1 :: a2 :: a3 :: a4 :: a5 :: a6 :: rb_inv a7 :: some (.int x) :: t), st, σ)) := rfl
theorem xx_astore8 {C : rb_C} {o : Nat} {ini : Bool} {ret : Option FieldType} {pc : Nat} {ls : rb_L} {st : List Value} {σ : rb_S} {a0 : Option Value} {a1 : Option Value} {a2 : Option Value} {a3 : Option Value} {a4 : Option Value} {a5 : Option Value} {a6 : Option Value} {a7 : Option Value} {b : Option Value} {t : rb_L} {x : Nat} : rb_nxt C o ini ret (.ok (.astore 8, 2)) pc (a0 :: a1 :: a2 :: a3 :: a4 :: a5 :: a6 :: a7 :: b :: t) (.ref x :: st) σ = some (.inl (pc + 2, (a0 :: a1 :: a2 :: a3 :: a4 :: a5 :: a6 :: rb_inv a7 :: some (.ref x) :: t), st, σ)) := rfl
theorem xx_lstore8 {C : rb_C} {o : Nat} {ini : Bool} {ret : Option FieldType} {pc : Nat} {ls : rb_L} {st : List Value} {σ : rb_S} {a0 : Option Value} {a1 : Option Value} {a2 : Option Value} {a3 : Option Value} {a4 : Option Value} {a5 : Option Value} {a6 : Option Value} {a7 : Option Value} {b b2 : Option Value} {t : rb_L} {x : Int64} : rb_nxt C o ini ret (.ok (.lstore 8, 2)) pc (a0 :: a1 :: a2 :: a3 :: a4 :: a5 :: a6 :: a7 :: b :: b2 :: t) (.long x :: st) σ = some (.inl (pc + 2, (a0 :: a1 :: a2 :: a3 :: a4 :: a5 :: a6 :: rb_inv a7 :: some (.long x) :: none :: t), st, σ)) := rfl
theorem xx_iinc8 {C : rb_C} {o : Nat} {ini : Bool} {ret : Option FieldType} {pc : Nat} {ls : rb_L} {st : List Value} {σ : rb_S} {a0 : Option Value} {a1 : Option Value} {a2 : Option Value} {a3 : Option Value} {a4 : Option Value} {a5 : Option Value} {a6 : Option Value} {a7 : Option Value} {t : rb_L} {x : Int32} {n : Int} : rb_nxt C o ini ret (.ok (.iinc 8 n, 3)) pc (a0 :: a1 :: a2 :: a3 :: a4 :: a5 :: a6 :: a7 :: some (.int x) :: t) st σ = some (.inl (pc + 3, (a0 :: a1 :: a2 :: a3 :: a4 :: a5 :: a6 :: rb_inv a7 :: some (.int (x + Int32.ofInt n)) :: t), st, σ)) := rfl
theorem xx_iload9 {C : rb_C} {o : Nat} {ini : Bool} {ret : Option FieldType} {pc : Nat} {ls : rb_L} {st : List Value} {σ : rb_S} {a0 : Option Value} {a1 : Option Value} {a2 : Option Value} {a3 : Option Value} {a4 : Option Value} {a5 : Option Value} {a6 : Option Value} {a7 : Option Value} {a8 : Option Value} {t : rb_L} {x : Int32} : rb_nxt C o ini ret (.ok (.iload 9, 2)) pc (a0 :: a1 :: a2 :: a3 :: a4 :: a5 :: a6 :: a7 :: a8 :: some (.int x) :: t) st σ = some (.inl (pc + 2, (a0 :: a1 :: a2 :: a3 :: a4 :: a5 :: a6 :: a7 :: a8 :: some (.int x) :: t), .int x :: st, σ)) := rfl
theorem xx_lload9 {C : rb_C} {o : Nat} {ini : Bool} {ret : Option FieldType} {pc : Nat} {ls : rb_L} {st : List Value} {σ : rb_S} {a0 : Option Value} {a1 : Option Value} {a2 : Option Value} {a3 : Option Value} {a4 : Option Value} {a5 : Option Value} {a6 : Option Value} {a7 : Option Value} {a8 : Option Value} {t : rb_L} {x : Int64} : rb_nxt C o ini ret (.ok (.lload 9, 2)) pc (a0 :: a1 :: a2 :: a3 :: a4 :: a5 :: a6 :: a7 :: a8 :: some (.long x) :: t) st σ = some (.inl (pc + 2, (a0 :: a1 :: a2 :: a3 :: a4 :: a5 :: a6 :: a7 :: a8 :: some (.long x) :: t), .long x :: st, σ)) := rfl
theorem xx_aload9 {C : rb_C} {o : Nat} {ini : Bool} {ret : Option FieldType} {pc : Nat} {ls : rb_L} {st : List Value} {σ : rb_S} {a0 : Option Value} {a1 : Option Value} {a2 : Option Value} {a3 : Option Value} {a4 : Option Value} {a5 : Option Value} {a6 : Option Value} {a7 : Option Value} {a8 : Option Value} {t : rb_L} {x : Nat} : rb_nxt C o ini ret (.ok (.aload 9, 2)) pc (a0 :: a1 :: a2 :: a3 :: a4 :: a5 :: a6 :: a7 :: a8 :: some (.ref x) :: t) st σ = some (.inl (pc + 2, (a0 :: a1 :: a2 :: a3 :: a4 :: a5 :: a6 :: a7 :: a8 :: some (.ref x) :: t), .ref x :: st, σ)) := rfl
theorem xx_aload9N {C : rb_C} {o : Nat} {ini : Bool} {ret : Option FieldType} {pc : Nat} {ls : rb_L} {st : List Value} {σ : rb_S} {a0 : Option Value} {a1 : Option Value} {a2 : Option Value} {a3 : Option Value} {a4 : Option Value} {a5 : Option Value} {a6 : Option Value} {a7 : Option Value} {a8 : Option Value} {t : rb_L} : rb_nxt C o ini ret (.ok (.aload 9, 2)) pc (a0 :: a1 :: a2 :: a3 :: a4 :: a5 :: a6 :: a7 :: a8 :: some .null :: t) st σ = some (.inl (pc + 2, (a0 :: a1 :: a2 :: a3 :: a4 :: a5 :: a6 :: a7 :: a8 :: some .null :: t), .null :: st, σ)) := rfl
theorem xx_istore9 {C : rb_C} {o : Nat} {ini : Bool} {ret : Option FieldType} {pc : Nat} {ls : rb_L} {st : List Value} {σ : rb_S} {a0 : Option Value} {a1 : Option Value} {a2 : Option Value} {a3 : Option Value} {a4 : Option Value} {a5 : Option Value} {a6 : Option Value} {a7 : Option Value} {a8 : Option Value} {b : Option Value} {t : rb_L} {x : Int32} : rb_nxt C o ini ret (.ok (.istore 9, 2)) pc (a0 :: a1 :: a2 :: a3 :: a4 :: a5 :: a6 :: a7 :: a8 :: b :: t) (.int x :: st) σ = some (.inl (pc + 2, (a0 :: a1 :: a2 :: a3 :: a4 :: a5 :: a6 :: a7 :: rb_inv a8 :: some (.int x) :: t), st, σ)) := rfl
theorem xx_astore9 {C : rb_C} {o : Nat} {ini : Bool} {ret : Option FieldType} {pc : Nat} {ls : rb_L} {st : List Value} {σ : rb_S} {a0 : Option Value} {a1 : Option Value} {a2 : Option Value} {a3 : Option Value} {a4 : Option Value} {a5 : Option Value} {a6 : Option Value} {a7 : Option Value} {a8 : Option Value} {b : Option Value} {t : rb_L} {x : Nat} : rb_nxt C o ini ret (.ok (.astore 9, 2)) pc (a0 :: a1 :: a2 :: a3 :: a4 :: a5 :: a6 :: a7 :: a8 :: b :: t) (.ref x :: st) σ = some (.inl (pc + 2, (a0 :: a1 :: a2 :: a3 :: a4 :: a5 :: a6 :: a7 :: rb_inv a8 :: some (.ref x) :: t), st, σ)) := rfl
theorem xx_lstore9 {C : rb_C} {o : Nat} {ini : Bool} {ret : Option FieldType} {pc : Nat} {ls : rb_L} {st : List Value} {σ : rb_S} {a0 : Option Value} {a1 : Option Value} {a2 : Option Value} {a3 : Option Value} {a4 : Option Value} {a5 : Option Value} {a6 : Option Value} {a7 : Option Value} {a8 : Option Value} {b b2 : Option Value} {t : rb_L} {x : Int64} : rb_nxt C o ini ret (.ok (.lstore 9, 2)) pc (a0 :: a1 :: a2 :: a3 :: a4 :: a5 :: a6 :: a7 :: a8 :: b :: b2 :: t) (.long x :: st) σ = some (.inl (pc + 2, (a0 :: a1 :: a2 :: a3 :: a4 :: a5 :: a6 :: a7 :: rb_inv a8 :: some (.long x) :: none :: t), st, σ)) := rfl
theorem xx_iinc9 {C : rb_C} {o : Nat} {ini : Bool} {ret : Option FieldType} {pc : Nat} {ls : rb_L} {st : List Value} {σ : rb_S} {a0 : Option Value} {a1 : Option Value} {a2 : Option Value} {a3 : Option Value} {a4 : Option Value} {a5 : Option Value} {a6 : Option Value} {a7 : Option Value} {a8 : Option Value} {t : rb_L} {x : Int32} {n : Int} : rb_nxt C o ini ret (.ok (.iinc 9 n, 3)) pc (a0 :: a1 :: a2 :: a3 :: a4 :: a5 :: a6 :: a7 :: a8 :: some (.int x) :: t) st σ = some (.inl (pc + 3, (a0 :: a1 :: a2 :: a3 :: a4 :: a5 :: a6 :: a7 :: rb_inv a8 :: some (.int (x + Int32.ofInt n)) :: t), st, σ)) := rfl
theorem xx_iload10 {C : rb_C} {o : Nat} {ini : Bool} {ret : Option FieldType} {pc : Nat} {ls : rb_L} {st : List Value} {σ : rb_S} {a0 : Option Value} {a1 : Option Value} {a2 : Option Value} {a3 : Option Value} {a4 : Option Value} {a5 : Option Value} {a6 : Option Value} {a7 : Option Value} {a8 : Option Value} {a9 : Option Value} {t : rb_L} {x : Int32} : rb_nxt C o ini ret (.ok (.iload 10, 2)) pc (a0 :: a1 :: a2 :: a3 :: a4 :: a5 :: a6 :: a7 :: a8 :: a9 :: some (.int x) :: t) st σ = some (.inl (pc + 2, (a0 :: a1 :: a2 :: a3 :: a4 :: a5 :: a6 :: a7 :: a8 :: a9 :: some (.int x) :: t), .int x :: st, σ)) := rfl
theorem xx_lload10 {C : rb_C} {o : Nat} {ini : Bool} {ret : Option FieldType} {pc : Nat} {ls : rb_L} {st : List Value} {σ : rb_S} {a0 : Option Value} {a1 : Option Value} {a2 : Option Value} {a3 : Option Value} {a4 : Option Value} {a5 : Option Value} {a6 : Option Value} {a7 : Option Value} {a8 : Option Value} {a9 : Option Value} {t : rb_L} {x : Int64} : rb_nxt C o ini ret (.ok (.lload 10, 2)) pc (a0 :: a1 :: a2 :: a3 :: a4 :: a5 :: a6 :: a7 :: a8 :: a9 :: some (.long x) :: t) st σ = some (.inl (pc + 2, (a0 :: a1 :: a2 :: a3 :: a4 :: a5 :: a6 :: a7 :: a8 :: a9 :: some (.long x) :: t), .long x :: st, σ)) := rfl
theorem xx_aload10 {C : rb_C} {o : Nat} {ini : Bool} {ret : Option FieldType} {pc : Nat} {ls : rb_L} {st : List Value} {σ : rb_S} {a0 : Option Value} {a1 : Option Value} {a2 : Option Value} {a3 : Option Value} {a4 : Option Value} {a5 : Option Value} {a6 : Option Value} {a7 : Option Value} {a8 : Option Value} {a9 : Option Value} {t : rb_L} {x : Nat} : rb_nxt C o ini ret (.ok (.aload 10, 2)) pc (a0 :: a1 :: a2 :: a3 :: a4 :: a5 :: a6 :: a7 :: a8 :: a9 :: some (.ref x) :: t) st σ = some (.inl (pc + 2, (a0 :: a1 :: a2 :: a3 :: a4 :: a5 :: a6 :: a7 :: a8 :: a9 :: some (.ref x) :: t), .ref x :: st, σ)) := rfl
theorem xx_aload10N {C : rb_C} {o : Nat} {ini : Bool} {ret : Option FieldType} {pc : Nat} {ls : rb_L} {st : List Value} {σ : rb_S} {a0 : Option Value} {a1 : Option Value} {a2 : Option Value} {a3 : Option Value} {a4 : Option Value} {a5 : Option Value} {a6 : Option Value} {a7 : Option Value} {a8 : Option Value} {a9 : Option Value} {t : rb_L} : rb_nxt C o ini ret (.ok (.aload 10, 2)) pc (a0 :: a1 :: a2 :: a3 :: a4 :: a5 :: a6 :: a7 :: a8 :: a9 :: some .null :: t) st σ = some (.inl (pc + 2, (a0 :: a1 :: a2 :: a3 :: a4 :: a5 :: a6 :: a7 :: a8 :: a9 :: some .null :: t), .null :: st, σ)) := rfl
theorem xx_istore10 {C : rb_C} {o : Nat} {ini : Bool} {ret : Option FieldType} {pc : Nat} {ls : rb_L} {st : List Value} {σ : rb_S} {a0 : Option Value} {a1 : Option Value} {a2 : Option Value} {a3 : Option Value} {a4 : Option Value} {a5 : Option Value} {a6 : Option Value} {a7 : Option Value} {a8 : Option Value} {a9 : Option Value} {b : Option Value} {t : rb_L} {x : Int32} : rb_nxt C o ini ret (.ok (.istore 10, 2)) pc (a0 :: a1 :: a2 :: a3 :: a4 :: a5 :: a6 :: a7 :: a8 :: a9 :: b :: t) (.int x :: st) σ = some (.inl (pc + 2, (a0 :: a1 :: a2 :: a3 :: a4 :: a5 :: a6 :: a7 :: a8 :: rb_inv a9 :: some (.int x) :: t), st, σ)) := rfl
theorem xx_astore10 {C : rb_C} {o : Nat} {ini : Bool} {ret : Option FieldType} {pc : Nat} {ls : rb_L} {st : List Value} {σ : rb_S} {a0 : Option Value} {a1 : Option Value} {a2 : Option Value} {a3 : Option Value} {a4 : Option Value} {a5 : Option Value} {a6 : Option Value} {a7 : Option Value} {a8 : Option Value} {a9 : Option Value} {b : Option Value} {t : rb_L} {x : Nat} : rb_nxt C o ini ret (.ok (.astore 10, 2)) pc (a0 :: a1 :: a2 :: a3 :: a4 :: a5 :: a6 :: a7 :: a8 :: a9 :: b :: t) (.ref x :: st) σ = some (.inl (pc + 2, (a0 :: a1 :: a2 :: a3 :: a4 :: a5 :: a6 :: a7 :: a8 :: rb_inv a9 :: some (.ref x) :: t), st, σ)) := rfl
theorem xx_lstore10 {C : rb_C} {o : Nat} {ini : Bool} {ret : Option FieldType} {pc : Nat} {ls : rb_L} {st : List Value} {σ : rb_S} {a0 : Option Value} {a1 : Option Value} {a2 : Option Value} {a3 : Option Value} {a4 : Option Value} {a5 : Option Value} {a6 : Option Value} {a7 : Option Value} {a8 : Option Value} {a9 : Option Value} {b b2 : Option Value} {t : rb_L} {x : Int64} : rb_nxt C o ini ret (.ok (.lstore 10, 2)) pc (a0 :: a1 :: a2 :: a3 :: a4 :: a5 :: a6 :: a7 :: a8 :: a9 :: b :: b2 :: t) (.long x :: st) σ = some (.inl (pc + 2, (a0 :: a1 :: a2 :: a3 :: a4 :: a5 :: a6 :: a7 :: a8 :: rb_inv a9 :: some (.long x) :: none :: t), st, σ)) := rfl
theorem xx_iinc10 {C : rb_C} {o : Nat} {ini : Bool} {ret : Option FieldType} {pc : Nat} {ls : rb_L} {st : List Value} {σ : rb_S} {a0 : Option Value} {a1 : Option Value} {a2 : Option Value} {a3 : Option Value} {a4 : Option Value} {a5 : Option Value} {a6 : Option Value} {a7 : Option Value} {a8 : Option Value} {a9 : Option Value} {t : rb_L} {x : Int32} {n : Int} : rb_nxt C o ini ret (.ok (.iinc 10 n, 3)) pc (a0 :: a1 :: a2 :: a3 :: a4 :: a5 :: a6 :: a7 :: a8 :: a9 :: some (.int x) :: t) st σ = some (.inl (pc + 3, (a0 :: a1 :: a2 :: a3 :: a4 :: a5 :: a6 :: a7 :: a8 :: rb_inv a9 :: some (.int (x + Int32.ofInt n)) :: t), st, σ)) := rfl
theorem xx_iload11 {C : rb_C} {o : Nat} {ini : Bool} {ret : Option FieldType} {pc : Nat} {ls : rb_L} {st : List Value} {σ : rb_S} {a0 : Option Value} {a1 : Option Value} {a2 : Option Value} {a3 : Option Value} {a4 : Option Value} {a5 : Option Value} {a6 : Option Value} {a7 : Option Value} {a8 : Option Value} {a9 : Option Value} {a10 : Option Value} {t : rb_L} {x : Int32} : rb_nxt C o ini ret (.ok (.iload 11, 2)) pc (a0 :: a1 :: a2 :: a3 :: a4 :: a5 :: a6 :: a7 :: a8 :: a9 :: a10 :: some (.int x) :: t) st σ = some (.inl (pc + 2, (a0 :: a1 :: a2 :: a3 :: a4 :: a5 :: a6 :: a7 :: a8 :: a9 :: a10 :: some (.int x) :: t), .int x :: st, σ)) := rfl
theorem xx_lload11 {C : rb_C} {o : Nat} {ini : Bool} {ret : Option FieldType} {pc : Nat} {ls : rb_L} {st : List Value} {σ : rb_S} {a0 : Option Value} {a1 : Option Value} {a2 : Option Value} {a3 : Option Value} {a4 : Option Value} {a5 : Option Value} {a6 : Option Value} {a7 : Option Value} {a8 : Option Value} {a9 : Option Value} {a10 : Option Value} {t : rb_L} {x : Int64} : rb_nxt C o ini ret (.ok (.lload 11, 2)) pc (a0 :: a1 :: a2 :: a3 :: a4 :: a5 :: a6 :: a7 :: a8 :: a9 :: a10 :: some (.long x) :: t) st σ = some (.inl (pc + 2, (a0 :: a1 :: a2 :: a3 :: a4 :: a5 :: a6 :: a7 :: a8 :: a9 :: a10 :: some (.long x) :: t), .long x :: st, σ)) := rfl
theorem xx_aload11 {C : rb_C} {o : Nat} {ini : Bool} {ret : Option FieldType} {pc : Nat} {ls : rb_L} {st : List Value} {σ : rb_S} {a0 : Option Value} {a1 : Option Value} {a2 : Option Value} {a3 : Option Value} {a4 : Option Value} {a5 : Option Value} {a6 : Option Value} {a7 : Option Value} {a8 : Option Value} {a9 : Option Value} {a10 : Option Value} {t : rb_L} {x : Nat} : rb_nxt C o ini ret (.ok (.aload 11, 2)) pc (a0 :: a1 :: a2 :: a3 :: a4 :: a5 :: a6 :: a7 :: a8 :: a9 :: a10 :: some (.ref x) :: t) st σ = some (.inl (pc + 2, (a0 :: a1 :: a2 :: a3 :: a4 :: a5 :: a6 :: a7 :: a8 :: a9 :: a10 :: some (.ref x) :: t), .ref x :: st, σ)) := rfl
theorem xx_aload11N {C : rb_C} {o : Nat} {ini : Bool} {ret : Option FieldType} {pc : Nat} {ls : rb_L} {st : List Value} {σ : rb_S} {a0 : Option Value} {a1 : Option Value} {a2 : Option Value} {a3 : Option Value} {a4 : Option Value} {a5 : Option Value} {a6 : Option Value} {a7 : Option Value} {a8 : Option Value} {a9 : Option Value} {a10 : Option Value} {t : rb_L} : rb_nxt C o ini ret (.ok (.aload 11, 2)) pc (a0 :: a1 :: a2 :: a3 :: a4 :: a5 :: a6 :: a7 :: a8 :: a9 :: a10 :: some .null :: t) st σ = some (.inl (pc + 2, (a0 :: a1 :: a2 :: a3 :: a4 :: a5 :: a6 :: a7 :: a8 :: a9 :: a10 :: some .null :: t), .null :: st, σ)) := rfl
theorem xx_istore11 {C : rb_C} {o : Nat} {ini : Bool} {ret : Option FieldType} {pc : Nat} {ls : rb_L} {st : List Value} {σ : rb_S} {a0 : Option Value} {a1 : Option Value} {a2 : Option Value} {a3 : Option Value} {a4 : Option Value} {a5 : Option Value} {a6 : Option Value} {a7 : Option Value} {a8 : Option Value} {a9 : Option Value} {a10 : Option Value} {b : Option Value} {t : rb_L} {x : Int32} : rb_nxt C o ini ret (.ok (.istore 11, 2)) pc (a0 :: a1 :: a2 :: a3 :: a4 :: a5 :: a6 :: a7 :: a8 :: a9 :: a10 :: b :: t) (.int x :: st) σ = some (.inl (pc + 2, (a0 :: a1 :: a2 :: a3 :: a4 :: a5 :: a6 :: a7 :: a8 :: a9 :: rb_inv a10 :: some (.int x) :: t), st, σ)) := rfl
theorem xx_astore11 {C : rb_C} {o : Nat} {ini : Bool} {ret : Option FieldType} {pc : Nat} {ls : rb_L} {st : List Value} {σ : rb_S} {a0 : Option Value} {a1 : Option Value} {a2 : Option Value} {a3 : Option Value} {a4 : Option Value} {a5 : Option Value} {a6 : Option Value} {a7 : Option Value} {a8 : Option Value} {a9 : Option Value} {a10 : Option Value} {b : Option Value} {t : rb_L} {x : Nat} : rb_nxt C o ini ret (.ok (.astore 11, 2)) pc (a0 :: a1 :: a2 :: a3 :: a4 :: a5 :: a6 :: a7 :: a8 :: a9 :: a10 :: b :: t) (.ref x :: st) σ = some (.inl (pc + 2, (a0 :: a1 :: a2 :: a3 :: a4 :: a5 :: a6 :: a7 :: a8 :: a9 :: rb_inv a10 :: some (.ref x) :: t), st, σ)) := rfl
theorem xx_lstore11 {C : rb_C} {o : Nat} {ini : Bool} {ret : Option FieldType} {pc : Nat} {ls : rb_L} {st : List Value} {σ : rb_S} {a0 : Option Value} {a1 : Option Value} {a2 : Option Value} {a3 : Option Value} {a4 : Option Value} {a5 : Option Value} {a6 : Option Value} {a7 : Option Value} {a8 : Option Value} {a9 : Option Value} {a10 : Option Value} {b b2 : Option Value} {t : rb_L} {x : Int64} : rb_nxt C o ini ret (.ok (.lstore 11, 2)) pc (a0 :: a1 :: a2 :: a3 :: a4 :: a5 :: a6 :: a7 :: a8 :: a9 :: a10 :: b :: b2 :: t) (.long x :: st) σ = some (.inl (pc + 2, (a0 :: a1 :: a2 :: a3 :: a4 :: a5 :: a6 :: a7 :: a8 :: a9 :: rb_inv a10 :: some (.long x) :: none :: t), st, σ)) := rfl
theorem xx_iinc11 {C : rb_C} {o : Nat} {ini : Bool} {ret : Option FieldType} {pc : Nat} {ls : rb_L} {st : List Value} {σ : rb_S} {a0 : Option Value} {a1 : Option Value} {a2 : Option Value} {a3 : Option Value} {a4 : Option Value} {a5 : Option Value} {a6 : Option Value} {a7 : Option Value} {a8 : Option Value} {a9 : Option Value} {a10 : Option Value} {t : rb_L} {x : Int32} {n : Int} : rb_nxt C o ini ret (.ok (.iinc 11 n, 3)) pc (a0 :: a1 :: a2 :: a3 :: a4 :: a5 :: a6 :: a7 :: a8 :: a9 :: a10 :: some (.int x) :: t) st σ = some (.inl (pc + 3, (a0 :: a1 :: a2 :: a3 :: a4 :: a5 :: a6 :: a7 :: a8 :: a9 :: rb_inv a10 :: some (.int (x + Int32.ofInt n)) :: t), st, σ)) := rfl
theorem xx_iload12 {C : rb_C} {o : Nat} {ini : Bool} {ret : Option FieldType} {pc : Nat} {ls : rb_L} {st : List Value} {σ : rb_S} {a0 : Option Value} {a1 : Option Value} {a2 : Option Value} {a3 : Option Value} {a4 : Option Value} {a5 : Option Value} {a6 : Option Value} {a7 : Option Value} {a8 : Option Value} {a9 : Option Value} {a10 : Option Value} {a11 : Option Value} {t : rb_L} {x : Int32} : rb_nxt C o ini ret (.ok (.iload 12, 2)) pc (a0 :: a1 :: a2 :: a3 :: a4 :: a5 :: a6 :: a7 :: a8 :: a9 :: a10 :: a11 :: some (.int x) :: t) st σ = some (.inl (pc + 2, (a0 :: a1 :: a2 :: a3 :: a4 :: a5 :: a6 :: a7 :: a8 :: a9 :: a10 :: a11 :: some (.int x) :: t), .int x :: st, σ)) := rfl
theorem xx_lload12 {C : rb_C} {o : Nat} {ini : Bool} {ret : Option FieldType} {pc : Nat} {ls : rb_L} {st : List Value} {σ : rb_S} {a0 : Option Value} {a1 : Option Value} {a2 : Option Value} {a3 : Option Value} {a4 : Option Value} {a5 : Option Value} {a6 : Option Value} {a7 : Option Value} {a8 : Option Value} {a9 : Option Value} {a10 : Option Value} {a11 : Option Value} {t : rb_L} {x : Int64} : rb_nxt C o ini ret (.ok (.lload 12, 2)) pc (a0 :: a1 :: a2 :: a3 :: a4 :: a5 :: a6 :: a7 :: a8 :: a9 :: a10 :: a11 :: some (.long x) :: t) st σ = some (.inl (pc + 2, (a0 :: a1 :: a2 :: a3 :: a4 :: a5 :: a6 :: a7 :: a8 :: a9 :: a10 :: a11 :: some (.long x) :: t), .long x :: st, σ)) := rfl
theorem xx_aload12 {C : rb_C} {o : Nat} {ini : Bool} {ret : Option FieldType} {pc : Nat} {ls : rb_L} {st : List Value} {σ : rb_S} {a0 : Option Value} {a1 : Option Value} {a2 : Option Value} {a3 : Option Value} {a4 : Option Value} {a5 : Option Value} {a6 : Option Value} {a7 : Option Value} {a8 : Option Value} {a9 : Option Value} {a10 : Option Value} {a11 : Option Value} {t : rb_L} {x : Nat} : rb_nxt C o ini ret (.ok (.aload 12, 2)) pc (a0 :: a1 :: a2 :: a3 :: a4 :: a5 :: a6 :: a7 :: a8 :: a9 :: a10 :: a11 :: some (.ref x) :: t) st σ = some (.inl (pc + 2, (a0 :: a1 :: a2 :: a3 :: a4 :: a5 :: a6 :: a7 :: a8 :: a9 :: a10 :: a11 :: some (.ref x) :: t), .ref x :: st, σ)) := rfl
theorem xx_aload12N {C : rb_C} {o : Nat} {ini : Bool} {ret : Option FieldType} {pc : Nat} {ls : rb_L} {st : List Value} {σ : rb_S} {a0 : Option Value} {a1 : Option Value} {a2 : Option Value} {a3 : Option Value} {a4 : Option Value} {a5 : Option Value} {a6 : Option Value} {a7 : Option Value} {a8 : Option Value} {a9 : Option Value} {a10 : Option Value} {a11 : Option Value} {t : rb_L} : rb_nxt C o ini ret (.ok (.aload 12, 2)) pc (a0 :: a1 :: a2 :: a3 :: a4 :: a5 :: a6 :: a7 :: a8 :: a9 :: a10 :: a11 :: some .null :: t) st σ = some (.inl (pc + 2, (a0 :: a1 :: a2 :: a3 :: a4 :: a5 :: a6 :: a7 :: a8 :: a9 :: a10 :: a11 :: some .null :: t), .null :: st, σ)) := rfl
theorem xx_istore12 {C : rb_C} {o : Nat} {ini : Bool} {ret : Option FieldType} {pc : Nat} {ls : rb_L} {st : List Value} {σ : rb_S} {a0 : Option Value} {a1 : Option Value} {a2 : Option Value} {a3 : Option Value} {a4 : Option Value} {a5 : Option Value} {a6 : Option Value} {a7 : Option Value} {a8 : Option Value} {a9 : Option Value} {a10 : Option Value} {a11 : Option Value} {b : Option Value} {t : rb_L} {x : Int32} : rb_nxt C o ini ret (.ok (.istore 12, 2)) pc (a0 :: a1 :: a2 :: a3 :: a4 :: a5 :: a6 :: a7 :: a8 :: a9 :: a10 :: a11 :: b :: t) (.int x :: st) σ = some (.inl (pc + 2, (a0 :: a1 :: a2 :: a3 :: a4 :: a5 :: a6 :: a7 :: a8 :: a9 :: a10 :: rb_inv a11 :: some (.int x) :: t), st, σ)) := rfl
theorem xx_astore12 {C : rb_C} {o : Nat} {ini : Bool} {ret : Option FieldType} {pc : Nat} {ls : rb_L} {st : List Value} {σ : rb_S} {a0 : Option Value} {a1 : Option Value} {a2 : Option Value} {a3 : Option Value} {a4 : Option Value} {a5 : Option Value} {a6 : Option Value} {a7 : Option Value} {a8 : Option Value} {a9 : Option Value} {a10 : Option Value} {a11 : Option Value} {b : Option Value} {t : rb_L} {x : Nat} : rb_nxt C o ini ret (.ok (.astore 12, 2)) pc (a0 :: a1 :: a2 :: a3 :: a4 :: a5 :: a6 :: a7 :: a8 :: a9 :: a10 :: a11 :: b :: t) (.ref x :: st) σ = some (.inl (pc + 2, (a0 :: a1 :: a2 :: a3 :: a4 :: a5 :: a6 :: a7 :: a8 :: a9 :: a10 :: rb_inv a11 :: some (.ref x) :: t), st, σ)) := rfl
theorem xx_lstore12 {C : rb_C} {o : Nat} {ini : Bool} {ret : Option FieldType} {pc : Nat} {ls : rb_L} {st : List Value} {σ : rb_S} {a0 : Option Value} {a1 : Option Value} {a2 : Option Value} {a3 : Option Value} {a4 : Option Value} {a5 : Option Value} {a6 : Option Value} {a7 : Option Value} {a8 : Option Value} {a9 : Option Value} {a10 : Option Value} {a11 : Option Value} {b b2 : Option Value} {t : rb_L} {x : Int64} : rb_nxt C o ini ret (.ok (.lstore 12, 2)) pc (a0 :: a1 :: a2 :: a3 :: a4 :: a5 :: a6 :: a7 :: a8 :: a9 :: a10 :: a11 :: b :: b2 :: t) (.long x :: st) σ = some (.inl (pc + 2, (a0 :: a1 :: a2 :: a3 :: a4 :: a5 :: a6 :: a7 :: a8 :: a9 :: a10 :: rb_inv a11 :: some (.long x) :: none :: t), st, σ)) := rfl
theorem xx_iinc12 {C : rb_C} {o : Nat} {ini : Bool} {ret : Option FieldType} {pc : Nat} {ls : rb_L} {st : List Value} {σ : rb_S} {a0 : Option Value} {a1 : Option Value} {a2 : Option Value} {a3 : Option Value} {a4 : Option Value} {a5 : Option Value} {a6 : Option Value} {a7 : Option Value} {a8 : Option Value} {a9 : Option Value} {a10 : Option Value} {a11 : Option Value} {t : rb_L} {x : Int32} {n : Int} : rb_nxt C o ini ret (.ok (.iinc 12 n, 3)) pc (a0 :: a1 :: a2 :: a3 :: a4 :: a5 :: a6 :: a7 :: a8 :: a9 :: a10 :: a11 :: some (.int x) :: t) st σ = some (.inl (pc + 3, (a0 :: a1 :: a2 :: a3 :: a4 :: a5 :: a6 :: a7 :: a8 :: a9 :: a10 :: rb_inv a11 :: some (.int (x + Int32.ofInt n)) :: t), st, σ)) := rfl
theorem xx_iload13 {C : rb_C} {o : Nat} {ini : Bool} {ret : Option FieldType} {pc : Nat} {ls : rb_L} {st : List Value} {σ : rb_S} {a0 : Option Value} {a1 : Option Value} {a2 : Option Value} {a3 : Option Value} {a4 : Option Value} {a5 : Option Value} {a6 : Option Value} {a7 : Option Value} {a8 : Option Value} {a9 : Option Value} {a10 : Option Value} {a11 : Option Value} {a12 : Option Value} {t : rb_L} {x : Int32} : rb_nxt C o ini ret (.ok (.iload 13, 2)) pc (a0 :: a1 :: a2 :: a3 :: a4 :: a5 :: a6 :: a7 :: a8 :: a9 :: a10 :: a11 :: a12 :: some (.int x) :: t) st σ = some (.inl (pc + 2, (a0 :: a1 :: a2 :: a3 :: a4 :: a5 :: a6 :: a7 :: a8 :: a9 :: a10 :: a11 :: a12 :: some (.int x) :: t), .int x :: st, σ)) := rfl
theorem xx_lload13 {C : rb_C} {o : Nat} {ini : Bool} {ret : Option FieldType} {pc : Nat} {ls : rb_L} {st : List Value} {σ : rb_S} {a0 : Option Value} {a1 : Option Value} {a2 : Option Value} {a3 : Option Value} {a4 : Option Value} {a5 : Option Value} {a6 : Option Value} {a7 : Option Value} {a8 : Option Value} {a9 : Option Value} {a10 : Option Value} {a11 : Option Value} {a12 : Option Value} {t : rb_L} {x : Int64} : rb_nxt C o ini ret (.ok (.lload 13, 2)) pc (a0 :: a1 :: a2 :: a3 :: a4 :: a5 :: a6 :: a7 :: a8 :: a9 :: a10 :: a11 :: a12 :: some (.long x) :: t) st σ = some (.inl (pc + 2, (a0 :: a1 :: a2 :: a3 :: a4 :: a5 :: a6 :: a7 :: a8 :: a9 :: a10 :: a11 :: a12 :: some (.long x) :: t), .long x :: st, σ)) := rfl
theorem xx_aload13 {C : rb_C} {o : Nat} {ini : Bool} {ret : Option FieldType} {pc : Nat} {ls : rb_L} {st : List Value} {σ : rb_S} {a0 : Option Value} {a1 : Option Value} {a2 : Option Value} {a3 : Option Value} {a4 : Option Value} {a5 : Option Value} {a6 : Option Value} {a7 : Option Value} {a8 : Option Value} {a9 : Option Value} {a10 : Option Value} {a11 : Option Value} {a12 : Option Value} {t : rb_L} {x : Nat} : rb_nxt C o ini ret (.ok (.aload 13, 2)) pc (a0 :: a1 :: a2 :: a3 :: a4 :: a5 :: a6 :: a7 :: a8 :: a9 :: a10 :: a11 :: a12 :: some (.ref x) :: t) st σ = some (.inl (pc + 2, (a0 :: a1 :: a2 :: a3 :: a4 :: a5 :: a6 :: a7 :: a8 :: a9 :: a10 :: a11 :: a12 :: some (.ref x) :: t), .ref x :: st, σ)) := rfl
theorem xx_aload13N {C : rb_C} {o : Nat} {ini : Bool} {ret : Option FieldType} {pc : Nat} {ls : rb_L} {st : List Value} {σ : rb_S} {a0 : Option Value} {a1 : Option Value} {a2 : Option Value} {a3 : Option Value} {a4 : Option Value} {a5 : Option Value} {a6 : Option Value} {a7 : Option Value} {a8 : Option Value} {a9 : Option Value} {a10 : Option Value} {a11 : Option Value} {a12 : Option Value} {t : rb_L} : rb_nxt C o ini ret (.ok (.aload 13, 2)) pc (a0 :: a1 :: a2 :: a3 :: a4 :: a5 :: a6 :: a7 :: a8 :: a9 :: a10 :: a11 :: a12 :: some .null :: t) st σ = some (.inl (pc + 2, (a0 :: a1 :: a2 :: a3 :: a4 :: a5 :: a6 :: a7 :: a8 :: a9 :: a10 :: a11 :: a12 :: some .null :: t), .null :: st, σ)) := rfl
theorem xx_istore13 {C : rb_C} {o : Nat} {ini : Bool} {ret : Option FieldType} {pc : Nat} {ls : rb_L} {st : List Value} {σ : rb_S} {a0 : Option Value} {a1 : Option Value} {a2 : Option Value} {a3 : Option Value} {a4 : Option Value} {a5 : Option Value} {a6 : Option Value} {a7 : Option Value} {a8 : Option Value} {a9 : Option Value} {a10 : Option Value} {a11 : Option Value} {a12 : Option Value} {b : Option Value} {t : rb_L} {x : Int32} : rb_nxt C o ini ret (.ok (.istore 13, 2)) pc (a0 :: a1 :: a2 :: a3 :: a4 :: a5 :: a6 :: a7 :: a8 :: a9 :: a10 :: a11 :: a12 :: b :: t) (.int x :: st) σ = some (.inl (pc + 2, (a0 :: a1 :: a2 :: a3 :: a4 :: a5 :: a6 :: a7 :: a8 :: a9 :: a10 :: a11 :: rb_inv a12 :: some (.int x) :: t), st, σ)) := rfl
theorem xx_astore13 {C : rb_C} {o : Nat} {ini : Bool} {ret : Option FieldType} {pc : Nat} {ls : rb_L} {st : List Value} {σ : rb_S} {a0 : Option Value} {a1 : Option Value} {a2 : Option Value} {a3 : Option Value} {a4 : Option Value} {a5 : Option Value} {a6 : Option Value} {a7 : Option Value} {a8 : Option Value} {a9 : Option Value} {a10 : Option Value} {a11 : Option Value} {a12 : Option Value} {b : Option Value} {t : rb_L} {x : Nat} : rb_nxt C o ini ret (.ok (.astore 13, 2)) pc (a0 :: a1 :: a2 :: a3 :: a4 :: a5 :: a6 :: a7 :: a8 :: a9 :: a10 :: a11 :: a12 :: b :: t) (.ref x :: st) σ = some (.inl (pc + 2, (a0 :: a1 :: a2 :: a3 :: a4 :: a5 :: a6 :: a7 :: a8 :: a9 :: a10 :: a11 :: rb_inv a12 :: some (.ref x) :: t), st, σ)) := rfl
theorem xx_lstore13 {C : rb_C} {o : Nat} {ini : Bool} {ret : Option FieldType} {pc : Nat} {ls : rb_L} {st : List Value} {σ : rb_S} {a0 : Option Value} {a1 : Option Value} {a2 : Option Value} {a3 : Option Value} {a4 : Option Value} {a5 : Option Value} {a6 : Option Value} {a7 : Option Value} {a8 : Option Value} {a9 : Option Value} {a10 : Option Value} {a11 : Option Value} {a12 : Option Value} {b b2 : Option Value} {t : rb_L} {x : Int64} : rb_nxt C o ini ret (.ok (.lstore 13, 2)) pc (a0 :: a1 :: a2 :: a3 :: a4 :: a5 :: a6 :: a7 :: a8 :: a9 :: a10 :: a11 :: a12 :: b :: b2 :: t) (.long x :: st) σ = some (.inl (pc + 2, (a0 :: a1 :: a2 :: a3 :: a4 :: a5 :: a6 :: a7 :: a8 :: a9 :: a10 :: a11 :: rb_inv a12 :: some (.long x) :: none :: t), st, σ)) := rfl
theorem xx_iinc13 {C : rb_C} {o : Nat} {ini : Bool} {ret : Option FieldType} {pc : Nat} {ls : rb_L} {st : List Value} {σ : rb_S} {a0 : Option Value} {a1 : Option Value} {a2 : Option Value} {a3 : Option Value} {a4 : Option Value} {a5 : Option Value} {a6 : Option Value} {a7 : Option Value} {a8 : Option Value} {a9 : Option Value} {a10 : Option Value} {a11 : Option Value} {a12 : Option Value} {t : rb_L} {x : Int32} {n : Int} : rb_nxt C o ini ret (.ok (.iinc 13 n, 3)) pc (a0 :: a1 :: a2 :: a3 :: a4 :: a5 :: a6 :: a7 :: a8 :: a9 :: a10 :: a11 :: a12 :: some (.int x) :: t) st σ = some (.inl (pc + 3, (a0 :: a1 :: a2 :: a3 :: a4 :: a5 :: a6 :: a7 :: a8 :: a9 :: a10 :: a11 :: rb_inv a12 :: some (.int (x + Int32.ofInt n)) :: t), st, σ)) := rfl
theorem xx_iadd {C : rb_C} {o : Nat} {ini : Bool} {ret : Option FieldType} {pc : Nat} {ls : rb_L} {st : List Value} {σ : rb_S} {x y : Int32} : rb_nxt C o ini ret (.ok (.iadd, 1)) pc ls (.int y :: .int x :: st) σ = some (.inl (pc + 1, ls, .int (x + y) :: st, σ)) := rfl
theorem xx_isub {C : rb_C} {o : Nat} {ini : Bool} {ret : Option FieldType} {pc : Nat} {ls : rb_L} {st : List Value} {σ : rb_S} {x y : Int32} : rb_nxt C o ini ret (.ok (.isub, 1)) pc ls (.int y :: .int x :: st) σ = some (.inl (pc + 1, ls, .int (x - y) :: st, σ)) := rfl
theorem xx_imul {C : rb_C} {o : Nat} {ini : Bool} {ret : Option FieldType} {pc : Nat} {ls : rb_L} {st : List Value} {σ : rb_S} {x y : Int32} : rb_nxt C o ini ret (.ok (.imul, 1)) pc ls (.int y :: .int x :: st) σ = some (.inl (pc + 1, ls, .int (x * y) :: st, σ)) := rfl
theorem xx_iand {C : rb_C} {o : Nat} {ini : Bool} {ret : Option FieldType} {pc : Nat} {ls : rb_L} {st : List Value} {σ : rb_S} {x y : Int32} : rb_nxt C o ini ret (.ok (.iand, 1)) pc ls (.int y :: .int x :: st) σ = some (.inl (pc + 1, ls, .int (x &&& y) :: st, σ)) := rfl
theorem xx_ior {C : rb_C} {o : Nat} {ini : Bool} {ret : Option FieldType} {pc : Nat} {ls : rb_L} {st : List Value} {σ : rb_S} {x y : Int32} : rb_nxt C o ini ret (.ok (.ior, 1)) pc ls (.int y :: .int x :: st) σ = some (.inl (pc + 1, ls, .int (x ||| y) :: st, σ)) := rfl
theorem xx_ladd {C : rb_C} {o : Nat} {ini : Bool} {ret : Option FieldType} {pc : Nat} {ls : rb_L} {st : List Value} {σ : rb_S} {x y : Int64} : rb_nxt C o ini ret (.ok (.ladd, 1)) pc ls (.long y :: .long x :: st) σ = some (.inl (pc + 1, ls, .long (x + y) :: st, σ)) := rfl
theorem xx_lsub {C : rb_C} {o : Nat} {ini : Bool} {ret : Option FieldType} {pc : Nat} {ls : rb_L} {st : List Value} {σ : rb_S} {x y : Int64} : rb_nxt C o ini ret (.ok (.lsub, 1)) pc ls (.long y :: .long x :: st) σ = some (.inl (pc + 1, ls, .long (x - y) :: st, σ)) := rfl
theorem xx_lmul {C : rb_C} {o : Nat} {ini : Bool} {ret : Option FieldType} {pc : Nat} {ls : rb_L} {st : List Value} {σ : rb_S} {x y : Int64} : rb_nxt C o ini ret (.ok (.lmul, 1)) pc ls (.long y :: .long x :: st) σ = some (.inl (pc + 1, ls, .long (x * y) :: st, σ)) := rfl
theorem xx_lxor {C : rb_C} {o : Nat} {ini : Bool} {ret : Option FieldType} {pc : Nat} {ls : rb_L} {st : List Value} {σ : rb_S} {x y : Int64} : rb_nxt C o ini ret (.ok (.lxor, 1)) pc ls (.long y :: .long x :: st) σ = some (.inl (pc + 1, ls, .long (x ^^^ y) :: st, σ)) := rfl
theorem xx_idiv {C : rb_C} {o : Nat} {ini : Bool} {ret : Option FieldType} {pc : Nat} {ls : rb_L} {st : List Value} {σ : rb_S} {x y : Int32} : rb_nxt C o ini ret (.ok (.idiv, 1)) pc ls (.int y :: .int x :: st) σ = if y = 0 then none else some (.inl (pc + 1, ls, .int (x / y) :: st, σ)) := rfl
theorem xx_irem {C : rb_C} {o : Nat} {ini : Bool} {ret : Option FieldType} {pc : Nat} {ls : rb_L} {st : List Value} {σ : rb_S} {x y : Int32} : rb_nxt C o ini ret (.ok (.irem, 1)) pc ls (.int y :: .int x :: st) σ = if y = 0 then none else some (.inl (pc + 1, ls, .int (x - x / y * y) :: st, σ)) := rfl
theorem xx_ldiv {C : rb_C} {o : Nat} {ini : Bool} {ret : Option FieldType} {pc : Nat} {ls : rb_L} {st : List Value} {σ : rb_S} {x y : Int64} : rb_nxt C o ini ret (.ok (.ldiv, 1)) pc ls (.long y :: .long x :: st) σ = if y = 0 then none else some (.inl (pc + 1, ls, .long (x / y) :: st, σ)) := rfl
theorem xx_ineg {C : rb_C} {o : Nat} {ini : Bool} {ret : Option FieldType} {pc : Nat} {ls : rb_L} {st : List Value} {σ : rb_S} {x : Int32} : rb_nxt C o ini ret (.ok (.ineg, 1)) pc ls (.int x :: st) σ = some (.inl (pc + 1, ls, .int (-x) :: st, σ)) := rfl
theorem xx_lneg {C : rb_C} {o : Nat} {ini : Bool} {ret : Option FieldType} {pc : Nat} {ls : rb_L} {st : List Value} {σ : rb_S} {x : Int64} : rb_nxt C o ini ret (.ok (.lneg, 1)) pc ls (.long x :: st) σ = some (.inl (pc + 1, ls, .long (-x) :: st, σ)) := rfl
theorem xx_lcmp {C : rb_C} {o : Nat} {ini : Bool} {ret : Option FieldType} {pc : Nat} {ls : rb_L} {st : List Value} {σ : rb_S} {x y : Int64} : rb_nxt C o ini ret (.ok (.lcmp, 1)) pc ls (.long y :: .long x :: st) σ = some (.inl (pc + 1, ls, .int (lg_cmp x y) :: st, σ)) := rfl
theorem xx_i2l {C : rb_C} {o : Nat} {ini : Bool} {ret : Option FieldType} {pc : Nat} {ls : rb_L} {st : List Value} {σ : rb_S} {x : Int32} : rb_nxt C o ini ret (.ok (.i2l, 1)) pc ls (.int x :: st) σ = some (.inl (pc + 1, ls, .long x.toInt64 :: st, σ)) := rfl
theorem xx_l2i {C : rb_C} {o : Nat} {ini : Bool} {ret : Option FieldType} {pc : Nat} {ls : rb_L} {st : List Value} {σ : rb_S} {x : Int64} : rb_nxt C o ini ret (.ok (.l2i, 1)) pc ls (.long x :: st) σ = some (.inl (pc + 1, ls, .int x.toInt32 :: st, σ)) := rfl
theorem xx_dupi {C : rb_C} {o : Nat} {ini : Bool} {ret : Option FieldType} {pc : Nat} {ls : rb_L} {st : List Value} {σ : rb_S} {x : Int32} : rb_nxt C o ini ret (.ok (.dup, 1)) pc ls (.int x :: st) σ = some (.inl (pc + 1, ls, .int x :: .int x :: st, σ)) := rfl
theorem xx_popi {C : rb_C} {o : Nat} {ini : Bool} {ret : Option FieldType} {pc : Nat} {ls : rb_L} {st : List Value} {σ : rb_S} {x : Int32} : rb_nxt C o ini ret (.ok (.pop, 1)) pc ls (.int x :: st) σ = some (.inl (pc + 1, ls, st, σ)) := rfl
theorem xx_dupr {C : rb_C} {o : Nat} {ini : Bool} {ret : Option FieldType} {pc : Nat} {ls : rb_L} {st : List Value} {σ : rb_S} {x : Nat} : rb_nxt C o ini ret (.ok (.dup, 1)) pc ls (.ref x :: st) σ = some (.inl (pc + 1, ls, .ref x :: .ref x :: st, σ)) := rfl
theorem xx_popr {C : rb_C} {o : Nat} {ini : Bool} {ret : Option FieldType} {pc : Nat} {ls : rb_L} {st : List Value} {σ : rb_S} {x : Nat} : rb_nxt C o ini ret (.ok (.pop, 1)) pc ls (.ref x :: st) σ = some (.inl (pc + 1, ls, st, σ)) := rfl
theorem xx_dupz {C : rb_C} {o : Nat} {ini : Bool} {ret : Option FieldType} {pc : Nat} {ls : rb_L} {st : List Value} {σ : rb_S} : rb_nxt C o ini ret (.ok (.dup, 1)) pc ls (.null :: st) σ = some (.inl (pc + 1, ls, .null :: .null :: st, σ)) := rfl
theorem xx_popz {C : rb_C} {o : Nat} {ini : Bool} {ret : Option FieldType} {pc : Nat} {ls : rb_L} {st : List Value} {σ : rb_S} : rb_nxt C o ini ret (.ok (.pop, 1)) pc ls (.null :: st) σ = some (.inl (pc + 1, ls, st, σ)) := rfl
theorem xx_dup2 {C : rb_C} {o : Nat} {ini : Bool} {ret : Option FieldType} {pc : Nat} {ls : rb_L} {st : List Value} {σ : rb_S} {x : Int32} {y : Nat} : rb_nxt C o ini ret (.ok (.dup2, 1)) pc ls (.int x :: .ref y :: st) σ = some (.inl (pc + 1, ls, .int x :: .ref y :: .int x :: .ref y :: st, σ)) := rfl
theorem xx_ifeq {C : rb_C} {o : Nat} {ini : Bool} {ret : Option FieldType} {pc : Nat} {ls : rb_L} {st : List Value} {σ : rb_S} {x : Int32} {off : Int} : rb_nxt C o ini ret (.ok (.ifCond .eq off, 3)) pc ls (.int x :: st) σ = if x = 0 then rb_jp pc off ls st σ else some (.inl (pc + 3, ls, st, σ)) := rfl
theorem xx_ifne {C : rb_C} {o : Nat} {ini : Bool} {ret : Option FieldType} {pc : Nat} {ls : rb_L} {st : List Value} {σ : rb_S} {x : Int32} {off : Int} : rb_nxt C o ini ret (.ok (.ifCond .ne off, 3)) pc ls (.int x :: st) σ = if x = 0 then some (.inl (pc + 3, ls, st, σ)) else rb_jp pc off ls st σ := rfl
theorem xx_iflt {C : rb_C} {o : Nat} {ini : Bool} {ret : Option FieldType} {pc : Nat} {ls : rb_L} {st : List Value} {σ : rb_S} {x : Int32} {off : Int} : rb_nxt C o ini ret (.ok (.ifCond .lt off, 3)) pc ls (.int x :: st) σ = if x < 0 then rb_jp pc off ls st σ else some (.inl (pc + 3, ls, st, σ)) := rfl
theorem xx_ifge {C : rb_C} {o : Nat} {ini : Bool} {ret : Option FieldType} {pc : Nat} {ls : rb_L} {st : List Value} {σ : rb_S} {x : Int32} {off : Int} : rb_nxt C o ini ret (.ok (.ifCond .ge off, 3)) pc ls (.int x :: st) σ = if 0 ≤ x then rb_jp pc off ls st σ else some (.inl (pc + 3, ls, st, σ)) := rfl
theorem xx_ifgt {C : rb_C} {o : Nat} {ini : Bool} {ret : Option FieldType} {pc : Nat} {ls : rb_L} {st : List Value} {σ : rb_S} {x : Int32} {off : Int} : rb_nxt C o ini ret (.ok (.ifCond .gt off, 3)) pc ls (.int x :: st) σ = if 0 < x then rb_jp pc off ls st σ else some (.inl (pc + 3, ls, st, σ)) := rfl
theorem xx_ifle {C : rb_C} {o : Nat} {ini : Bool} {ret : Option FieldType} {pc : Nat} {ls : rb_L} {st : List Value} {σ : rb_S} {x : Int32} {off : Int} : rb_nxt C o ini ret (.ok (.ifCond .le off, 3)) pc ls (.int x :: st) σ = if x ≤ 0 then rb_jp pc off ls st σ else some (.inl (pc + 3, ls, st, σ)) := rfl
theorem xx_iceq {C : rb_C} {o : Nat} {ini : Bool} {ret : Option FieldType} {pc : Nat} {ls : rb_L} {st : List Value} {σ : rb_S} {x y : Int32} {off : Int} : rb_nxt C o ini ret (.ok (.if_icmp .eq off, 3)) pc ls (.int y :: .int x :: st) σ = if x = y then rb_jp pc off ls st σ else some (.inl (pc + 3, ls, st, σ)) := rfl
theorem xx_icne {C : rb_C} {o : Nat} {ini : Bool} {ret : Option FieldType} {pc : Nat} {ls : rb_L} {st : List Value} {σ : rb_S} {x y : Int32} {off : Int} : rb_nxt C o ini ret (.ok (.if_icmp .ne off, 3)) pc ls (.int y :: .int x :: st) σ = if x = y then some (.inl (pc + 3, ls, st, σ)) else rb_jp pc off ls st σ := rfl
theorem xx_iclt {C : rb_C} {o : Nat} {ini : Bool} {ret : Option FieldType} {pc : Nat} {ls : rb_L} {st : List Value} {σ : rb_S} {x y : Int32} {off : Int} : rb_nxt C o ini ret (.ok (.if_icmp .lt off, 3)) pc ls (.int y :: .int x :: st) σ = if x < y then rb_jp pc off ls st σ else some (.inl (pc + 3, ls, st, σ)) := rfl
theorem xx_icge {C : rb_C} {o : Nat} {ini : Bool} {ret : Option FieldType} {pc : Nat} {ls : rb_L} {st : List Value} {σ : rb_S} {x y : Int32} {off : Int} : rb_nxt C o ini ret (.ok (.if_icmp .ge off, 3)) pc ls (.int y :: .int x :: st) σ = if y ≤ x then rb_jp pc off ls st σ else some (.inl (pc + 3, ls, st, σ)) := rfl
theorem xx_icgt {C : rb_C} {o : Nat} {ini : Bool} {ret : Option FieldType} {pc : Nat} {ls : rb_L} {st : List Value} {σ : rb_S} {x y : Int32} {off : Int} : rb_nxt C o ini ret (.ok (.if_icmp .gt off, 3)) pc ls (.int y :: .int x :: st) σ = if y < x then rb_jp pc off ls st σ else some (.inl (pc + 3, ls, st, σ)) := rfl
theorem xx_icle {C : rb_C} {o : Nat} {ini : Bool} {ret : Option FieldType} {pc : Nat} {ls : rb_L} {st : List Value} {σ : rb_S} {x y : Int32} {off : Int} : rb_nxt C o ini ret (.ok (.if_icmp .le off, 3)) pc ls (.int y :: .int x :: st) σ = if x ≤ y then rb_jp pc off ls st σ else some (.inl (pc + 3, ls, st, σ)) := rfl
theorem xx_goto {C : rb_C} {o : Nat} {ini : Bool} {ret : Option FieldType} {pc : Nat} {ls : rb_L} {st : List Value} {σ : rb_S} {off : Int} : rb_nxt C o ini ret (.ok (.goto off, 3)) pc ls st σ = rb_jp pc off ls st σ := rfl
theorem xx_ifnullR {C : rb_C} {o : Nat} {ini : Bool} {ret : Option FieldType} {pc : Nat} {ls : rb_L} {st : List Value} {σ : rb_S} {x : Nat} {off : Int} : rb_nxt C o ini ret (.ok (.ifnull off, 3)) pc ls (.ref x :: st) σ = some (.inl (pc + 3, ls, st, σ)) := rfl
theorem xx_ifnullN {C : rb_C} {o : Nat} {ini : Bool} {ret : Option FieldType} {pc : Nat} {ls : rb_L} {st : List Value} {σ : rb_S} {off : Int} : rb_nxt C o ini ret (.ok (.ifnull off, 3)) pc ls (.null :: st) σ = rb_jp pc off ls st σ := rfl
theorem xx_ifnonnullR {C : rb_C} {o : Nat} {ini : Bool} {ret : Option FieldType} {pc : Nat} {ls : rb_L} {st : List Value} {σ : rb_S} {x : Nat} {off : Int} : rb_nxt C o ini ret (.ok (.ifnonnull off, 3)) pc ls (.ref x :: st) σ = rb_jp pc off ls st σ := rfl
theorem xx_ifnonnullN {C : rb_C} {o : Nat} {ini : Bool} {ret : Option FieldType} {pc : Nat} {ls : rb_L} {st : List Value} {σ : rb_S} {off : Int} : rb_nxt C o ini ret (.ok (.ifnonnull off, 3)) pc ls (.null :: st) σ = some (.inl (pc + 3, ls, st, σ)) := rfl
def rb_zI (e : Option (Int32 × Nat)) (k : Option Nat) (pc : Nat) (ls : rb_L) (st : List Value) (σ : rb_S) : rb_N := match e with
  | some (v, _) => some (.inl (pc + 2, ls, .int v :: st, σ))
  | none => match k with
    | some k => some (.inl (pc + 2, ls, .ref k :: st, σ))
    | none => none
def rb_zJ (e : Option (Int64 × Nat)) (pc : Nat) (ls : rb_L) (st : List Value) (σ : rb_S) : rb_N := match e with
  | some (v, _) => some (.inl (pc + 3, ls, .long v :: st, σ))
  | none => none
def rb_zv (v : Option Value) (pc : Nat) (ls : rb_L) (st : List Value) (σ : rb_S) : rb_N := match v with
  | some v => some (.inl (pc + 3, ls, v :: st, σ))
  | none => none
def rb_zg (c : Option va_E) (ci k pc : Nat) (ls : rb_L) (st : List Value) (σ : rb_S) : rb_N := match c with
  | some (.inr (c, fs)) => if c = ci then rb_zv fs[k]? pc ls st σ else none
  | _ => none
def rb_zf (e : Option (Nat × Nat × Bool × FieldType × Nat)) (pc : Nat) (ls : rb_L) (a : Nat) (st : List Value) (σ : rb_S) : rb_N := match e with
  | some (ci, k, _) => rb_zg (σ.1 a) ci k pc ls st σ
  | none => none
def rb_zp (c : Option va_E) (ci k : Nat) (fin ini : Bool) (ty : FieldType) (pc : Nat) (ls : rb_L) (v : Value) (a : Nat) (st : List Value) (σ : rb_S) : rb_N := match c with
  | some (.inr (c, fs)) => if c = ci then (if k < fs.length ∧ rb_tyok ty v = true ∧ (fin = false ∨ ini = true) then some (.inl (pc + 3, ls, st, rb_wr σ a (.inr (ci, fs.set k v)))) else none) else none
  | _ => none
def rb_zq (e : Option (Nat × Nat × Bool × FieldType × Nat)) (ini : Bool) (pc : Nat) (ls : rb_L) (v : Value) (a : Nat) (st : List Value) (σ : rb_S) : rb_N := match e with
  | some (ci, k, fin, ty, _) => rb_zp (σ.1 a) ci k fin ini ty pc ls v a st σ
  | none => none
def rb_yi (c : Option va_E) (i : Int32) (pc : Nat) (ls : rb_L) (st : List Value) (σ : rb_S) : rb_N := match c with
  | some (.inl (tg, n, .inl g)) => if (tg = 0 ∨ tg = 9) ∧ rb_in i n = true then some (.inl (pc + 1, ls, .int (g i.toNatClampNeg) :: st, σ)) else none
  | _ => none
def rb_yl (c : Option va_E) (i : Int32) (pc : Nat) (ls : rb_L) (st : List Value) (σ : rb_S) : rb_N := match c with
  | some (.inl (tg, n, .inr (.inl g))) => if tg = 1 then (if rb_in i n = true then some (.inl (pc + 1, ls, .long (g i.toNatClampNeg) :: st, σ)) else none) else none
  | _ => none
def rb_ya (c : Option va_E) (i : Int32) (pc : Nat) (ls : rb_L) (st : List Value) (σ : rb_S) : rb_N := match c with
  | some (.inl (tg, n, .inr (.inr (.inr (.inr g))))) => if (tg = 2 ∨ tg = 3) ∧ rb_in i n = true then some (.inl (pc + 1, ls, va_rf (g i.toNatClampNeg) :: st, σ)) else none
  | _ => none
def rb_wi (c : Option va_E) (x i : Int32) (a pc : Nat) (ls : rb_L) (st : List Value) (σ : rb_S) : rb_N := match c with
  | some (.inl (tg, n, .inl g)) => if tg = 0 ∧ rb_in i n = true then some (.inl (pc + 1, ls, st, rb_wr σ a (.inl (0, n, .inl (upd g i.toNatClampNeg x))))) else none
  | _ => none
def rb_wl (c : Option va_E) (x : Int64) (i : Int32) (a pc : Nat) (ls : rb_L) (st : List Value) (σ : rb_S) : rb_N := match c with
  | some (.inl (tg, n, .inr (.inl g))) => if tg = 1 then (if rb_in i n = true then some (.inl (pc + 1, ls, st, rb_wr σ a (.inl (1, n, .inr (.inl (vp_updL g i.toNatClampNeg x)))))) else none) else none
  | _ => none
def rb_vn (c : Option va_E) (pc : Nat) (ls : rb_L) (st : List Value) (σ : rb_S) : rb_N := match c with
  | some (.inl (t, n, .inl _)) => if t = 0 ∨ t = 9 then some (.inl (pc + 1, ls, .int (Int32.ofNat n) :: st, σ)) else none
  | some (.inl (t, n, .inr (.inl _))) => if t = 1 then some (.inl (pc + 1, ls, .int (Int32.ofNat n) :: st, σ)) else none
  | some (.inl (t, n, .inr (.inr (.inr (.inr _))))) => if t = 2 ∨ t = 3 then some (.inl (pc + 1, ls, .int (Int32.ofNat n) :: st, σ)) else none
  | _ => none
def rb_un (e : Option (Nat × Nat × Nat × Nat)) (pc : Nat) (ls : rb_L) (st : List Value) (σ : rb_S) : rb_N := match e with
  | some (ci, _) => some (.inl (pc + 3, ls, .ref σ.2.1 :: st, rb_mk σ (.inr (ci, rb_def ci)) (rb_def ci).length))
  | none => none
def rb_ua (e : Option (Nat × Nat)) (x : Int32) (pc : Nat) (ls : rb_L) (st : List Value) (σ : rb_S) : rb_N := match e with
  | some (tg, _) => if ¬ x < 0 ∧ x.toNatClampNeg ≤ 1000000 then some (.inl (pc + 3, ls, .ref σ.2.1 :: st, rb_mk σ (.inl (tg, x.toNatClampNeg, .inr (.inr (.inr (.inr fun _ => none))))) x.toNatClampNeg)) else none
  | none => none
theorem xx_ldc {C : rb_C} {o : Nat} {ini : Bool} {ret : Option FieldType} {pc : Nat} {ls : rb_L} {st : List Value} {σ : rb_S} {i : Nat} : rb_nxt C o ini ret (.ok (.ldc i, 2)) pc ls st σ = rb_zI (rb_kI o i) (rb_kS o i) pc ls st σ := rfl
theorem xx_ldc2 {C : rb_C} {o : Nat} {ini : Bool} {ret : Option FieldType} {pc : Nat} {ls : rb_L} {st : List Value} {σ : rb_S} {i : Nat} : rb_nxt C o ini ret (.ok (.ldc2_w i, 3)) pc ls st σ = rb_zJ (rb_kJ o i) pc ls st σ := rfl
theorem xx_getf {C : rb_C} {o : Nat} {ini : Bool} {ret : Option FieldType} {pc : Nat} {ls : rb_L} {st : List Value} {σ : rb_S} {i a : Nat} : rb_nxt C o ini ret (.ok (.getfield i, 3)) pc ls (.ref a :: st) σ = rb_zf (rb_fld o i) pc ls a st σ := rfl
theorem xx_putf {C : rb_C} {o : Nat} {ini : Bool} {ret : Option FieldType} {pc : Nat} {ls : rb_L} {st : List Value} {σ : rb_S} {i a : Nat} {v : Value} : rb_nxt C o ini ret (.ok (.putfield i, 3)) pc ls (v :: .ref a :: st) σ = rb_zq (rb_fld o i) ini pc ls v a st σ := rfl
theorem xx_iald {C : rb_C} {o : Nat} {ini : Bool} {ret : Option FieldType} {pc : Nat} {ls : rb_L} {st : List Value} {σ : rb_S} {i : Int32} {a : Nat} : rb_nxt C o ini ret (.ok (.iaload, 1)) pc ls (.int i :: .ref a :: st) σ = rb_yi (σ.1 a) i pc ls st σ := rfl
theorem xx_lald {C : rb_C} {o : Nat} {ini : Bool} {ret : Option FieldType} {pc : Nat} {ls : rb_L} {st : List Value} {σ : rb_S} {i : Int32} {a : Nat} : rb_nxt C o ini ret (.ok (.laload, 1)) pc ls (.int i :: .ref a :: st) σ = rb_yl (σ.1 a) i pc ls st σ := rfl
theorem xx_aald {C : rb_C} {o : Nat} {ini : Bool} {ret : Option FieldType} {pc : Nat} {ls : rb_L} {st : List Value} {σ : rb_S} {i : Int32} {a : Nat} : rb_nxt C o ini ret (.ok (.aaload, 1)) pc ls (.int i :: .ref a :: st) σ = rb_ya (σ.1 a) i pc ls st σ := rfl
theorem xx_iast {C : rb_C} {o : Nat} {ini : Bool} {ret : Option FieldType} {pc : Nat} {ls : rb_L} {st : List Value} {σ : rb_S} {x i : Int32} {a : Nat} : rb_nxt C o ini ret (.ok (.iastore, 1)) pc ls (.int x :: .int i :: .ref a :: st) σ = rb_wi (σ.1 a) x i a pc ls st σ := rfl
theorem xx_last {C : rb_C} {o : Nat} {ini : Bool} {ret : Option FieldType} {pc : Nat} {ls : rb_L} {st : List Value} {σ : rb_S} {x : Int64} {i : Int32} {a : Nat} : rb_nxt C o ini ret (.ok (.lastore, 1)) pc ls (.long x :: .int i :: .ref a :: st) σ = rb_wl (σ.1 a) x i a pc ls st σ := rfl
theorem xx_alen {C : rb_C} {o : Nat} {ini : Bool} {ret : Option FieldType} {pc : Nat} {ls : rb_L} {st : List Value} {σ : rb_S} {a : Nat} : rb_nxt C o ini ret (.ok (.arraylength, 1)) pc ls (.ref a :: st) σ = rb_vn (σ.1 a) pc ls st σ := rfl
theorem xx_new {C : rb_C} {o : Nat} {ini : Bool} {ret : Option FieldType} {pc : Nat} {ls : rb_L} {st : List Value} {σ : rb_S} {i : Nat} : rb_nxt C o ini ret (.ok (.new i, 3)) pc ls st σ = rb_un (rb_new o i) pc ls st σ := rfl
theorem xx_anew {C : rb_C} {o : Nat} {ini : Bool} {ret : Option FieldType} {pc : Nat} {ls : rb_L} {st : List Value} {σ : rb_S} {i : Nat} {x : Int32} : rb_nxt C o ini ret (.ok (.anewarray i, 3)) pc ls (.int x :: st) σ = rb_ua (rb_anw o i) x pc ls st σ := rfl
theorem xx_newI {C : rb_C} {o : Nat} {ini : Bool} {ret : Option FieldType} {pc : Nat} {ls : rb_L} {st : List Value} {σ : rb_S} {x : Int32} : rb_nxt C o ini ret (.ok (.newarray .int, 2)) pc ls (.int x :: st) σ = if ¬ x < 0 ∧ x.toNatClampNeg ≤ 1000000 then some (.inl (pc + 2, ls, .ref σ.2.1 :: st, rb_mk σ (.inl (0, x.toNatClampNeg, .inl fun _ => 0)) x.toNatClampNeg)) else none := rfl
theorem xx_newJ {C : rb_C} {o : Nat} {ini : Bool} {ret : Option FieldType} {pc : Nat} {ls : rb_L} {st : List Value} {σ : rb_S} {x : Int32} : rb_nxt C o ini ret (.ok (.newarray .long, 2)) pc ls (.int x :: st) σ = if ¬ x < 0 ∧ x.toNatClampNeg ≤ 1000000 then some (.inl (pc + 2, ls, .ref σ.2.1 :: st, rb_mk σ (.inl (1, x.toNatClampNeg, .inr (.inl fun _ => 0))) x.toNatClampNeg)) else none := rfl
theorem xx_ivS {C : rb_C} {o : Nat} {ini : Bool} {ret : Option FieldType} {pc : Nat} {ls : rb_L} {st : List Value} {σ : rb_S} {i : Nat} : rb_nxt C o ini ret (.ok (.invokestatic i, 3)) pc ls st σ = rb_ivk C (rb_iv o i) 0 3 pc ls st σ := rfl
theorem xx_ivV {C : rb_C} {o : Nat} {ini : Bool} {ret : Option FieldType} {pc : Nat} {ls : rb_L} {st : List Value} {σ : rb_S} {i : Nat} : rb_nxt C o ini ret (.ok (.invokevirtual i, 3)) pc ls st σ = rb_ivk C (rb_iv o i) 1 3 pc ls st σ := rfl
theorem xx_ivP {C : rb_C} {o : Nat} {ini : Bool} {ret : Option FieldType} {pc : Nat} {ls : rb_L} {st : List Value} {σ : rb_S} {i : Nat} : rb_nxt C o ini ret (.ok (.invokespecial i, 3)) pc ls st σ = rb_ivk C (rb_iv o i) 2 3 pc ls st σ := rfl
theorem xx_sw {C : rb_C} {o : Nat} {ini : Bool} {ret : Option FieldType} {pc : Nat} {ls : rb_L} {st : List Value} {σ : rb_S} {x : Int32} {d lo hi : Int} {offs : Array Int} {len : Nat} : rb_nxt C o ini ret (.ok (.tableswitch d lo hi offs, len)) pc ls (.int x :: st) σ = if x.toInt < lo ∨ hi < x.toInt then rb_jp pc d ls st σ else (match offs[(x.toInt - lo).toNat]? with | some off => rb_jp pc off ls st σ | none => none) := rfl
theorem xx_iret {C : rb_C} {o : Nat} {ini : Bool} {pc : Nat} {ls : rb_L} {σ : rb_S} {x : Int32} : rb_nxt C o ini (some .int) (.ok (.ireturn, 1)) pc ls [.int x] σ = some (.inr (some (.int x), σ)) := rfl
theorem xx_zret0 {C : rb_C} {o : Nat} {ini : Bool} {pc : Nat} {ls : rb_L} {σ : rb_S} : rb_nxt C o ini (some .boolean) (.ok (.ireturn, 1)) pc ls [.int 0] σ = some (.inr (some (.int 0), σ)) := rfl
theorem xx_zret1 {C : rb_C} {o : Nat} {ini : Bool} {pc : Nat} {ls : rb_L} {σ : rb_S} : rb_nxt C o ini (some .boolean) (.ok (.ireturn, 1)) pc ls [.int 1] σ = some (.inr (some (.int 1), σ)) := rfl
theorem xx_lret {C : rb_C} {o : Nat} {ini : Bool} {pc : Nat} {ls : rb_L} {σ : rb_S} {x : Int64} : rb_nxt C o ini (some .long) (.ok (.lreturn, 1)) pc ls [.long x] σ = some (.inr (some (.long x), σ)) := rfl
theorem xx_aret {C : rb_C} {o : Nat} {ini : Bool} {pc : Nat} {ls : rb_L} {σ : rb_S} {x : Nat} {c : String} : rb_nxt C o ini (some (.object c)) (.ok (.areturn, 1)) pc ls [.ref x] σ = some (.inr (some (.ref x), σ)) := rfl
theorem xx_vret {C : rb_C} {o : Nat} {ini : Bool} {pc : Nat} {ls : rb_L} {σ : rb_S} : rb_nxt C o ini none (.ok (.return_, 1)) pc ls [] σ = some (.inr (none, σ)) := rfl
theorem zz_I {v : Int32} {p : Nat} {k : Option Nat} {pc : Nat} {ls : rb_L} {st : List Value} {σ : rb_S} : rb_zI (some (v, p)) k pc ls st σ = some (.inl (pc + 2, ls, .int v :: st, σ)) := rfl
theorem zz_S {k : Nat} {pc : Nat} {ls : rb_L} {st : List Value} {σ : rb_S} : rb_zI none (some k) pc ls st σ = some (.inl (pc + 2, ls, .ref k :: st, σ)) := rfl
theorem zz_J {v : Int64} {p : Nat} {pc : Nat} {ls : rb_L} {st : List Value} {σ : rb_S} : rb_zJ (some (v, p)) pc ls st σ = some (.inl (pc + 3, ls, .long v :: st, σ)) := rfl
theorem zz_v {v : Value} {pc : Nat} {ls : rb_L} {st : List Value} {σ : rb_S} : rb_zv (some v) pc ls st σ = some (.inl (pc + 3, ls, v :: st, σ)) := rfl
theorem zz_f {ci k : Nat} {q : Bool × FieldType × Nat} {pc a : Nat} {ls : rb_L} {st : List Value} {σ : rb_S} : rb_zf (some (ci, k, q)) pc ls a st σ = rb_zg (σ.1 a) ci k pc ls st σ := rfl
theorem zz_q {ci k : Nat} {fin ini : Bool} {ty : FieldType} {p : Nat} {v : Value} {pc a : Nat} {ls : rb_L} {st : List Value} {σ : rb_S} : rb_zq (some (ci, k, fin, ty, p)) ini pc ls v a st σ = rb_zp (σ.1 a) ci k fin ini ty pc ls v a st σ := rfl
theorem zz_g {ci k pc : Nat} {fs : List Value} {ls : rb_L} {st : List Value} {σ : rb_S} : rb_zg (some (.inr (ci, fs))) ci k pc ls st σ = rb_zv fs[k]? pc ls st σ := if_pos rfl
theorem zz_p {ci k : Nat} {fin ini : Bool} {ty : FieldType} {v : Value} {pc a : Nat} {fs : List Value} {ls : rb_L} {st : List Value} {σ : rb_S} : rb_zp (some (.inr (ci, fs))) ci k fin ini ty pc ls v a st σ = if k < fs.length ∧ rb_tyok ty v = true ∧ (fin = false ∨ ini = true) then some (.inl (pc + 3, ls, st, rb_wr σ a (.inr (ci, fs.set k v)))) else none := if_pos rfl
theorem zz_yi {n : Nat} {g : Nat → Int32} {i : Int32} {pc : Nat} {ls : rb_L} {st : List Value} {σ : rb_S} : rb_yi (some (.inl (0, n, .inl g))) i pc ls st σ = if (0 = 0 ∨ 0 = 9) ∧ rb_in i n = true then some (.inl (pc + 1, ls, .int (g i.toNatClampNeg) :: st, σ)) else none := rfl
theorem zz_yx {n : Nat} {g : Nat → Int32} {i : Int32} {pc : Nat} {ls : rb_L} {st : List Value} {σ : rb_S} : rb_yi (some (.inl (9, n, .inl g))) i pc ls st σ = if (9 = 0 ∨ 9 = 9) ∧ rb_in i n = true then some (.inl (pc + 1, ls, .int (g i.toNatClampNeg) :: st, σ)) else none := rfl
theorem zz_yl {n : Nat} {g : Nat → Int64} {i : Int32} {pc : Nat} {ls : rb_L} {st : List Value} {σ : rb_S} : rb_yl (some (.inl (1, n, .inr (.inl g)))) i pc ls st σ = if rb_in i n = true then some (.inl (pc + 1, ls, .long (g i.toNatClampNeg) :: st, σ)) else none := rfl
theorem zz_ya {t n : Nat} {g : Nat → Option Nat} {i : Int32} {pc : Nat} {ls : rb_L} {st : List Value} {σ : rb_S} : rb_ya (some (.inl (t, n, .inr (.inr (.inr (.inr g)))))) i pc ls st σ = if (t = 2 ∨ t = 3) ∧ rb_in i n = true then some (.inl (pc + 1, ls, va_rf (g i.toNatClampNeg) :: st, σ)) else none := rfl
theorem zz_wi {n : Nat} {g : Nat → Int32} {x i : Int32} {a pc : Nat} {ls : rb_L} {st : List Value} {σ : rb_S} : rb_wi (some (.inl (0, n, .inl g))) x i a pc ls st σ = if 0 = 0 ∧ rb_in i n = true then some (.inl (pc + 1, ls, st, rb_wr σ a (.inl (0, n, .inl (upd g i.toNatClampNeg x))))) else none := rfl
theorem zz_wl {n : Nat} {g : Nat → Int64} {x : Int64} {i : Int32} {a pc : Nat} {ls : rb_L} {st : List Value} {σ : rb_S} : rb_wl (some (.inl (1, n, .inr (.inl g)))) x i a pc ls st σ = if rb_in i n = true then some (.inl (pc + 1, ls, st, rb_wr σ a (.inl (1, n, .inr (.inl (vp_updL g i.toNatClampNeg x)))))) else none := rfl
theorem zz_vi {t n : Nat} {g : Nat → Int32} {pc : Nat} {ls : rb_L} {st : List Value} {σ : rb_S} : rb_vn (some (.inl (t, n, .inl g))) pc ls st σ = if t = 0 ∨ t = 9 then some (.inl (pc + 1, ls, .int (Int32.ofNat n) :: st, σ)) else none := rfl
theorem zz_va {t n : Nat} {g : Nat → Option Nat} {pc : Nat} {ls : rb_L} {st : List Value} {σ : rb_S} : rb_vn (some (.inl (t, n, .inr (.inr (.inr (.inr g)))))) pc ls st σ = if t = 2 ∨ t = 3 then some (.inl (pc + 1, ls, .int (Int32.ofNat n) :: st, σ)) else none := rfl
theorem zz_un {ci : Nat} {q : Nat × Nat × Nat} {pc : Nat} {ls : rb_L} {st : List Value} {σ : rb_S} : rb_un (some (ci, q)) pc ls st σ = some (.inl (pc + 3, ls, .ref σ.2.1 :: st, rb_mk σ (.inr (ci, rb_def ci)) (rb_def ci).length)) := rfl
theorem zz_ua {tg p : Nat} {x : Int32} {pc : Nat} {ls : rb_L} {st : List Value} {σ : rb_S} : rb_ua (some (tg, p)) x pc ls st σ = if ¬ x < 0 ∧ x.toNatClampNeg ≤ 1000000 then some (.inl (pc + 3, ls, .ref σ.2.1 :: st, rb_mk σ (.inl (tg, x.toNatClampNeg, .inr (.inr (.inr (.inr fun _ => none))))) x.toNatClampNeg)) else none := rfl
theorem zz_c0 {mi n ci : Nat} {q : Nat × Nat × Nat} {C : rb_C} {pc : Nat} {ls : rb_L} {st : List Value} {σ : rb_S} : rb_ivk C (some (0, mi, n, ci, q)) 0 3 pc ls st σ = if n ≤ st.length ∧ rb_cat (st.drop n) = true then rb_ret C mi pc ls (st.take n).reverse (st.drop n) σ else none := rfl
theorem zz_c3 {mi n ci : Nat} {q : Nat × Nat × Nat} {C : rb_C} {pc : Nat} {ls : rb_L} {st : List Value} {σ : rb_S} : rb_ivk C (some (3, mi, n, ci, q)) 0 3 pc ls st σ = if n ≤ st.length ∧ rb_cat (st.drop n) = true then rb_ret C mi pc ls (st.take n).reverse (st.drop n) σ else none := rfl
theorem zz_c1 {mi n ci : Nat} {q : Nat × Nat × Nat} {C : rb_C} {pc : Nat} {ls : rb_L} {st : List Value} {σ : rb_S} : rb_ivk C (some (1, mi, n, ci, q)) 1 3 pc ls st σ = if n ≤ st.length ∧ rb_cat (st.drop n) = true ∧ rb_isR σ ci (st.take n).reverse = true then rb_ret C mi pc ls (st.take n).reverse (st.drop n) σ else none := rfl
theorem zz_c2 {mi n ci : Nat} {q : Nat × Nat × Nat} {C : rb_C} {pc : Nat} {ls : rb_L} {st : List Value} {σ : rb_S} : rb_ivk C (some (2, mi, n, ci, q)) 2 3 pc ls st σ = if n ≤ st.length ∧ rb_cat (st.drop n) = true ∧ rb_isR σ ci (st.take n).reverse = true then rb_ret C mi pc ls (st.take n).reverse (st.drop n) σ else none := rfl
theorem zz_c5 {mi n ci : Nat} {q : Nat × Nat × Nat} {C : rb_C} {pc : Nat} {ls : rb_L} {st : List Value} {σ : rb_S} : rb_ivk C (some (5, mi, n, ci, q)) 2 3 pc ls st σ = if n ≤ st.length ∧ rb_cat (st.drop n) = true ∧ rb_isR σ ci (st.take n).reverse = true then rb_ret C mi pc ls (st.take n).reverse (st.drop n) σ else none := rfl
theorem zz_c8 {mi n ci : Nat} {q : Nat × Nat × Nat} {C : rb_C} {pc : Nat} {ls : rb_L} {st : List Value} {σ : rb_S} : rb_ivk C (some (8, mi, n, ci, q)) 1 3 pc ls st σ = if n ≤ st.length ∧ rb_cat (st.drop n) = true ∧ rb_isS (st.take n).reverse = true then rb_ret C mi pc ls (st.take n).reverse (st.drop n) σ else none := rfl
theorem zz_c6 {a mi n ci : Nat} {q : Nat × Nat × Nat} {C : rb_C} {pc : Nat} {ls : rb_L} {st : List Value} {σ : rb_S} : rb_ivk C (some (6, mi, n, ci, q)) 2 3 pc ls (.ref a :: st) σ = if rb_cat st = true then some (.inl (pc + 3, ls, st, σ)) else none := rfl
theorem zz_R {C : rb_C} {mi pc : Nat} {ls : rb_L} {As rest : List Value} {σ : rb_S} : rb_ret C mi pc ls As rest σ = match C mi As σ with | some (r, σ2) => some (.inl (pc + 3, ls, r.toList ++ rest, σ2)) | none => none := rfl
theorem zz_jp {pc t : Nat} {off : Int} {ls : rb_L} {st : List Value} {σ : rb_S} (h : (pc : Int) + off = (t : Int)) : rb_jp pc off ls st σ = some (.inl (t, ls, st, σ)) := by
  unfold rb_jp
  rw [h, if_pos (Int.natCast_nonneg t), Int.toNat_natCast]
theorem zz_invi {x : Int32} : rb_inv (some (.int x)) = some (.int x) := rfl
theorem zz_invr {x : Nat} : rb_inv (some (.ref x)) = some (.ref x) := rfl
theorem zz_invz : rb_inv (some .null) = some .null := rfl
theorem zz_invn : rb_inv (none) = none := rfl
theorem zz_invl {x : Int64} : rb_inv (some (.long x)) = none := rfl
theorem zz_ti {x : Int32} : rb_tyok .int (.int x) = true := rfl
theorem zz_tl {x : Int64} : rb_tyok .long (.long x) = true := rfl
theorem zz_t0 : rb_tyok .boolean (.int 0) = true := rfl
theorem zz_t1 : rb_tyok .boolean (.int 1) = true := rfl
theorem zz_to {c : String} {x : Nat} : rb_tyok (.object c) (.ref x) = true := rfl
theorem zz_ta {c : FieldType} {x : Nat} : rb_tyok (.array c) (.ref x) = true := rfl
theorem st_0 {C : rb_C} {pc : Nat} {ls : rb_L} {st : List Value} {σ : rb_S} : rb_stp C rb_m0 (pc, ls, st, σ) = rb_nxt C 0 true none (decode cX0_init pc) pc ls st σ := rfl
theorem en_0 {d k : Nat} {As : List Value} {ls : rb_L} {σ : rb_S} (h : rb_ent 2 As = some ls) : rb_R (d + 1) 0 As σ = rb_gg (rb_stp (rb_R d) rb_m0) k (0, ls, [], σ) := by
  have e : rb_prog[0]? = some rb_m0 := rfl
  have h2 : rb_ent rb_m0.2.2.2.1 As = some ls := h
  simp only [rb_R, e, h2]
  rfl
theorem st_1 {C : rb_C} {pc : Nat} {ls : rb_L} {st : List Value} {σ : rb_S} : rb_stp C rb_m1 (pc, ls, st, σ) = rb_nxt C 0 false (some .int) (decode cX0_size pc) pc ls st σ := rfl
theorem en_1 {d k : Nat} {As : List Value} {ls : rb_L} {σ : rb_S} (h : rb_ent 1 As = some ls) : rb_R (d + 1) 1 As σ = rb_gg (rb_stp (rb_R d) rb_m1) k (0, ls, [], σ) := by
  have e : rb_prog[1]? = some rb_m1 := rfl
  have h2 : rb_ent rb_m1.2.2.2.1 As = some ls := h
  simp only [rb_R, e, h2]
  rfl
theorem st_2 {C : rb_C} {pc : Nat} {ls : rb_L} {st : List Value} {σ : rb_S} : rb_stp C rb_m2 (pc, ls, st, σ) = rb_nxt C 0 false (some .boolean) (decode cX0_isEmpty pc) pc ls st σ := rfl
theorem en_2 {d k : Nat} {As : List Value} {ls : rb_L} {σ : rb_S} (h : rb_ent 1 As = some ls) : rb_R (d + 1) 2 As σ = rb_gg (rb_stp (rb_R d) rb_m2) k (0, ls, [], σ) := by
  have e : rb_prog[2]? = some rb_m2 := rfl
  have h2 : rb_ent rb_m2.2.2.2.1 As = some ls := h
  simp only [rb_R, e, h2]
  rfl
theorem st_3 {C : rb_C} {pc : Nat} {ls : rb_L} {st : List Value} {σ : rb_S} : rb_stp C rb_m3 (pc, ls, st, σ) = rb_nxt C 0 false (some .boolean) (decode cX0_isFull pc) pc ls st σ := rfl
theorem en_3 {d k : Nat} {As : List Value} {ls : rb_L} {σ : rb_S} (h : rb_ent 1 As = some ls) : rb_R (d + 1) 3 As σ = rb_gg (rb_stp (rb_R d) rb_m3) k (0, ls, [], σ) := by
  have e : rb_prog[3]? = some rb_m3 := rfl
  have h2 : rb_ent rb_m3.2.2.2.1 As = some ls := h
  simp only [rb_R, e, h2]
  rfl
theorem st_4 {C : rb_C} {pc : Nat} {ls : rb_L} {st : List Value} {σ : rb_S} : rb_stp C rb_m4 (pc, ls, st, σ) = rb_nxt C 0 false (some .boolean) (decode cX0_has pc) pc ls st σ := rfl
theorem en_4 {d k : Nat} {As : List Value} {ls : rb_L} {σ : rb_S} (h : rb_ent 2 As = some ls) : rb_R (d + 1) 4 As σ = rb_gg (rb_stp (rb_R d) rb_m4) k (0, ls, [], σ) := by
  have e : rb_prog[4]? = some rb_m4 := rfl
  have h2 : rb_ent rb_m4.2.2.2.1 As = some ls := h
  simp only [rb_R, e, h2]
  rfl
theorem st_5 {C : rb_C} {pc : Nat} {ls : rb_L} {st : List Value} {σ : rb_S} : rb_stp C rb_m5 (pc, ls, st, σ) = rb_nxt C 0 false none (decode cX0_clear pc) pc ls st σ := rfl
theorem en_5 {d k : Nat} {As : List Value} {ls : rb_L} {σ : rb_S} (h : rb_ent 1 As = some ls) : rb_R (d + 1) 5 As σ = rb_gg (rb_stp (rb_R d) rb_m5) k (0, ls, [], σ) := by
  have e : rb_prog[5]? = some rb_m5 := rfl
  have h2 : rb_ent rb_m5.2.2.2.1 As = some ls := h
  simp only [rb_R, e, h2]
  rfl
theorem st_6 {C : rb_C} {pc : Nat} {ls : rb_L} {st : List Value} {σ : rb_S} : rb_stp C rb_m6 (pc, ls, st, σ) = rb_nxt C 0 false (some .int) (decode cX0_end pc) pc ls st σ := rfl
theorem en_6 {d k : Nat} {As : List Value} {ls : rb_L} {σ : rb_S} (h : rb_ent 3 As = some ls) : rb_R (d + 1) 6 As σ = rb_gg (rb_stp (rb_R d) rb_m6) k (0, ls, [], σ) := by
  have e : rb_prog[6]? = some rb_m6 := rfl
  have h2 : rb_ent rb_m6.2.2.2.1 As = some ls := h
  simp only [rb_R, e, h2]
  rfl
theorem st_7 {C : rb_C} {pc : Nat} {ls : rb_L} {st : List Value} {σ : rb_S} : rb_stp C rb_m7 (pc, ls, st, σ) = rb_nxt C 0 false none (decode cX0_add pc) pc ls st σ := rfl
theorem en_7 {d k : Nat} {As : List Value} {ls : rb_L} {σ : rb_S} (h : rb_ent 6 As = some ls) : rb_R (d + 1) 7 As σ = rb_gg (rb_stp (rb_R d) rb_m7) k (0, ls, [], σ) := by
  have e : rb_prog[7]? = some rb_m7 := rfl
  have h2 : rb_ent rb_m7.2.2.2.1 As = some ls := h
  simp only [rb_R, e, h2]
  rfl
theorem st_8 {C : rb_C} {pc : Nat} {ls : rb_L} {st : List Value} {σ : rb_S} : rb_stp C rb_m8 (pc, ls, st, σ) = rb_nxt C 0 false none (decode cX0_addSpans pc) pc ls st σ := rfl
theorem en_8 {d k : Nat} {As : List Value} {ls : rb_L} {σ : rb_S} (h : rb_ent 3 As = some ls) : rb_R (d + 1) 8 As σ = rb_gg (rb_stp (rb_R d) rb_m8) k (0, ls, [], σ) := by
  have e : rb_prog[8]? = some rb_m8 := rfl
  have h2 : rb_ent rb_m8.2.2.2.1 As = some ls := h
  simp only [rb_R, e, h2]
  rfl
theorem st_9 {C : rb_C} {pc : Nat} {ls : rb_L} {st : List Value} {σ : rb_S} : rb_stp C rb_m9 (pc, ls, st, σ) = rb_nxt C 0 false none (decode cX0_addInOrder pc) pc ls st σ := rfl
theorem en_9 {d k : Nat} {As : List Value} {ls : rb_L} {σ : rb_S} (h : rb_ent 4 As = some ls) : rb_R (d + 1) 9 As σ = rb_gg (rb_stp (rb_R d) rb_m9) k (0, ls, [], σ) := by
  have e : rb_prog[9]? = some rb_m9 := rfl
  have h2 : rb_ent rb_m9.2.2.2.1 As = some ls := h
  simp only [rb_R, e, h2]
  rfl
theorem st_10 {C : rb_C} {pc : Nat} {ls : rb_L} {st : List Value} {σ : rb_S} : rb_stp C rb_m10 (pc, ls, st, σ) = rb_nxt C 0 false none (decode cX0_removeUnordered pc) pc ls st σ := rfl
theorem en_10 {d k : Nat} {As : List Value} {ls : rb_L} {σ : rb_S} (h : rb_ent 2 As = some ls) : rb_R (d + 1) 10 As σ = rb_gg (rb_stp (rb_R d) rb_m10) k (0, ls, [], σ) := by
  have e : rb_prog[10]? = some rb_m10 := rfl
  have h2 : rb_ent rb_m10.2.2.2.1 As = some ls := h
  simp only [rb_R, e, h2]
  rfl
theorem st_11 {C : rb_C} {pc : Nat} {ls : rb_L} {st : List Value} {σ : rb_S} : rb_stp C rb_m11 (pc, ls, st, σ) = rb_nxt C 0 false none (decode cX0_copyFrom pc) pc ls st σ := rfl
theorem en_11 {d k : Nat} {As : List Value} {ls : rb_L} {σ : rb_S} (h : rb_ent 2 As = some ls) : rb_R (d + 1) 11 As σ = rb_gg (rb_stp (rb_R d) rb_m11) k (0, ls, [], σ) := by
  have e : rb_prog[11]? = some rb_m11 := rfl
  have h2 : rb_ent rb_m11.2.2.2.1 As = some ls := h
  simp only [rb_R, e, h2]
  rfl
theorem st_12 {C : rb_C} {pc : Nat} {ls : rb_L} {st : List Value} {σ : rb_S} : rb_stp C rb_m12 (pc, ls, st, σ) = rb_nxt C 0 false (some .int) (decode cX0_greaterWidth pc) pc ls st σ := rfl
theorem en_12 {d k : Nat} {As : List Value} {ls : rb_L} {σ : rb_S} (h : rb_ent 2 As = some ls) : rb_R (d + 1) 12 As σ = rb_gg (rb_stp (rb_R d) rb_m12) k (0, ls, [], σ) := by
  have e : rb_prog[12]? = some rb_m12 := rfl
  have h2 : rb_ent rb_m12.2.2.2.1 As = some ls := h
  simp only [rb_R, e, h2]
  rfl
theorem st_13 {C : rb_C} {pc : Nat} {ls : rb_L} {st : List Value} {σ : rb_S} : rb_stp C rb_m13 (pc, ls, st, σ) = rb_nxt C 0 false (some .int) (decode cX0_widest pc) pc ls st σ := rfl
theorem en_13 {d k : Nat} {As : List Value} {ls : rb_L} {σ : rb_S} (h : rb_ent 4 As = some ls) : rb_R (d + 1) 13 As σ = rb_gg (rb_stp (rb_R d) rb_m13) k (0, ls, [], σ) := by
  have e : rb_prog[13]? = some rb_m13 := rfl
  have h2 : rb_ent rb_m13.2.2.2.1 As = some ls := h
  simp only [rb_R, e, h2]
  rfl
theorem st_14 {C : rb_C} {pc : Nat} {ls : rb_L} {st : List Value} {σ : rb_S} : rb_stp C rb_m14 (pc, ls, st, σ) = rb_nxt C 0 false (some .boolean) (decode cX0_holds pc) pc ls st σ := rfl
theorem en_14 {d k : Nat} {As : List Value} {ls : rb_L} {σ : rb_S} (h : rb_ent 4 As = some ls) : rb_R (d + 1) 14 As σ = rb_gg (rb_stp (rb_R d) rb_m14) k (0, ls, [], σ) := by
  have e : rb_prog[14]? = some rb_m14 := rfl
  have h2 : rb_ent rb_m14.2.2.2.1 As = some ls := h
  simp only [rb_R, e, h2]
  rfl
theorem st_15 {C : rb_C} {pc : Nat} {ls : rb_L} {st : List Value} {σ : rb_S} : rb_stp C rb_m15 (pc, ls, st, σ) = rb_nxt C 0 false (some .boolean) (decode cX0_anyHolds pc) pc ls st σ := rfl
theorem en_15 {d k : Nat} {As : List Value} {ls : rb_L} {σ : rb_S} (h : rb_ent 4 As = some ls) : rb_R (d + 1) 15 As σ = rb_gg (rb_stp (rb_R d) rb_m15) k (0, ls, [], σ) := by
  have e : rb_prog[15]? = some rb_m15 := rfl
  have h2 : rb_ent rb_m15.2.2.2.1 As = some ls := h
  simp only [rb_R, e, h2]
  rfl
theorem st_16 {C : rb_C} {pc : Nat} {ls : rb_L} {st : List Value} {σ : rb_S} : rb_stp C rb_m16 (pc, ls, st, σ) = rb_nxt C 0 false (some .int) (decode cX0_widthsOfX pc) pc ls st σ := rfl
theorem en_16 {d k : Nat} {As : List Value} {ls : rb_L} {σ : rb_S} (h : rb_ent 3 As = some ls) : rb_R (d + 1) 16 As σ = rb_gg (rb_stp (rb_R d) rb_m16) k (0, ls, [], σ) := by
  have e : rb_prog[16]? = some rb_m16 := rfl
  have h2 : rb_ent rb_m16.2.2.2.1 As = some ls := h
  simp only [rb_R, e, h2]
  rfl
theorem st_17 {C : rb_C} {pc : Nat} {ls : rb_L} {st : List Value} {σ : rb_S} : rb_stp C rb_m17 (pc, ls, st, σ) = rb_nxt C 0 false (some .int) (decode cX0_compare pc) pc ls st σ := rfl
theorem en_17 {d k : Nat} {As : List Value} {ls : rb_L} {σ : rb_S} (h : rb_ent 4 As = some ls) : rb_R (d + 1) 17 As σ = rb_gg (rb_stp (rb_R d) rb_m17) k (0, ls, [], σ) := by
  have e : rb_prog[17]? = some rb_m17 := rfl
  have h2 : rb_ent rb_m17.2.2.2.1 As = some ls := h
  simp only [rb_R, e, h2]
  rfl
theorem st_18 {C : rb_C} {pc : Nat} {ls : rb_L} {st : List Value} {σ : rb_S} : rb_stp C rb_m18 (pc, ls, st, σ) = rb_nxt C 0 false none (decode cX0_swap pc) pc ls st σ := rfl
theorem en_18 {d k : Nat} {As : List Value} {ls : rb_L} {σ : rb_S} (h : rb_ent 5 As = some ls) : rb_R (d + 1) 18 As σ = rb_gg (rb_stp (rb_R d) rb_m18) k (0, ls, [], σ) := by
  have e : rb_prog[18]? = some rb_m18 := rfl
  have h2 : rb_ent rb_m18.2.2.2.1 As = some ls := h
  simp only [rb_R, e, h2]
  rfl
theorem st_19 {C : rb_C} {pc : Nat} {ls : rb_L} {st : List Value} {σ : rb_S} : rb_stp C rb_m19 (pc, ls, st, σ) = rb_nxt C 1 true none (decode cX1_init pc) pc ls st σ := rfl
theorem en_19 {d k : Nat} {As : List Value} {ls : rb_L} {σ : rb_S} (h : rb_ent 2 As = some ls) : rb_R (d + 1) 19 As σ = rb_gg (rb_stp (rb_R d) rb_m19) k (0, ls, [], σ) := by
  have e : rb_prog[19]? = some rb_m19 := rfl
  have h2 : rb_ent rb_m19.2.2.2.1 As = some ls := h
  simp only [rb_R, e, h2]
  rfl
theorem st_20 {C : rb_C} {pc : Nat} {ls : rb_L} {st : List Value} {σ : rb_S} : rb_stp C rb_m20 (pc, ls, st, σ) = rb_nxt C 1 false none (decode cX1_fill pc) pc ls st σ := rfl
theorem en_20 {d k : Nat} {As : List Value} {ls : rb_L} {σ : rb_S} (h : rb_ent 5 As = some ls) : rb_R (d + 1) 20 As σ = rb_gg (rb_stp (rb_R d) rb_m20) k (0, ls, [], σ) := by
  have e : rb_prog[20]? = some rb_m20 := rfl
  have h2 : rb_ent rb_m20.2.2.2.1 As = some ls := h
  simp only [rb_R, e, h2]
  rfl
theorem st_21 {C : rb_C} {pc : Nat} {ls : rb_L} {st : List Value} {σ : rb_S} : rb_stp C rb_m21 (pc, ls, st, σ) = rb_nxt C 1 false (some (.object "RootBoxes$Span")) (decode cX1_at pc) pc ls st σ := rfl
theorem en_21 {d k : Nat} {As : List Value} {ls : rb_L} {σ : rb_S} (h : rb_ent 3 As = some ls) : rb_R (d + 1) 21 As σ = rb_gg (rb_stp (rb_R d) rb_m21) k (0, ls, [], σ) := by
  have e : rb_prog[21]? = some rb_m21 := rfl
  have h2 : rb_ent rb_m21.2.2.2.1 As = some ls := h
  simp only [rb_R, e, h2]
  rfl
theorem st_22 {C : rb_C} {pc : Nat} {ls : rb_L} {st : List Value} {σ : rb_S} : rb_stp C rb_m22 (pc, ls, st, σ) = rb_nxt C 2 true none (decode cX2_init pc) pc ls st σ := rfl
theorem en_22 {d k : Nat} {As : List Value} {ls : rb_L} {σ : rb_S} (h : rb_ent 1 As = some ls) : rb_R (d + 1) 22 As σ = rb_gg (rb_stp (rb_R d) rb_m22) k (0, ls, [], σ) := by
  have e : rb_prog[22]? = some rb_m22 := rfl
  have h2 : rb_ent rb_m22.2.2.2.1 As = some ls := h
  simp only [rb_R, e, h2]
  rfl
theorem st_23 {C : rb_C} {pc : Nat} {ls : rb_L} {st : List Value} {σ : rb_S} : rb_stp C rb_m23 (pc, ls, st, σ) = rb_nxt C 2 false none (decode cX2_lookAt pc) pc ls st σ := rfl
theorem en_23 {d k : Nat} {As : List Value} {ls : rb_L} {σ : rb_S} (h : rb_ent 3 As = some ls) : rb_R (d + 1) 23 As σ = rb_gg (rb_stp (rb_R d) rb_m23) k (0, ls, [], σ) := by
  have e : rb_prog[23]? = some rb_m23 := rfl
  have h2 : rb_ent rb_m23.2.2.2.1 As = some ls := h
  simp only [rb_R, e, h2]
  rfl
theorem st_24 {C : rb_C} {pc : Nat} {ls : rb_L} {st : List Value} {σ : rb_S} : rb_stp C rb_m24 (pc, ls, st, σ) = rb_nxt C 2 false (some (.object "RootBoxes$Span")) (decode cX2_boxX pc) pc ls st σ := rfl
theorem en_24 {d k : Nat} {As : List Value} {ls : rb_L} {σ : rb_S} (h : rb_ent 1 As = some ls) : rb_R (d + 1) 24 As σ = rb_gg (rb_stp (rb_R d) rb_m24) k (0, ls, [], σ) := by
  have e : rb_prog[24]? = some rb_m24 := rfl
  have h2 : rb_ent rb_m24.2.2.2.1 As = some ls := h
  simp only [rb_R, e, h2]
  rfl
theorem st_25 {C : rb_C} {pc : Nat} {ls : rb_L} {st : List Value} {σ : rb_S} : rb_stp C rb_m25 (pc, ls, st, σ) = rb_nxt C 2 false (some (.object "RootBoxes$Span")) (decode cX2_boxY pc) pc ls st σ := rfl
theorem en_25 {d k : Nat} {As : List Value} {ls : rb_L} {σ : rb_S} (h : rb_ent 1 As = some ls) : rb_R (d + 1) 25 As σ = rb_gg (rb_stp (rb_R d) rb_m25) k (0, ls, [], σ) := by
  have e : rb_prog[25]? = some rb_m25 := rfl
  have h2 : rb_ent rb_m25.2.2.2.1 As = some ls := h
  simp only [rb_R, e, h2]
  rfl
theorem st_26 {C : rb_C} {pc : Nat} {ls : rb_L} {st : List Value} {σ : rb_S} : rb_stp C rb_m26 (pc, ls, st, σ) = rb_nxt C 2 false (some (.object "RootBoxes$Span")) (decode cX2_steepness pc) pc ls st σ := rfl
theorem en_26 {d k : Nat} {As : List Value} {ls : rb_L} {σ : rb_S} (h : rb_ent 1 As = some ls) : rb_R (d + 1) 26 As σ = rb_gg (rb_stp (rb_R d) rb_m26) k (0, ls, [], σ) := by
  have e : rb_prog[26]? = some rb_m26 := rfl
  have h2 : rb_ent rb_m26.2.2.2.1 As = some ls := h
  simp only [rb_R, e, h2]
  rfl
theorem st_27 {C : rb_C} {pc : Nat} {ls : rb_L} {st : List Value} {σ : rb_S} : rb_stp C rb_m27 (pc, ls, st, σ) = rb_nxt C 2 false (some (.object "RootBoxes$Span")) (decode cX2_fenceX pc) pc ls st σ := rfl
theorem en_27 {d k : Nat} {As : List Value} {ls : rb_L} {σ : rb_S} (h : rb_ent 1 As = some ls) : rb_R (d + 1) 27 As σ = rb_gg (rb_stp (rb_R d) rb_m27) k (0, ls, [], σ) := by
  have e : rb_prog[27]? = some rb_m27 := rfl
  have h2 : rb_ent rb_m27.2.2.2.1 As = some ls := h
  simp only [rb_R, e, h2]
  rfl
theorem st_28 {C : rb_C} {pc : Nat} {ls : rb_L} {st : List Value} {σ : rb_S} : rb_stp C rb_m28 (pc, ls, st, σ) = rb_nxt C 2 false (some (.object "RootBoxes$Span")) (decode cX2_fenceY pc) pc ls st σ := rfl
theorem en_28 {d k : Nat} {As : List Value} {ls : rb_L} {σ : rb_S} (h : rb_ent 1 As = some ls) : rb_R (d + 1) 28 As σ = rb_gg (rb_stp (rb_R d) rb_m28) k (0, ls, [], σ) := by
  have e : rb_prog[28]? = some rb_m28 := rfl
  have h2 : rb_ent rb_m28.2.2.2.1 As = some ls := h
  simp only [rb_R, e, h2]
  rfl
theorem st_29 {C : rb_C} {pc : Nat} {ls : rb_L} {st : List Value} {σ : rb_S} : rb_stp C rb_m29 (pc, ls, st, σ) = rb_nxt C 2 false (some (.object "RootBoxes$Span")) (decode cX2_sharedX pc) pc ls st σ := rfl
theorem en_29 {d k : Nat} {As : List Value} {ls : rb_L} {σ : rb_S} (h : rb_ent 1 As = some ls) : rb_R (d + 1) 29 As σ = rb_gg (rb_stp (rb_R d) rb_m29) k (0, ls, [], σ) := by
  have e : rb_prog[29]? = some rb_m29 := rfl
  have h2 : rb_ent rb_m29.2.2.2.1 As = some ls := h
  simp only [rb_R, e, h2]
  rfl
theorem st_30 {C : rb_C} {pc : Nat} {ls : rb_L} {st : List Value} {σ : rb_S} : rb_stp C rb_m30 (pc, ls, st, σ) = rb_nxt C 2 false (some (.object "RootBoxes$Span")) (decode cX2_sharedY pc) pc ls st σ := rfl
theorem en_30 {d k : Nat} {As : List Value} {ls : rb_L} {σ : rb_S} (h : rb_ent 1 As = some ls) : rb_R (d + 1) 30 As σ = rb_gg (rb_stp (rb_R d) rb_m30) k (0, ls, [], σ) := by
  have e : rb_prog[30]? = some rb_m30 := rfl
  have h2 : rb_ent rb_m30.2.2.2.1 As = some ls := h
  simp only [rb_R, e, h2]
  rfl
theorem st_31 {C : rb_C} {pc : Nat} {ls : rb_L} {st : List Value} {σ : rb_S} : rb_stp C rb_m31 (pc, ls, st, σ) = rb_nxt C 2 false (some (.object "RootBoxes$Span")) (decode cX2_valueOf pc) pc ls st σ := rfl
theorem en_31 {d k : Nat} {As : List Value} {ls : rb_L} {σ : rb_S} (h : rb_ent 2 As = some ls) : rb_R (d + 1) 31 As σ = rb_gg (rb_stp (rb_R d) rb_m31) k (0, ls, [], σ) := by
  have e : rb_prog[31]? = some rb_m31 := rfl
  have h2 : rb_ent rb_m31.2.2.2.1 As = some ls := h
  simp only [rb_R, e, h2]
  rfl
theorem st_32 {C : rb_C} {pc : Nat} {ls : rb_L} {st : List Value} {σ : rb_S} : rb_stp C rb_m32 (pc, ls, st, σ) = rb_nxt C 2 false (some (.object "RootBoxes$Span")) (decode cX2_slopeOf pc) pc ls st σ := rfl
theorem en_32 {d k : Nat} {As : List Value} {ls : rb_L} {σ : rb_S} (h : rb_ent 3 As = some ls) : rb_R (d + 1) 32 As σ = rb_gg (rb_stp (rb_R d) rb_m32) k (0, ls, [], σ) := by
  have e : rb_prog[32]? = some rb_m32 := rfl
  have h2 : rb_ent rb_m32.2.2.2.1 As = some ls := h
  simp only [rb_R, e, h2]
  rfl
theorem st_33 {C : rb_C} {pc : Nat} {ls : rb_L} {st : List Value} {σ : rb_S} : rb_stp C rb_m33 (pc, ls, st, σ) = rb_nxt C 2 false (some .int) (decode cX2_judge pc) pc ls st σ := rfl
theorem en_33 {d k : Nat} {As : List Value} {ls : rb_L} {σ : rb_S} (h : rb_ent 7 As = some ls) : rb_R (d + 1) 33 As σ = rb_gg (rb_stp (rb_R d) rb_m33) k (0, ls, [], σ) := by
  have e : rb_prog[33]? = some rb_m33 := rfl
  have h2 : rb_ent rb_m33.2.2.2.1 As = some ls := h
  simp only [rb_R, e, h2]
  rfl
theorem st_34 {C : rb_C} {pc : Nat} {ls : rb_L} {st : List Value} {σ : rb_S} : rb_stp C rb_m34 (pc, ls, st, σ) = rb_nxt C 2 false (some .boolean) (decode cX2_findFence pc) pc ls st σ := rfl
theorem en_34 {d k : Nat} {As : List Value} {ls : rb_L} {σ : rb_S} (h : rb_ent 3 As = some ls) : rb_R (d + 1) 34 As σ = rb_gg (rb_stp (rb_R d) rb_m34) k (0, ls, [], σ) := by
  have e : rb_prog[34]? = some rb_m34 := rfl
  have h2 : rb_ent rb_m34.2.2.2.1 As = some ls := h
  simp only [rb_R, e, h2]
  rfl
theorem st_35 {C : rb_C} {pc : Nat} {ls : rb_L} {st : List Value} {σ : rb_S} : rb_stp C rb_m35 (pc, ls, st, σ) = rb_nxt C 2 false none (decode cX2_valueInto pc) pc ls st σ := rfl
theorem en_35 {d k : Nat} {As : List Value} {ls : rb_L} {σ : rb_S} (h : rb_ent 6 As = some ls) : rb_R (d + 1) 35 As σ = rb_gg (rb_stp (rb_R d) rb_m35) k (0, ls, [], σ) := by
  have e : rb_prog[35]? = some rb_m35 := rfl
  have h2 : rb_ent rb_m35.2.2.2.1 As = some ls := h
  simp only [rb_R, e, h2]
  rfl
theorem st_36 {C : rb_C} {pc : Nat} {ls : rb_L} {st : List Value} {σ : rb_S} : rb_stp C rb_m36 (pc, ls, st, σ) = rb_nxt C 2 false none (decode cX2_slopeInto pc) pc ls st σ := rfl
theorem en_36 {d k : Nat} {As : List Value} {ls : rb_L} {σ : rb_S} (h : rb_ent 7 As = some ls) : rb_R (d + 1) 36 As σ = rb_gg (rb_stp (rb_R d) rb_m36) k (0, ls, [], σ) := by
  have e : rb_prog[36]? = some rb_m36 := rfl
  have h2 : rb_ent rb_m36.2.2.2.1 As = some ls := h
  simp only [rb_R, e, h2]
  rfl
theorem st_37 {C : rb_C} {pc : Nat} {ls : rb_L} {st : List Value} {σ : rb_S} : rb_stp C rb_m37 (pc, ls, st, σ) = rb_nxt C 2 false none (decode cX2_crossInto pc) pc ls st σ := rfl
theorem en_37 {d k : Nat} {As : List Value} {ls : rb_L} {σ : rb_S} (h : rb_ent 6 As = some ls) : rb_R (d + 1) 37 As σ = rb_gg (rb_stp (rb_R d) rb_m37) k (0, ls, [], σ) := by
  have e : rb_prog[37]? = some rb_m37 := rfl
  have h2 : rb_ent rb_m37.2.2.2.1 As = some ls := h
  simp only [rb_R, e, h2]
  rfl
theorem st_38 {C : rb_C} {pc : Nat} {ls : rb_L} {st : List Value} {σ : rb_S} : rb_stp C rb_m38 (pc, ls, st, σ) = rb_nxt C 3 true none (decode cX3_init pc) pc ls st σ := rfl
theorem en_38 {d k : Nat} {As : List Value} {ls : rb_L} {σ : rb_S} (h : rb_ent 1 As = some ls) : rb_R (d + 1) 38 As σ = rb_gg (rb_stp (rb_R d) rb_m38) k (0, ls, [], σ) := by
  have e : rb_prog[38]? = some rb_m38 := rfl
  have h2 : rb_ent rb_m38.2.2.2.1 As = some ls := h
  simp only [rb_R, e, h2]
  rfl
theorem st_39 {C : rb_C} {pc : Nat} {ls : rb_L} {st : List Value} {σ : rb_S} : rb_stp C rb_m39 (pc, ls, st, σ) = rb_nxt C 3 false (some .int) (decode cX3_at pc) pc ls st σ := rfl
theorem en_39 {d k : Nat} {As : List Value} {ls : rb_L} {σ : rb_S} (h : rb_ent 3 As = some ls) : rb_R (d + 1) 39 As σ = rb_gg (rb_stp (rb_R d) rb_m39) k (0, ls, [], σ) := by
  have e : rb_prog[39]? = some rb_m39 := rfl
  have h2 : rb_ent rb_m39.2.2.2.1 As = some ls := h
  simp only [rb_R, e, h2]
  rfl
theorem st_40 {C : rb_C} {pc : Nat} {ls : rb_L} {st : List Value} {σ : rb_S} : rb_stp C rb_m40 (pc, ls, st, σ) = rb_nxt C 3 false none (decode cX3_change pc) pc ls st σ := rfl
theorem en_40 {d k : Nat} {As : List Value} {ls : rb_L} {σ : rb_S} (h : rb_ent 4 As = some ls) : rb_R (d + 1) 40 As σ = rb_gg (rb_stp (rb_R d) rb_m40) k (0, ls, [], σ) := by
  have e : rb_prog[40]? = some rb_m40 := rfl
  have h2 : rb_ent rb_m40.2.2.2.1 As = some ls := h
  simp only [rb_R, e, h2]
  rfl
theorem st_41 {C : rb_C} {pc : Nat} {ls : rb_L} {st : List Value} {σ : rb_S} : rb_stp C rb_m41 (pc, ls, st, σ) = rb_nxt C 3 false none (decode cX3_clear pc) pc ls st σ := rfl
theorem en_41 {d k : Nat} {As : List Value} {ls : rb_L} {σ : rb_S} (h : rb_ent 2 As = some ls) : rb_R (d + 1) 41 As σ = rb_gg (rb_stp (rb_R d) rb_m41) k (0, ls, [], σ) := by
  have e : rb_prog[41]? = some rb_m41 := rfl
  have h2 : rb_ent rb_m41.2.2.2.1 As = some ls := h
  simp only [rb_R, e, h2]
  rfl
theorem st_42 {C : rb_C} {pc : Nat} {ls : rb_L} {st : List Value} {σ : rb_S} : rb_stp C rb_m42 (pc, ls, st, σ) = rb_nxt C 3 false none (decode cX3_copyFrom pc) pc ls st σ := rfl
theorem en_42 {d k : Nat} {As : List Value} {ls : rb_L} {σ : rb_S} (h : rb_ent 3 As = some ls) : rb_R (d + 1) 42 As σ = rb_gg (rb_stp (rb_R d) rb_m42) k (0, ls, [], σ) := by
  have e : rb_prog[42]? = some rb_m42 := rfl
  have h2 : rb_ent rb_m42.2.2.2.1 As = some ls := h
  simp only [rb_R, e, h2]
  rfl
theorem st_43 {C : rb_C} {pc : Nat} {ls : rb_L} {st : List Value} {σ : rb_S} : rb_stp C rb_m43 (pc, ls, st, σ) = rb_nxt C 3 false (some .int) (decode cX3_termCount pc) pc ls st σ := rfl
theorem en_43 {d k : Nat} {As : List Value} {ls : rb_L} {σ : rb_S} (h : rb_ent 3 As = some ls) : rb_R (d + 1) 43 As σ = rb_gg (rb_stp (rb_R d) rb_m43) k (0, ls, [], σ) := by
  have e : rb_prog[43]? = some rb_m43 := rfl
  have h2 : rb_ent rb_m43.2.2.2.1 As = some ls := h
  simp only [rb_R, e, h2]
  rfl
theorem st_44 {C : rb_C} {pc : Nat} {ls : rb_L} {st : List Value} {σ : rb_S} : rb_stp C rb_m44 (pc, ls, st, σ) = rb_nxt C 3 false (some .int) (decode cX3_signAt pc) pc ls st σ := rfl
theorem en_44 {d k : Nat} {As : List Value} {ls : rb_L} {σ : rb_S} (h : rb_ent 7 As = some ls) : rb_R (d + 1) 44 As σ = rb_gg (rb_stp (rb_R d) rb_m44) k (0, ls, [], σ) := by
  have e : rb_prog[44]? = some rb_m44 := rfl
  have h2 : rb_ent rb_m44.2.2.2.1 As = some ls := h
  simp only [rb_R, e, h2]
  rfl
theorem st_45 {C : rb_C} {pc : Nat} {ls : rb_L} {st : List Value} {σ : rb_S} : rb_stp C rb_m45 (pc, ls, st, σ) = rb_nxt C 3 false (some .long) (decode cX3_power pc) pc ls st σ := rfl
theorem en_45 {d k : Nat} {As : List Value} {ls : rb_L} {σ : rb_S} (h : rb_ent 6 As = some ls) : rb_R (d + 1) 45 As σ = rb_gg (rb_stp (rb_R d) rb_m45) k (0, ls, [], σ) := by
  have e : rb_prog[45]? = some rb_m45 := rfl
  have h2 : rb_ent rb_m45.2.2.2.1 As = some ls := h
  simp only [rb_R, e, h2]
  rfl
theorem st_46 {C : rb_C} {pc : Nat} {ls : rb_L} {st : List Value} {σ : rb_S} : rb_stp C rb_m46 (pc, ls, st, σ) = rb_nxt C 4 true none (decode cX4_init pc) pc ls st σ := rfl
theorem en_46 {d k : Nat} {As : List Value} {ls : rb_L} {σ : rb_S} (h : rb_ent 2 As = some ls) : rb_R (d + 1) 46 As σ = rb_gg (rb_stp (rb_R d) rb_m46) k (0, ls, [], σ) := by
  have e : rb_prog[46]? = some rb_m46 := rfl
  have h2 : rb_ent rb_m46.2.2.2.1 As = some ls := h
  simp only [rb_R, e, h2]
  rfl
theorem st_47 {C : rb_C} {pc : Nat} {ls : rb_L} {st : List Value} {σ : rb_S} : rb_stp C rb_m47 (pc, ls, st, σ) = rb_nxt C 4 false (some .int) (decode cX4_clauseCount pc) pc ls st σ := rfl
theorem en_47 {d k : Nat} {As : List Value} {ls : rb_L} {σ : rb_S} (h : rb_ent 1 As = some ls) : rb_R (d + 1) 47 As σ = rb_gg (rb_stp (rb_R d) rb_m47) k (0, ls, [], σ) := by
  have e : rb_prog[47]? = some rb_m47 := rfl
  have h2 : rb_ent rb_m47.2.2.2.1 As = some ls := h
  simp only [rb_R, e, h2]
  rfl
theorem st_48 {C : rb_C} {pc : Nat} {ls : rb_L} {st : List Value} {σ : rb_S} : rb_stp C rb_m48 (pc, ls, st, σ) = rb_nxt C 4 false (some .int) (decode cX4_clauseKind pc) pc ls st σ := rfl
theorem en_48 {d k : Nat} {As : List Value} {ls : rb_L} {σ : rb_S} (h : rb_ent 2 As = some ls) : rb_R (d + 1) 48 As σ = rb_gg (rb_stp (rb_R d) rb_m48) k (0, ls, [], σ) := by
  have e : rb_prog[48]? = some rb_m48 := rfl
  have h2 : rb_ent rb_m48.2.2.2.1 As = some ls := h
  simp only [rb_R, e, h2]
  rfl
theorem st_49 {C : rb_C} {pc : Nat} {ls : rb_L} {st : List Value} {σ : rb_S} : rb_stp C rb_m49 (pc, ls, st, σ) = rb_nxt C 4 false (some .int) (decode cX4_number pc) pc ls st σ := rfl
theorem en_49 {d k : Nat} {As : List Value} {ls : rb_L} {σ : rb_S} (h : rb_ent 4 As = some ls) : rb_R (d + 1) 49 As σ = rb_gg (rb_stp (rb_R d) rb_m49) k (0, ls, [], σ) := by
  have e : rb_prog[49]? = some rb_m49 := rfl
  have h2 : rb_ent rb_m49.2.2.2.1 As = some ls := h
  simp only [rb_R, e, h2]
  rfl
theorem st_50 {C : rb_C} {pc : Nat} {ls : rb_L} {st : List Value} {σ : rb_S} : rb_stp C rb_m50 (pc, ls, st, σ) = rb_nxt C 4 false (some .int) (decode cX4_read pc) pc ls st σ := rfl
theorem en_50 {d k : Nat} {As : List Value} {ls : rb_L} {σ : rb_S} (h : rb_ent 1 As = some ls) : rb_R (d + 1) 50 As σ = rb_gg (rb_stp (rb_R d) rb_m50) k (0, ls, [], σ) := by
  have e : rb_prog[50]? = some rb_m50 := rfl
  have h2 : rb_ent rb_m50.2.2.2.1 As = some ls := h
  simp only [rb_R, e, h2]
  rfl
theorem st_51 {C : rb_C} {pc : Nat} {ls : rb_L} {st : List Value} {σ : rb_S} : rb_stp C rb_m51 (pc, ls, st, σ) = rb_nxt C 4 false (some .boolean) (decode cX4_readClause pc) pc ls st σ := rfl
theorem en_51 {d k : Nat} {As : List Value} {ls : rb_L} {σ : rb_S} (h : rb_ent 4 As = some ls) : rb_R (d + 1) 51 As σ = rb_gg (rb_stp (rb_R d) rb_m51) k (0, ls, [], σ) := by
  have e : rb_prog[51]? = some rb_m51 := rfl
  have h2 : rb_ent rb_m51.2.2.2.1 As = some ls := h
  simp only [rb_R, e, h2]
  rfl
theorem st_52 {C : rb_C} {pc : Nat} {ls : rb_L} {st : List Value} {σ : rb_S} : rb_stp C rb_m52 (pc, ls, st, σ) = rb_nxt C 4 false (some .int) (decode cX4_kindOfWord pc) pc ls st σ := rfl
theorem en_52 {d k : Nat} {As : List Value} {ls : rb_L} {σ : rb_S} (h : rb_ent 1 As = some ls) : rb_R (d + 1) 52 As σ = rb_gg (rb_stp (rb_R d) rb_m52) k (0, ls, [], σ) := by
  have e : rb_prog[52]? = some rb_m52 := rfl
  have h2 : rb_ent rb_m52.2.2.2.1 As = some ls := h
  simp only [rb_R, e, h2]
  rfl
theorem st_53 {C : rb_C} {pc : Nat} {ls : rb_L} {st : List Value} {σ : rb_S} : rb_stp C rb_m53 (pc, ls, st, σ) = rb_nxt C 4 false (some .int) (decode cX4_numbersOf pc) pc ls st σ := rfl
theorem en_53 {d k : Nat} {As : List Value} {ls : rb_L} {σ : rb_S} (h : rb_ent 1 As = some ls) : rb_R (d + 1) 53 As σ = rb_gg (rb_stp (rb_R d) rb_m53) k (0, ls, [], σ) := by
  have e : rb_prog[53]? = some rb_m53 := rfl
  have h2 : rb_ent rb_m53.2.2.2.1 As = some ls := h
  simp only [rb_R, e, h2]
  rfl
theorem st_54 {C : rb_C} {pc : Nat} {ls : rb_L} {st : List Value} {σ : rb_S} : rb_stp C rb_m54 (pc, ls, st, σ) = rb_nxt C 4 false (some .boolean) (decode cX4_readNumber pc) pc ls st σ := rfl
theorem en_54 {d k : Nat} {As : List Value} {ls : rb_L} {σ : rb_S} (h : rb_ent 7 As = some ls) : rb_R (d + 1) 54 As σ = rb_gg (rb_stp (rb_R d) rb_m54) k (0, ls, [], σ) := by
  have e : rb_prog[54]? = some rb_m54 := rfl
  have h2 : rb_ent rb_m54.2.2.2.1 As = some ls := h
  simp only [rb_R, e, h2]
  rfl
theorem st_55 {C : rb_C} {pc : Nat} {ls : rb_L} {st : List Value} {σ : rb_S} : rb_stp C rb_m55 (pc, ls, st, σ) = rb_nxt C 4 false (some .boolean) (decode cX4_fits pc) pc ls st σ := rfl
theorem en_55 {d k : Nat} {As : List Value} {ls : rb_L} {σ : rb_S} (h : rb_ent 5 As = some ls) : rb_R (d + 1) 55 As σ = rb_gg (rb_stp (rb_R d) rb_m55) k (0, ls, [], σ) := by
  have e : rb_prog[55]? = some rb_m55 := rfl
  have h2 : rb_ent rb_m55.2.2.2.1 As = some ls := h
  simp only [rb_R, e, h2]
  rfl
theorem st_56 {C : rb_C} {pc : Nat} {ls : rb_L} {st : List Value} {σ : rb_S} : rb_stp C rb_m56 (pc, ls, st, σ) = rb_nxt C 4 false (some .int) (decode cX4_digitsValue pc) pc ls st σ := rfl
theorem en_56 {d k : Nat} {As : List Value} {ls : rb_L} {σ : rb_S} (h : rb_ent 3 As = some ls) : rb_R (d + 1) 56 As σ = rb_gg (rb_stp (rb_R d) rb_m56) k (0, ls, [], σ) := by
  have e : rb_prog[56]? = some rb_m56 := rfl
  have h2 : rb_ent rb_m56.2.2.2.1 As = some ls := h
  simp only [rb_R, e, h2]
  rfl
theorem st_57 {C : rb_C} {pc : Nat} {ls : rb_L} {st : List Value} {σ : rb_S} : rb_stp C rb_m57 (pc, ls, st, σ) = rb_nxt C 4 false (some .boolean) (decode cX4_isWord pc) pc ls st σ := rfl
theorem en_57 {d k : Nat} {As : List Value} {ls : rb_L} {σ : rb_S} (h : rb_ent 3 As = some ls) : rb_R (d + 1) 57 As σ = rb_gg (rb_stp (rb_R d) rb_m57) k (0, ls, [], σ) := by
  have e : rb_prog[57]? = some rb_m57 := rfl
  have h2 : rb_ent rb_m57.2.2.2.1 As = some ls := h
  simp only [rb_R, e, h2]
  rfl
theorem st_58 {C : rb_C} {pc : Nat} {ls : rb_L} {st : List Value} {σ : rb_S} : rb_stp C rb_m58 (pc, ls, st, σ) = rb_nxt C 4 false (some .boolean) (decode cX4_isSign pc) pc ls st σ := rfl
theorem en_58 {d k : Nat} {As : List Value} {ls : rb_L} {σ : rb_S} (h : rb_ent 2 As = some ls) : rb_R (d + 1) 58 As σ = rb_gg (rb_stp (rb_R d) rb_m58) k (0, ls, [], σ) := by
  have e : rb_prog[58]? = some rb_m58 := rfl
  have h2 : rb_ent rb_m58.2.2.2.1 As = some ls := h
  simp only [rb_R, e, h2]
  rfl
theorem st_59 {C : rb_C} {pc : Nat} {ls : rb_L} {st : List Value} {σ : rb_S} : rb_stp C rb_m59 (pc, ls, st, σ) = rb_nxt C 4 false none (decode cX4_nextToken pc) pc ls st σ := rfl
theorem en_59 {d k : Nat} {As : List Value} {ls : rb_L} {σ : rb_S} (h : rb_ent 2 As = some ls) : rb_R (d + 1) 59 As σ = rb_gg (rb_stp (rb_R d) rb_m59) k (0, ls, [], σ) := by
  have e : rb_prog[59]? = some rb_m59 := rfl
  have h2 : rb_ent rb_m59.2.2.2.1 As = some ls := h
  simp only [rb_R, e, h2]
  rfl
theorem st_60 {C : rb_C} {pc : Nat} {ls : rb_L} {st : List Value} {σ : rb_S} : rb_stp C rb_m60 (pc, ls, st, σ) = rb_nxt C 4 false (some .int) (decode cX4_tokenAt pc) pc ls st σ := rfl
theorem en_60 {d k : Nat} {As : List Value} {ls : rb_L} {σ : rb_S} (h : rb_ent 3 As = some ls) : rb_R (d + 1) 60 As σ = rb_gg (rb_stp (rb_R d) rb_m60) k (0, ls, [], σ) := by
  have e : rb_prog[60]? = some rb_m60 := rfl
  have h2 : rb_ent rb_m60.2.2.2.1 As = some ls := h
  simp only [rb_R, e, h2]
  rfl
theorem st_61 {C : rb_C} {pc : Nat} {ls : rb_L} {st : List Value} {σ : rb_S} : rb_stp C rb_m61 (pc, ls, st, σ) = rb_nxt C 5 true none (decode cX5_init pc) pc ls st σ := rfl
theorem en_61 {d k : Nat} {As : List Value} {ls : rb_L} {σ : rb_S} (h : rb_ent 1 As = some ls) : rb_R (d + 1) 61 As σ = rb_gg (rb_stp (rb_R d) rb_m61) k (0, ls, [], σ) := by
  have e : rb_prog[61]? = some rb_m61 := rfl
  have h2 : rb_ent rb_m61.2.2.2.1 As = some ls := h
  simp only [rb_R, e, h2]
  rfl
theorem st_62 {C : rb_C} {pc : Nat} {ls : rb_L} {st : List Value} {σ : rb_S} : rb_stp C rb_m62 (pc, ls, st, σ) = rb_nxt C 5 false none (decode cX5_become pc) pc ls st σ := rfl
theorem en_62 {d k : Nat} {As : List Value} {ls : rb_L} {σ : rb_S} (h : rb_ent 5 As = some ls) : rb_R (d + 1) 62 As σ = rb_gg (rb_stp (rb_R d) rb_m62) k (0, ls, [], σ) := by
  have e : rb_prog[62]? = some rb_m62 := rfl
  have h2 : rb_ent rb_m62.2.2.2.1 As = some ls := h
  simp only [rb_R, e, h2]
  rfl
theorem st_63 {C : rb_C} {pc : Nat} {ls : rb_L} {st : List Value} {σ : rb_S} : rb_stp C rb_m63 (pc, ls, st, σ) = rb_nxt C 5 false none (decode cX5_becomeProduct pc) pc ls st σ := rfl
theorem en_63 {d k : Nat} {As : List Value} {ls : rb_L} {σ : rb_S} (h : rb_ent 11 As = some ls) : rb_R (d + 1) 63 As σ = rb_gg (rb_stp (rb_R d) rb_m63) k (0, ls, [], σ) := by
  have e : rb_prog[63]? = some rb_m63 := rfl
  have h2 : rb_ent rb_m63.2.2.2.1 As = some ls := h
  simp only [rb_R, e, h2]
  rfl
theorem st_64 {C : rb_C} {pc : Nat} {ls : rb_L} {st : List Value} {σ : rb_S} : rb_stp C rb_m64 (pc, ls, st, σ) = rb_nxt C 5 false none (decode cX5_becomeQuotient pc) pc ls st σ := rfl
theorem en_64 {d k : Nat} {As : List Value} {ls : rb_L} {σ : rb_S} (h : rb_ent 11 As = some ls) : rb_R (d + 1) 64 As σ = rb_gg (rb_stp (rb_R d) rb_m64) k (0, ls, [], σ) := by
  have e : rb_prog[64]? = some rb_m64 := rfl
  have h2 : rb_ent rb_m64.2.2.2.1 As = some ls := h
  simp only [rb_R, e, h2]
  rfl
theorem st_65 {C : rb_C} {pc : Nat} {ls : rb_L} {st : List Value} {σ : rb_S} : rb_stp C rb_m65 (pc, ls, st, σ) = rb_nxt C 5 false none (decode cX5_becomeLess pc) pc ls st σ := rfl
theorem en_65 {d k : Nat} {As : List Value} {ls : rb_L} {σ : rb_S} (h : rb_ent 3 As = some ls) : rb_R (d + 1) 65 As σ = rb_gg (rb_stp (rb_R d) rb_m65) k (0, ls, [], σ) := by
  have e : rb_prog[65]? = some rb_m65 := rfl
  have h2 : rb_ent rb_m65.2.2.2.1 As = some ls := h
  simp only [rb_R, e, h2]
  rfl
theorem st_66 {C : rb_C} {pc : Nat} {ls : rb_L} {st : List Value} {σ : rb_S} : rb_stp C rb_m66 (pc, ls, st, σ) = rb_nxt C 5 false none (decode cX5_becomeShared pc) pc ls st σ := rfl
theorem en_66 {d k : Nat} {As : List Value} {ls : rb_L} {σ : rb_S} (h : rb_ent 3 As = some ls) : rb_R (d + 1) 66 As σ = rb_gg (rb_stp (rb_R d) rb_m66) k (0, ls, [], σ) := by
  have e : rb_prog[66]? = some rb_m66 := rfl
  have h2 : rb_ent rb_m66.2.2.2.1 As = some ls := h
  simp only [rb_R, e, h2]
  rfl
theorem st_67 {C : rb_C} {pc : Nat} {ls : rb_L} {st : List Value} {σ : rb_S} : rb_stp C rb_m67 (pc, ls, st, σ) = rb_nxt C 5 false none (decode cX5_addTimes pc) pc ls st σ := rfl
theorem en_67 {d k : Nat} {As : List Value} {ls : rb_L} {σ : rb_S} (h : rb_ent 4 As = some ls) : rb_R (d + 1) 67 As σ = rb_gg (rb_stp (rb_R d) rb_m67) k (0, ls, [], σ) := by
  have e : rb_prog[67]? = some rb_m67 := rfl
  have h2 : rb_ent rb_m67.2.2.2.1 As = some ls := h
  simp only [rb_R, e, h2]
  rfl
theorem st_68 {C : rb_C} {pc : Nat} {ls : rb_L} {st : List Value} {σ : rb_S} : rb_stp C rb_m68 (pc, ls, st, σ) = rb_nxt C 5 false (some .boolean) (decode cX5_hasZero pc) pc ls st σ := rfl
theorem en_68 {d k : Nat} {As : List Value} {ls : rb_L} {σ : rb_S} (h : rb_ent 1 As = some ls) : rb_R (d + 1) 68 As σ = rb_gg (rb_stp (rb_R d) rb_m68) k (0, ls, [], σ) := by
  have e : rb_prog[68]? = some rb_m68 := rfl
  have h2 : rb_ent rb_m68.2.2.2.1 As = some ls := h
  simp only [rb_R, e, h2]
  rfl
theorem st_69 {C : rb_C} {pc : Nat} {ls : rb_L} {st : List Value} {σ : rb_S} : rb_stp C rb_m69 (pc, ls, st, σ) = rb_nxt C 5 false (some .boolean) (decode cX5_isNothing pc) pc ls st σ := rfl
theorem en_69 {d k : Nat} {As : List Value} {ls : rb_L} {σ : rb_S} (h : rb_ent 1 As = some ls) : rb_R (d + 1) 69 As σ = rb_gg (rb_stp (rb_R d) rb_m69) k (0, ls, [], σ) := by
  have e : rb_prog[69]? = some rb_m69 := rfl
  have h2 : rb_ent rb_m69.2.2.2.1 As = some ls := h
  simp only [rb_R, e, h2]
  rfl
theorem st_70 {C : rb_C} {pc : Nat} {ls : rb_L} {st : List Value} {σ : rb_S} : rb_stp C rb_m70 (pc, ls, st, σ) = rb_nxt C 5 false (some .boolean) (decode cX5_isStrictlyWithin pc) pc ls st σ := rfl
theorem en_70 {d k : Nat} {As : List Value} {ls : rb_L} {σ : rb_S} (h : rb_ent 2 As = some ls) : rb_R (d + 1) 70 As σ = rb_gg (rb_stp (rb_R d) rb_m70) k (0, ls, [], σ) := by
  have e : rb_prog[70]? = some rb_m70 := rfl
  have h2 : rb_ent rb_m70.2.2.2.1 As = some ls := h
  simp only [rb_R, e, h2]
  rfl
theorem st_71 {C : rb_C} {pc : Nat} {ls : rb_L} {st : List Value} {σ : rb_S} : rb_stp C rb_m71 (pc, ls, st, σ) = rb_nxt C 5 false (some .long) (decode cX5_width pc) pc ls st σ := rfl
theorem en_71 {d k : Nat} {As : List Value} {ls : rb_L} {σ : rb_S} (h : rb_ent 1 As = some ls) : rb_R (d + 1) 71 As σ = rb_gg (rb_stp (rb_R d) rb_m71) k (0, ls, [], σ) := by
  have e : rb_prog[71]? = some rb_m71 := rfl
  have h2 : rb_ent rb_m71.2.2.2.1 As = some ls := h
  simp only [rb_R, e, h2]
  rfl
theorem st_72 {C : rb_C} {pc : Nat} {ls : rb_L} {st : List Value} {σ : rb_S} : rb_stp C rb_m72 (pc, ls, st, σ) = rb_nxt C 5 false (some .long) (decode cX5_middle pc) pc ls st σ := rfl
theorem en_72 {d k : Nat} {As : List Value} {ls : rb_L} {σ : rb_S} (h : rb_ent 1 As = some ls) : rb_R (d + 1) 72 As σ = rb_gg (rb_stp (rb_R d) rb_m72) k (0, ls, [], σ) := by
  have e : rb_prog[72]? = some rb_m72 := rfl
  have h2 : rb_ent rb_m72.2.2.2.1 As = some ls := h
  simp only [rb_R, e, h2]
  rfl
theorem st_73 {C : rb_C} {pc : Nat} {ls : rb_L} {st : List Value} {σ : rb_S} : rb_stp C rb_m73 (pc, ls, st, σ) = rb_nxt C 5 false (some .int) (decode cX5_told pc) pc ls st σ := rfl
theorem en_73 {d k : Nat} {As : List Value} {ls : rb_L} {σ : rb_S} (h : rb_ent 2 As = some ls) : rb_R (d + 1) 73 As σ = rb_gg (rb_stp (rb_R d) rb_m73) k (0, ls, [], σ) := by
  have e : rb_prog[73]? = some rb_m73 := rfl
  have h2 : rb_ent rb_m73.2.2.2.1 As = some ls := h
  simp only [rb_R, e, h2]
  rfl
theorem st_74 {C : rb_C} {pc : Nat} {ls : rb_L} {st : List Value} {σ : rb_S} : rb_stp C rb_m74 (pc, ls, st, σ) = rb_nxt C 5 false (some .long) (decode cX5_upDiv pc) pc ls st σ := rfl
theorem en_74 {d k : Nat} {As : List Value} {ls : rb_L} {σ : rb_S} (h : rb_ent 4 As = some ls) : rb_R (d + 1) 74 As σ = rb_gg (rb_stp (rb_R d) rb_m74) k (0, ls, [], σ) := by
  have e : rb_prog[74]? = some rb_m74 := rfl
  have h2 : rb_ent rb_m74.2.2.2.1 As = some ls := h
  simp only [rb_R, e, h2]
  rfl
theorem st_75 {C : rb_C} {pc : Nat} {ls : rb_L} {st : List Value} {σ : rb_S} : rb_stp C rb_m75 (pc, ls, st, σ) = rb_nxt C 6 true none (decode cX6_init pc) pc ls st σ := rfl
theorem en_75 {d k : Nat} {As : List Value} {ls : rb_L} {σ : rb_S} (h : rb_ent 1 As = some ls) : rb_R (d + 1) 75 As σ = rb_gg (rb_stp (rb_R d) rb_m75) k (0, ls, [], σ) := by
  have e : rb_prog[75]? = some rb_m75 := rfl
  have h2 : rb_ent rb_m75.2.2.2.1 As = some ls := h
  simp only [rb_R, e, h2]
  rfl
theorem st_76 {C : rb_C} {pc : Nat} {ls : rb_L} {st : List Value} {σ : rb_S} : rb_stp C rb_m76 (pc, ls, st, σ) = rb_nxt C 6 false (some (.object "RootBoxes$Polynomial")) (decode cX6_polynomial pc) pc ls st σ := rfl
theorem en_76 {d k : Nat} {As : List Value} {ls : rb_L} {σ : rb_S} (h : rb_ent 2 As = some ls) : rb_R (d + 1) 76 As σ = rb_gg (rb_stp (rb_R d) rb_m76) k (0, ls, [], σ) := by
  have e : rb_prog[76]? = some rb_m76 := rfl
  have h2 : rb_ent rb_m76.2.2.2.1 As = some ls := h
  simp only [rb_R, e, h2]
  rfl
theorem st_77 {C : rb_C} {pc : Nat} {ls : rb_L} {st : List Value} {σ : rb_S} : rb_stp C rb_m77 (pc, ls, st, σ) = rb_nxt C 6 false (some (.object "RootBoxes$BoxRow")) (decode cX6_openOnes pc) pc ls st σ := rfl
theorem en_77 {d k : Nat} {As : List Value} {ls : rb_L} {σ : rb_S} (h : rb_ent 1 As = some ls) : rb_R (d + 1) 77 As σ = rb_gg (rb_stp (rb_R d) rb_m77) k (0, ls, [], σ) := by
  have e : rb_prog[77]? = some rb_m77 := rfl
  have h2 : rb_ent rb_m77.2.2.2.1 As = some ls := h
  simp only [rb_R, e, h2]
  rfl
theorem st_78 {C : rb_C} {pc : Nat} {ls : rb_L} {st : List Value} {σ : rb_S} : rb_stp C rb_m78 (pc, ls, st, σ) = rb_nxt C 6 false (some (.object "RootBoxes$BoxRow")) (decode cX6_solvedOnes pc) pc ls st σ := rfl
theorem en_78 {d k : Nat} {As : List Value} {ls : rb_L} {σ : rb_S} (h : rb_ent 1 As = some ls) : rb_R (d + 1) 78 As σ = rb_gg (rb_stp (rb_R d) rb_m78) k (0, ls, [], σ) := by
  have e : rb_prog[78]? = some rb_m78 := rfl
  have h2 : rb_ent rb_m78.2.2.2.1 As = some ls := h
  simp only [rb_R, e, h2]
  rfl
theorem st_79 {C : rb_C} {pc : Nat} {ls : rb_L} {st : List Value} {σ : rb_S} : rb_stp C rb_m79 (pc, ls, st, σ) = rb_nxt C 6 false (some (.object "RootBoxes$BoxRow")) (decode cX6_doubtfulOnes pc) pc ls st σ := rfl
theorem en_79 {d k : Nat} {As : List Value} {ls : rb_L} {σ : rb_S} (h : rb_ent 1 As = some ls) : rb_R (d + 1) 79 As σ = rb_gg (rb_stp (rb_R d) rb_m79) k (0, ls, [], σ) := by
  have e : rb_prog[79]? = some rb_m79 := rfl
  have h2 : rb_ent rb_m79.2.2.2.1 As = some ls := h
  simp only [rb_R, e, h2]
  rfl
theorem st_80 {C : rb_C} {pc : Nat} {ls : rb_L} {st : List Value} {σ : rb_S} : rb_stp C rb_m80 (pc, ls, st, σ) = rb_nxt C 6 false (some (.object "RootBoxes$BoxRow")) (decode cX6_entries pc) pc ls st σ := rfl
theorem en_80 {d k : Nat} {As : List Value} {ls : rb_L} {σ : rb_S} (h : rb_ent 1 As = some ls) : rb_R (d + 1) 80 As σ = rb_gg (rb_stp (rb_R d) rb_m80) k (0, ls, [], σ) := by
  have e : rb_prog[80]? = some rb_m80 := rfl
  have h2 : rb_ent rb_m80.2.2.2.1 As = some ls := h
  simp only [rb_R, e, h2]
  rfl
theorem st_81 {C : rb_C} {pc : Nat} {ls : rb_L} {st : List Value} {σ : rb_S} : rb_stp C rb_m81 (pc, ls, st, σ) = rb_nxt C 6 false (some .int) (decode cX6_smallest pc) pc ls st σ := rfl
theorem en_81 {d k : Nat} {As : List Value} {ls : rb_L} {σ : rb_S} (h : rb_ent 1 As = some ls) : rb_R (d + 1) 81 As σ = rb_gg (rb_stp (rb_R d) rb_m81) k (0, ls, [], σ) := by
  have e : rb_prog[81]? = some rb_m81 := rfl
  have h2 : rb_ent rb_m81.2.2.2.1 As = some ls := h
  simp only [rb_R, e, h2]
  rfl
theorem st_82 {C : rb_C} {pc : Nat} {ls : rb_L} {st : List Value} {σ : rb_S} : rb_stp C rb_m82 (pc, ls, st, σ) = rb_nxt C 6 false none (decode cX6_changeSmallest pc) pc ls st σ := rfl
theorem en_82 {d k : Nat} {As : List Value} {ls : rb_L} {σ : rb_S} (h : rb_ent 2 As = some ls) : rb_R (d + 1) 82 As σ = rb_gg (rb_stp (rb_R d) rb_m82) k (0, ls, [], σ) := by
  have e : rb_prog[82]? = some rb_m82 := rfl
  have h2 : rb_ent rb_m82.2.2.2.1 As = some ls := h
  simp only [rb_R, e, h2]
  rfl
theorem st_83 {C : rb_C} {pc : Nat} {ls : rb_L} {st : List Value} {σ : rb_S} : rb_stp C rb_m83 (pc, ls, st, σ) = rb_nxt C 6 false none (decode cX6_clear pc) pc ls st σ := rfl
theorem en_83 {d k : Nat} {As : List Value} {ls : rb_L} {σ : rb_S} (h : rb_ent 1 As = some ls) : rb_R (d + 1) 83 As σ = rb_gg (rb_stp (rb_R d) rb_m83) k (0, ls, [], σ) := by
  have e : rb_prog[83]? = some rb_m83 := rfl
  have h2 : rb_ent rb_m83.2.2.2.1 As = some ls := h
  simp only [rb_R, e, h2]
  rfl
theorem st_84 {C : rb_C} {pc : Nat} {ls : rb_L} {st : List Value} {σ : rb_S} : rb_stp C rb_m84 (pc, ls, st, σ) = rb_nxt C 6 false none (decode cX6_beginWith pc) pc ls st σ := rfl
theorem en_84 {d k : Nat} {As : List Value} {ls : rb_L} {σ : rb_S} (h : rb_ent 5 As = some ls) : rb_R (d + 1) 84 As σ = rb_gg (rb_stp (rb_R d) rb_m84) k (0, ls, [], σ) := by
  have e : rb_prog[84]? = some rb_m84 := rfl
  have h2 : rb_ent rb_m84.2.2.2.1 As = some ls := h
  simp only [rb_R, e, h2]
  rfl
theorem st_85 {C : rb_C} {pc : Nat} {ls : rb_L} {st : List Value} {σ : rb_S} : rb_stp C rb_m85 (pc, ls, st, σ) = rb_nxt C 6 false none (decode cX6_copyFrom pc) pc ls st σ := rfl
theorem en_85 {d k : Nat} {As : List Value} {ls : rb_L} {σ : rb_S} (h : rb_ent 2 As = some ls) : rb_R (d + 1) 85 As σ = rb_gg (rb_stp (rb_R d) rb_m85) k (0, ls, [], σ) := by
  have e : rb_prog[85]? = some rb_m85 := rfl
  have h2 : rb_ent rb_m85.2.2.2.1 As = some ls := h
  simp only [rb_R, e, h2]
  rfl
theorem st_86 {C : rb_C} {pc : Nat} {ls : rb_L} {st : List Value} {σ : rb_S} : rb_stp C rb_m86 (pc, ls, st, σ) = rb_nxt C 6 false (some .int) (decode cX6_judged pc) pc ls st σ := rfl
theorem en_86 {d k : Nat} {As : List Value} {ls : rb_L} {σ : rb_S} (h : rb_ent 4 As = some ls) : rb_R (d + 1) 86 As σ = rb_gg (rb_stp (rb_R d) rb_m86) k (0, ls, [], σ) := by
  have e : rb_prog[86]? = some rb_m86 := rfl
  have h2 : rb_ent rb_m86.2.2.2.1 As = some ls := h
  simp only [rb_R, e, h2]
  rfl
theorem st_87 {C : rb_C} {pc : Nat} {ls : rb_L} {st : List Value} {σ : rb_S} : rb_stp C rb_m87 (pc, ls, st, σ) = rb_nxt C 6 false (some .int) (decode cX6_verdictGot pc) pc ls st σ := rfl
theorem en_87 {d k : Nat} {As : List Value} {ls : rb_L} {σ : rb_S} (h : rb_ent 2 As = some ls) : rb_R (d + 1) 87 As σ = rb_gg (rb_stp (rb_R d) rb_m87) k (0, ls, [], σ) := by
  have e : rb_prog[87]? = some rb_m87 := rfl
  have h2 : rb_ent rb_m87.2.2.2.1 As = some ls := h
  simp only [rb_R, e, h2]
  rfl
theorem st_88 {C : rb_C} {pc : Nat} {ls : rb_L} {st : List Value} {σ : rb_S} : rb_stp C rb_m88 (pc, ls, st, σ) = rb_nxt C 6 false (some .int) (decode cX6_entriesWith pc) pc ls st σ := rfl
theorem en_88 {d k : Nat} {As : List Value} {ls : rb_L} {σ : rb_S} (h : rb_ent 4 As = some ls) : rb_R (d + 1) 88 As σ = rb_gg (rb_stp (rb_R d) rb_m88) k (0, ls, [], σ) := by
  have e : rb_prog[88]? = some rb_m88 := rfl
  have h2 : rb_ent rb_m88.2.2.2.1 As = some ls := h
  simp only [rb_R, e, h2]
  rfl
theorem st_89 {C : rb_C} {pc : Nat} {ls : rb_L} {st : List Value} {σ : rb_S} : rb_stp C rb_m89 (pc, ls, st, σ) = rb_nxt C 6 false (some .boolean) (decode cX6_isShownRootless pc) pc ls st σ := rfl
theorem en_89 {d k : Nat} {As : List Value} {ls : rb_L} {σ : rb_S} (h : rb_ent 4 As = some ls) : rb_R (d + 1) 89 As σ = rb_gg (rb_stp (rb_R d) rb_m89) k (0, ls, [], σ) := by
  have e : rb_prog[89]? = some rb_m89 := rfl
  have h2 : rb_ent rb_m89.2.2.2.1 As = some ls := h
  simp only [rb_R, e, h2]
  rfl
theorem st_90 {C : rb_C} {pc : Nat} {ls : rb_L} {st : List Value} {σ : rb_S} : rb_stp C rb_m90 (pc, ls, st, σ) = rb_nxt C 6 false (some .int) (decode cX6_advance pc) pc ls st σ := rfl
theorem en_90 {d k : Nat} {As : List Value} {ls : rb_L} {σ : rb_S} (h : rb_ent 5 As = some ls) : rb_R (d + 1) 90 As σ = rb_gg (rb_stp (rb_R d) rb_m90) k (0, ls, [], σ) := by
  have e : rb_prog[90]? = some rb_m90 := rfl
  have h2 : rb_ent rb_m90.2.2.2.1 As = some ls := h
  simp only [rb_R, e, h2]
  rfl
theorem st_91 {C : rb_C} {pc : Nat} {ls : rb_L} {st : List Value} {σ : rb_S} : rb_stp C rb_m91 (pc, ls, st, σ) = rb_nxt C 6 false none (decode cX6_clearSearch pc) pc ls st σ := rfl
theorem en_91 {d k : Nat} {As : List Value} {ls : rb_L} {σ : rb_S} (h : rb_ent 1 As = some ls) : rb_R (d + 1) 91 As σ = rb_gg (rb_stp (rb_R d) rb_m91) k (0, ls, [], σ) := by
  have e : rb_prog[91]? = some rb_m91 := rfl
  have h2 : rb_ent rb_m91.2.2.2.1 As = some ls := h
  simp only [rb_R, e, h2]
  rfl
theorem st_92 {C : rb_C} {pc : Nat} {ls : rb_L} {st : List Value} {σ : rb_S} : rb_stp C rb_m92 (pc, ls, st, σ) = rb_nxt C 6 false none (decode cX6_addEntry pc) pc ls st σ := rfl
theorem en_92 {d k : Nat} {As : List Value} {ls : rb_L} {σ : rb_S} (h : rb_ent 4 As = some ls) : rb_R (d + 1) 92 As σ = rb_gg (rb_stp (rb_R d) rb_m92) k (0, ls, [], σ) := by
  have e : rb_prog[92]? = some rb_m92 := rfl
  have h2 : rb_ent rb_m92.2.2.2.1 As = some ls := h
  simp only [rb_R, e, h2]
  rfl
theorem st_93 {C : rb_C} {pc : Nat} {ls : rb_L} {st : List Value} {σ : rb_S} : rb_stp C rb_m93 (pc, ls, st, σ) = rb_nxt C 6 false none (decode cX6_settle pc) pc ls st σ := rfl
theorem en_93 {d k : Nat} {As : List Value} {ls : rb_L} {σ : rb_S} (h : rb_ent 3 As = some ls) : rb_R (d + 1) 93 As σ = rb_gg (rb_stp (rb_R d) rb_m93) k (0, ls, [], σ) := by
  have e : rb_prog[93]? = some rb_m93 := rfl
  have h2 : rb_ent rb_m93.2.2.2.1 As = some ls := h
  simp only [rb_R, e, h2]
  rfl
theorem st_94 {C : rb_C} {pc : Nat} {ls : rb_L} {st : List Value} {σ : rb_S} : rb_stp C rb_m94 (pc, ls, st, σ) = rb_nxt C 6 false none (decode cX6_part pc) pc ls st σ := rfl
theorem en_94 {d k : Nat} {As : List Value} {ls : rb_L} {σ : rb_S} (h : rb_ent 4 As = some ls) : rb_R (d + 1) 94 As σ = rb_gg (rb_stp (rb_R d) rb_m94) k (0, ls, [], σ) := by
  have e : rb_prog[94]? = some rb_m94 := rfl
  have h2 : rb_ent rb_m94.2.2.2.1 As = some ls := h
  simp only [rb_R, e, h2]
  rfl
theorem st_95 {C : rb_C} {pc : Nat} {ls : rb_L} {st : List Value} {σ : rb_S} : rb_stp C rb_m95 (pc, ls, st, σ) = rb_nxt C 7 true none (decode cX7_init pc) pc ls st σ := rfl
theorem en_95 {d k : Nat} {As : List Value} {ls : rb_L} {σ : rb_S} (h : rb_ent 1 As = some ls) : rb_R (d + 1) 95 As σ = rb_gg (rb_stp (rb_R d) rb_m95) k (0, ls, [], σ) := by
  have e : rb_prog[95]? = some rb_m95 := rfl
  have h2 : rb_ent rb_m95.2.2.2.1 As = some ls := h
  simp only [rb_R, e, h2]
  rfl
theorem st_96 {C : rb_C} {pc : Nat} {ls : rb_L} {st : List Value} {σ : rb_S} : rb_stp C rb_m96 (pc, ls, st, σ) = rb_nxt C 7 false (some .int) (decode cX7_length pc) pc ls st σ := rfl
theorem en_96 {d k : Nat} {As : List Value} {ls : rb_L} {σ : rb_S} (h : rb_ent 1 As = some ls) : rb_R (d + 1) 96 As σ = rb_gg (rb_stp (rb_R d) rb_m96) k (0, ls, [], σ) := by
  have e : rb_prog[96]? = some rb_m96 := rfl
  have h2 : rb_ent rb_m96.2.2.2.1 As = some ls := h
  simp only [rb_R, e, h2]
  rfl
theorem st_97 {C : rb_C} {pc : Nat} {ls : rb_L} {st : List Value} {σ : rb_S} : rb_stp C rb_m97 (pc, ls, st, σ) = rb_nxt C 7 false (some .int) (decode cX7_letter pc) pc ls st σ := rfl
theorem en_97 {d k : Nat} {As : List Value} {ls : rb_L} {σ : rb_S} (h : rb_ent 2 As = some ls) : rb_R (d + 1) 97 As σ = rb_gg (rb_stp (rb_R d) rb_m97) k (0, ls, [], σ) := by
  have e : rb_prog[97]? = some rb_m97 := rfl
  have h2 : rb_ent rb_m97.2.2.2.1 As = some ls := h
  simp only [rb_R, e, h2]
  rfl
theorem st_98 {C : rb_C} {pc : Nat} {ls : rb_L} {st : List Value} {σ : rb_S} : rb_stp C rb_m98 (pc, ls, st, σ) = rb_nxt C 7 false (some .boolean) (decode cX7_add pc) pc ls st σ := rfl
theorem en_98 {d k : Nat} {As : List Value} {ls : rb_L} {σ : rb_S} (h : rb_ent 2 As = some ls) : rb_R (d + 1) 98 As σ = rb_gg (rb_stp (rb_R d) rb_m98) k (0, ls, [], σ) := by
  have e : rb_prog[98]? = some rb_m98 := rfl
  have h2 : rb_ent rb_m98.2.2.2.1 As = some ls := h
  simp only [rb_R, e, h2]
  rfl
theorem st_99 {C : rb_C} {pc : Nat} {ls : rb_L} {st : List Value} {σ : rb_S} : rb_stp C rb_m99 (pc, ls, st, σ) = rb_nxt C 7 false none (decode cX7_clear pc) pc ls st σ := rfl
theorem en_99 {d k : Nat} {As : List Value} {ls : rb_L} {σ : rb_S} (h : rb_ent 1 As = some ls) : rb_R (d + 1) 99 As σ = rb_gg (rb_stp (rb_R d) rb_m99) k (0, ls, [], σ) := by
  have e : rb_prog[99]? = some rb_m99 := rfl
  have h2 : rb_ent rb_m99.2.2.2.1 As = some ls := h
  simp only [rb_R, e, h2]
  rfl
theorem st_100 {C : rb_C} {pc : Nat} {ls : rb_L} {st : List Value} {σ : rb_S} : rb_stp C rb_m100 (pc, ls, st, σ) = rb_nxt C 8 true none (decode cX8_init pc) pc ls st σ := rfl
theorem en_100 {d k : Nat} {As : List Value} {ls : rb_L} {σ : rb_S} (h : rb_ent 1 As = some ls) : rb_R (d + 1) 100 As σ = rb_gg (rb_stp (rb_R d) rb_m100) k (0, ls, [], σ) := by
  have e : rb_prog[100]? = some rb_m100 := rfl
  have h2 : rb_ent rb_m100.2.2.2.1 As = some ls := h
  simp only [rb_R, e, h2]
  rfl
theorem st_101 {C : rb_C} {pc : Nat} {ls : rb_L} {st : List Value} {σ : rb_S} : rb_stp C rb_m101 (pc, ls, st, σ) = rb_nxt C 8 false (some .int) (decode cX8_write pc) pc ls st σ := rfl
theorem en_101 {d k : Nat} {As : List Value} {ls : rb_L} {σ : rb_S} (h : rb_ent 2 As = some ls) : rb_R (d + 1) 101 As σ = rb_gg (rb_stp (rb_R d) rb_m101) k (0, ls, [], σ) := by
  have e : rb_prog[101]? = some rb_m101 := rfl
  have h2 : rb_ent rb_m101.2.2.2.1 As = some ls := h
  simp only [rb_R, e, h2]
  rfl
theorem st_102 {C : rb_C} {pc : Nat} {ls : rb_L} {st : List Value} {σ : rb_S} : rb_stp C rb_m102 (pc, ls, st, σ) = rb_nxt C 8 false (some .int) (decode cX8_erase pc) pc ls st σ := rfl
theorem en_102 {d k : Nat} {As : List Value} {ls : rb_L} {σ : rb_S} (h : rb_ent 2 As = some ls) : rb_R (d + 1) 102 As σ = rb_gg (rb_stp (rb_R d) rb_m102) k (0, ls, [], σ) := by
  have e : rb_prog[102]? = some rb_m102 := rfl
  have h2 : rb_ent rb_m102.2.2.2.1 As = some ls := h
  simp only [rb_R, e, h2]
  rfl
theorem st_103 {C : rb_C} {pc : Nat} {ls : rb_L} {st : List Value} {σ : rb_S} : rb_stp C rb_m103 (pc, ls, st, σ) = rb_nxt C 8 false (some .int) (decode cX8_fault pc) pc ls st σ := rfl
theorem en_103 {d k : Nat} {As : List Value} {ls : rb_L} {σ : rb_S} (h : rb_ent 1 As = some ls) : rb_R (d + 1) 103 As σ = rb_gg (rb_stp (rb_R d) rb_m103) k (0, ls, [], σ) := by
  have e : rb_prog[103]? = some rb_m103 := rfl
  have h2 : rb_ent rb_m103.2.2.2.1 As = some ls := h
  simp only [rb_R, e, h2]
  rfl
theorem st_104 {C : rb_C} {pc : Nat} {ls : rb_L} {st : List Value} {σ : rb_S} : rb_stp C rb_m104 (pc, ls, st, σ) = rb_nxt C 8 false (some .int) (decode cX8_tell pc) pc ls st σ := rfl
theorem en_104 {d k : Nat} {As : List Value} {ls : rb_L} {σ : rb_S} (h : rb_ent 3 As = some ls) : rb_R (d + 1) 104 As σ = rb_gg (rb_stp (rb_R d) rb_m104) k (0, ls, [], σ) := by
  have e : rb_prog[104]? = some rb_m104 := rfl
  have h2 : rb_ent rb_m104.2.2.2.1 As = some ls := h
  simp only [rb_R, e, h2]
  rfl
theorem st_105 {C : rb_C} {pc : Nat} {ls : rb_L} {st : List Value} {σ : rb_S} : rb_stp C rb_m105 (pc, ls, st, σ) = rb_nxt C 8 false (some .int) (decode cX8_put pc) pc ls st σ := rfl
theorem en_105 {d k : Nat} {As : List Value} {ls : rb_L} {σ : rb_S} (h : rb_ent 6 As = some ls) : rb_R (d + 1) 105 As σ = rb_gg (rb_stp (rb_R d) rb_m105) k (0, ls, [], σ) := by
  have e : rb_prog[105]? = some rb_m105 := rfl
  have h2 : rb_ent rb_m105.2.2.2.1 As = some ls := h
  simp only [rb_R, e, h2]
  rfl
theorem st_106 {C : rb_C} {pc : Nat} {ls : rb_L} {st : List Value} {σ : rb_S} : rb_stp C rb_m106 (pc, ls, st, σ) = rb_nxt C 8 false (some .int) (decode cX8_term pc) pc ls st σ := rfl
theorem en_106 {d k : Nat} {As : List Value} {ls : rb_L} {σ : rb_S} (h : rb_ent 4 As = some ls) : rb_R (d + 1) 106 As σ = rb_gg (rb_stp (rb_R d) rb_m106) k (0, ls, [], σ) := by
  have e : rb_prog[106]? = some rb_m106 := rfl
  have h2 : rb_ent rb_m106.2.2.2.1 As = some ls := h
  simp only [rb_R, e, h2]
  rfl
theorem st_107 {C : rb_C} {pc : Nat} {ls : rb_L} {st : List Value} {σ : rb_S} : rb_stp C rb_m107 (pc, ls, st, σ) = rb_nxt C 8 false (some .int) (decode cX8_sign pc) pc ls st σ := rfl
theorem en_107 {d k : Nat} {As : List Value} {ls : rb_L} {σ : rb_S} (h : rb_ent 4 As = some ls) : rb_R (d + 1) 107 As σ = rb_gg (rb_stp (rb_R d) rb_m107) k (0, ls, [], σ) := by
  have e : rb_prog[107]? = some rb_m107 := rfl
  have h2 : rb_ent rb_m107.2.2.2.1 As = some ls := h
  simp only [rb_R, e, h2]
  rfl
theorem st_108 {C : rb_C} {pc : Nat} {ls : rb_L} {st : List Value} {σ : rb_S} : rb_stp C rb_m108 (pc, ls, st, σ) = rb_nxt C 8 false (some .int) (decode cX8_hold pc) pc ls st σ := rfl
theorem en_108 {d k : Nat} {As : List Value} {ls : rb_L} {σ : rb_S} (h : rb_ent 5 As = some ls) : rb_R (d + 1) 108 As σ = rb_gg (rb_stp (rb_R d) rb_m108) k (0, ls, [], σ) := by
  have e : rb_prog[108]? = some rb_m108 := rfl
  have h2 : rb_ent rb_m108.2.2.2.1 As = some ls := h
  simp only [rb_R, e, h2]
  rfl
theorem st_109 {C : rb_C} {pc : Nat} {ls : rb_L} {st : List Value} {σ : rb_S} : rb_stp C rb_m109 (pc, ls, st, σ) = rb_nxt C 8 false (some .int) (decode cX8_value pc) pc ls st σ := rfl
theorem en_109 {d k : Nat} {As : List Value} {ls : rb_L} {σ : rb_S} (h : rb_ent 3 As = some ls) : rb_R (d + 1) 109 As σ = rb_gg (rb_stp (rb_R d) rb_m109) k (0, ls, [], σ) := by
  have e : rb_prog[109]? = some rb_m109 := rfl
  have h2 : rb_ent rb_m109.2.2.2.1 As = some ls := h
  simp only [rb_R, e, h2]
  rfl
theorem st_110 {C : rb_C} {pc : Nat} {ls : rb_L} {st : List Value} {σ : rb_S} : rb_stp C rb_m110 (pc, ls, st, σ) = rb_nxt C 8 false (some .int) (decode cX8_slope pc) pc ls st σ := rfl
theorem en_110 {d k : Nat} {As : List Value} {ls : rb_L} {σ : rb_S} (h : rb_ent 4 As = some ls) : rb_R (d + 1) 110 As σ = rb_gg (rb_stp (rb_R d) rb_m110) k (0, ls, [], σ) := by
  have e : rb_prog[110]? = some rb_m110 := rfl
  have h2 : rb_ent rb_m110.2.2.2.1 As = some ls := h
  simp only [rb_R, e, h2]
  rfl
theorem st_111 {C : rb_C} {pc : Nat} {ls : rb_L} {st : List Value} {σ : rb_S} : rb_stp C rb_m111 (pc, ls, st, σ) = rb_nxt C 8 false (some .int) (decode cX8_fence pc) pc ls st σ := rfl
theorem en_111 {d k : Nat} {As : List Value} {ls : rb_L} {σ : rb_S} (h : rb_ent 3 As = some ls) : rb_R (d + 1) 111 As σ = rb_gg (rb_stp (rb_R d) rb_m111) k (0, ls, [], σ) := by
  have e : rb_prog[111]? = some rb_m111 := rfl
  have h2 : rb_ent rb_m111.2.2.2.1 As = some ls := h
  simp only [rb_R, e, h2]
  rfl
theorem st_112 {C : rb_C} {pc : Nat} {ls : rb_L} {st : List Value} {σ : rb_S} : rb_stp C rb_m112 (pc, ls, st, σ) = rb_nxt C 8 false (some .int) (decode cX8_verdict pc) pc ls st σ := rfl
theorem en_112 {d k : Nat} {As : List Value} {ls : rb_L} {σ : rb_S} (h : rb_ent 1 As = some ls) : rb_R (d + 1) 112 As σ = rb_gg (rb_stp (rb_R d) rb_m112) k (0, ls, [], σ) := by
  have e : rb_prog[112]? = some rb_m112 := rfl
  have h2 : rb_ent rb_m112.2.2.2.1 As = some ls := h
  simp only [rb_R, e, h2]
  rfl
theorem st_113 {C : rb_C} {pc : Nat} {ls : rb_L} {st : List Value} {σ : rb_S} : rb_stp C rb_m113 (pc, ls, st, σ) = rb_nxt C 8 false (some .int) (decode cX8_begin pc) pc ls st σ := rfl
theorem en_113 {d k : Nat} {As : List Value} {ls : rb_L} {σ : rb_S} (h : rb_ent 5 As = some ls) : rb_R (d + 1) 113 As σ = rb_gg (rb_stp (rb_R d) rb_m113) k (0, ls, [], σ) := by
  have e : rb_prog[113]? = some rb_m113 := rfl
  have h2 : rb_ent rb_m113.2.2.2.1 As = some ls := h
  simp only [rb_R, e, h2]
  rfl
theorem st_114 {C : rb_C} {pc : Nat} {ls : rb_L} {st : List Value} {σ : rb_S} : rb_stp C rb_m114 (pc, ls, st, σ) = rb_nxt C 8 false (some .int) (decode cX8_least pc) pc ls st σ := rfl
theorem en_114 {d k : Nat} {As : List Value} {ls : rb_L} {σ : rb_S} (h : rb_ent 3 As = some ls) : rb_R (d + 1) 114 As σ = rb_gg (rb_stp (rb_R d) rb_m114) k (0, ls, [], σ) := by
  have e : rb_prog[114]? = some rb_m114 := rfl
  have h2 : rb_ent rb_m114.2.2.2.1 As = some ls := h
  simp only [rb_R, e, h2]
  rfl
theorem st_115 {C : rb_C} {pc : Nat} {ls : rb_L} {st : List Value} {σ : rb_S} : rb_stp C rb_m115 (pc, ls, st, σ) = rb_nxt C 8 false (some .int) (decode cX8_step pc) pc ls st σ := rfl
theorem en_115 {d k : Nat} {As : List Value} {ls : rb_L} {σ : rb_S} (h : rb_ent 1 As = some ls) : rb_R (d + 1) 115 As σ = rb_gg (rb_stp (rb_R d) rb_m115) k (0, ls, [], σ) := by
  have e : rb_prog[115]? = some rb_m115 := rfl
  have h2 : rb_ent rb_m115.2.2.2.1 As = some ls := h
  simp only [rb_R, e, h2]
  rfl
theorem st_116 {C : rb_C} {pc : Nat} {ls : rb_L} {st : List Value} {σ : rb_S} : rb_stp C rb_m116 (pc, ls, st, σ) = rb_nxt C 8 false (some .int) (decode cX8_steps pc) pc ls st σ := rfl
theorem en_116 {d k : Nat} {As : List Value} {ls : rb_L} {σ : rb_S} (h : rb_ent 3 As = some ls) : rb_R (d + 1) 116 As σ = rb_gg (rb_stp (rb_R d) rb_m116) k (0, ls, [], σ) := by
  have e : rb_prog[116]? = some rb_m116 := rfl
  have h2 : rb_ent rb_m116.2.2.2.1 As = some ls := h
  simp only [rb_R, e, h2]
  rfl
theorem st_117 {C : rb_C} {pc : Nat} {ls : rb_L} {st : List Value} {σ : rb_S} : rb_stp C rb_m117 (pc, ls, st, σ) = rb_nxt C 8 false (some .int) (decode cX8_first pc) pc ls st σ := rfl
theorem en_117 {d k : Nat} {As : List Value} {ls : rb_L} {σ : rb_S} (h : rb_ent 3 As = some ls) : rb_R (d + 1) 117 As σ = rb_gg (rb_stp (rb_R d) rb_m117) k (0, ls, [], σ) := by
  have e : rb_prog[117]? = some rb_m117 := rfl
  have h2 : rb_ent rb_m117.2.2.2.1 As = some ls := h
  simp only [rb_R, e, h2]
  rfl
theorem st_118 {C : rb_C} {pc : Nat} {ls : rb_L} {st : List Value} {σ : rb_S} : rb_stp C rb_m118 (pc, ls, st, σ) = rb_nxt C 8 false (some .int) (decode cX8_solved pc) pc ls st σ := rfl
theorem en_118 {d k : Nat} {As : List Value} {ls : rb_L} {σ : rb_S} (h : rb_ent 3 As = some ls) : rb_R (d + 1) 118 As σ = rb_gg (rb_stp (rb_R d) rb_m118) k (0, ls, [], σ) := by
  have e : rb_prog[118]? = some rb_m118 := rfl
  have h2 : rb_ent rb_m118.2.2.2.1 As = some ls := h
  simp only [rb_R, e, h2]
  rfl
theorem st_119 {C : rb_C} {pc : Nat} {ls : rb_L} {st : List Value} {σ : rb_S} : rb_stp C rb_m119 (pc, ls, st, σ) = rb_nxt C 8 false (some .int) (decode cX8_doubtful pc) pc ls st σ := rfl
theorem en_119 {d k : Nat} {As : List Value} {ls : rb_L} {σ : rb_S} (h : rb_ent 3 As = some ls) : rb_R (d + 1) 119 As σ = rb_gg (rb_stp (rb_R d) rb_m119) k (0, ls, [], σ) := by
  have e : rb_prog[119]? = some rb_m119 := rfl
  have h2 : rb_ent rb_m119.2.2.2.1 As = some ls := h
  simp only [rb_R, e, h2]
  rfl
theorem st_120 {C : rb_C} {pc : Nat} {ls : rb_L} {st : List Value} {σ : rb_S} : rb_stp C rb_m120 (pc, ls, st, σ) = rb_nxt C 8 false (some .int) (decode cX8_entry pc) pc ls st σ := rfl
theorem en_120 {d k : Nat} {As : List Value} {ls : rb_L} {σ : rb_S} (h : rb_ent 3 As = some ls) : rb_R (d + 1) 120 As σ = rb_gg (rb_stp (rb_R d) rb_m120) k (0, ls, [], σ) := by
  have e : rb_prog[120]? = some rb_m120 := rfl
  have h2 : rb_ent rb_m120.2.2.2.1 As = some ls := h
  simp only [rb_R, e, h2]
  rfl
theorem st_121 {C : rb_C} {pc : Nat} {ls : rb_L} {st : List Value} {σ : rb_S} : rb_stp C rb_m121 (pc, ls, st, σ) = rb_nxt C 8 false (some .int) (decode cX8_broken pc) pc ls st σ := rfl
theorem en_121 {d k : Nat} {As : List Value} {ls : rb_L} {σ : rb_S} (h : rb_ent 3 As = some ls) : rb_R (d + 1) 121 As σ = rb_gg (rb_stp (rb_R d) rb_m121) k (0, ls, [], σ) := by
  have e : rb_prog[121]? = some rb_m121 := rfl
  have h2 : rb_ent rb_m121.2.2.2.1 As = some ls := h
  simp only [rb_R, e, h2]
  rfl
theorem st_122 {C : rb_C} {pc : Nat} {ls : rb_L} {st : List Value} {σ : rb_S} : rb_stp C rb_m122 (pc, ls, st, σ) = rb_nxt C 8 false (some .int) (decode cX8_find pc) pc ls st σ := rfl
theorem en_122 {d k : Nat} {As : List Value} {ls : rb_L} {σ : rb_S} (h : rb_ent 3 As = some ls) : rb_R (d + 1) 122 As σ = rb_gg (rb_stp (rb_R d) rb_m122) k (0, ls, [], σ) := by
  have e : rb_prog[122]? = some rb_m122 := rfl
  have h2 : rb_ent rb_m122.2.2.2.1 As = some ls := h
  simp only [rb_R, e, h2]
  rfl
theorem st_123 {C : rb_C} {pc : Nat} {ls : rb_L} {st : List Value} {σ : rb_S} : rb_stp C rb_m123 (pc, ls, st, σ) = rb_nxt C 8 false (some .int) (decode cX8_keep pc) pc ls st σ := rfl
theorem en_123 {d k : Nat} {As : List Value} {ls : rb_L} {σ : rb_S} (h : rb_ent 2 As = some ls) : rb_R (d + 1) 123 As σ = rb_gg (rb_stp (rb_R d) rb_m123) k (0, ls, [], σ) := by
  have e : rb_prog[123]? = some rb_m123 := rfl
  have h2 : rb_ent rb_m123.2.2.2.1 As = some ls := h
  simp only [rb_R, e, h2]
  rfl
theorem st_124 {C : rb_C} {pc : Nat} {ls : rb_L} {st : List Value} {σ : rb_S} : rb_stp C rb_m124 (pc, ls, st, σ) = rb_nxt C 8 false (some .int) (decode cX8_back pc) pc ls st σ := rfl
theorem en_124 {d k : Nat} {As : List Value} {ls : rb_L} {σ : rb_S} (h : rb_ent 2 As = some ls) : rb_R (d + 1) 124 As σ = rb_gg (rb_stp (rb_R d) rb_m124) k (0, ls, [], σ) := by
  have e : rb_prog[124]? = some rb_m124 := rfl
  have h2 : rb_ent rb_m124.2.2.2.1 As = some ls := h
  simp only [rb_R, e, h2]
  rfl
theorem st_125 {C : rb_C} {pc : Nat} {ls : rb_L} {st : List Value} {σ : rb_S} : rb_stp C rb_m125 (pc, ls, st, σ) = rb_nxt C 8 false (some .int) (decode cX8_count pc) pc ls st σ := rfl
theorem en_125 {d k : Nat} {As : List Value} {ls : rb_L} {σ : rb_S} (h : rb_ent 2 As = some ls) : rb_R (d + 1) 125 As σ = rb_gg (rb_stp (rb_R d) rb_m125) k (0, ls, [], σ) := by
  have e : rb_prog[125]? = some rb_m125 := rfl
  have h2 : rb_ent rb_m125.2.2.2.1 As = some ls := h
  simp only [rb_R, e, h2]
  rfl
theorem st_126 {C : rb_C} {pc : Nat} {ls : rb_L} {st : List Value} {σ : rb_S} : rb_stp C rb_m126 (pc, ls, st, σ) = rb_nxt C 8 false none (decode cX8_doClause pc) pc ls st σ := rfl
theorem en_126 {d k : Nat} {As : List Value} {ls : rb_L} {σ : rb_S} (h : rb_ent 5 As = some ls) : rb_R (d + 1) 126 As σ = rb_gg (rb_stp (rb_R d) rb_m126) k (0, ls, [], σ) := by
  have e : rb_prog[126]? = some rb_m126 := rfl
  have h2 : rb_ent rb_m126.2.2.2.1 As = some ls := h
  simp only [rb_R, e, h2]
  rfl
theorem st_127 {C : rb_C} {pc : Nat} {ls : rb_L} {st : List Value} {σ : rb_S} : rb_stp C rb_m127 (pc, ls, st, σ) = rb_nxt C 8 false (some .int) (decode cX8_endOf pc) pc ls st σ := rfl
theorem en_127 {d k : Nat} {As : List Value} {ls : rb_L} {σ : rb_S} (h : rb_ent 3 As = some ls) : rb_R (d + 1) 127 As σ = rb_gg (rb_stp (rb_R d) rb_m127) k (0, ls, [], σ) := by
  have e : rb_prog[127]? = some rb_m127 := rfl
  have h2 : rb_ent rb_m127.2.2.2.1 As = some ls := h
  simp only [rb_R, e, h2]
  rfl
theorem st_128 {C : rb_C} {pc : Nat} {ls : rb_L} {st : List Value} {σ : rb_S} : rb_stp C rb_m128 (pc, ls, st, σ) = rb_nxt C 8 false (some .boolean) (decode cX8_isPolynomial pc) pc ls st σ := rfl
theorem en_128 {d k : Nat} {As : List Value} {ls : rb_L} {σ : rb_S} (h : rb_ent 1 As = some ls) : rb_R (d + 1) 128 As σ = rb_gg (rb_stp (rb_R d) rb_m128) k (0, ls, [], σ) := by
  have e : rb_prog[128]? = some rb_m128 := rfl
  have h2 : rb_ent rb_m128.2.2.2.1 As = some ls := h
  simp only [rb_R, e, h2]
  rfl
theorem st_129 {C : rb_C} {pc : Nat} {ls : rb_L} {st : List Value} {σ : rb_S} : rb_stp C rb_m129 (pc, ls, st, σ) = rb_nxt C 8 false (some .boolean) (decode cX8_isPlace pc) pc ls st σ := rfl
theorem en_129 {d k : Nat} {As : List Value} {ls : rb_L} {σ : rb_S} (h : rb_ent 2 As = some ls) : rb_R (d + 1) 129 As σ = rb_gg (rb_stp (rb_R d) rb_m129) k (0, ls, [], σ) := by
  have e : rb_prog[129]? = some rb_m129 := rfl
  have h2 : rb_ent rb_m129.2.2.2.1 As = some ls := h
  simp only [rb_R, e, h2]
  rfl
theorem st_130 {C : rb_C} {pc : Nat} {ls : rb_L} {st : List Value} {σ : rb_S} : rb_stp C rb_m130 (pc, ls, st, σ) = rb_nxt C 8 false (some .boolean) (decode cX8_isEnd pc) pc ls st σ := rfl
theorem en_130 {d k : Nat} {As : List Value} {ls : rb_L} {σ : rb_S} (h : rb_ent 1 As = some ls) : rb_R (d + 1) 130 As σ = rb_gg (rb_stp (rb_R d) rb_m130) k (0, ls, [], σ) := by
  have e : rb_prog[130]? = some rb_m130 := rfl
  have h2 : rb_ent rb_m130.2.2.2.1 As = some ls := h
  simp only [rb_R, e, h2]
  rfl
theorem st_131 {C : rb_C} {pc : Nat} {ls : rb_L} {st : List Value} {σ : rb_S} : rb_stp C rb_m131 (pc, ls, st, σ) = rb_nxt C 8 false (some .boolean) (decode cX8_isSpan pc) pc ls st σ := rfl
theorem en_131 {d k : Nat} {As : List Value} {ls : rb_L} {σ : rb_S} (h : rb_ent 2 As = some ls) : rb_R (d + 1) 131 As σ = rb_gg (rb_stp (rb_R d) rb_m131) k (0, ls, [], σ) := by
  have e : rb_prog[131]? = some rb_m131 := rfl
  have h2 : rb_ent rb_m131.2.2.2.1 As = some ls := h
  simp only [rb_R, e, h2]
  rfl
theorem st_132 {C : rb_C} {pc : Nat} {ls : rb_L} {st : List Value} {σ : rb_S} : rb_stp C rb_m132 (pc, ls, st, σ) = rb_nxt C 8 false (some .boolean) (decode cX8_isEndNumber pc) pc ls st σ := rfl
theorem en_132 {d k : Nat} {As : List Value} {ls : rb_L} {σ : rb_S} (h : rb_ent 1 As = some ls) : rb_R (d + 1) 132 As σ = rb_gg (rb_stp (rb_R d) rb_m132) k (0, ls, [], σ) := by
  have e : rb_prog[132]? = some rb_m132 := rfl
  have h2 : rb_ent rb_m132.2.2.2.1 As = some ls := h
  simp only [rb_R, e, h2]
  rfl
theorem st_133 {C : rb_C} {pc : Nat} {ls : rb_L} {st : List Value} {σ : rb_S} : rb_stp C rb_m133 (pc, ls, st, σ) = rb_nxt C 9 true none (decode cX9_init pc) pc ls st σ := rfl
theorem en_133 {d k : Nat} {As : List Value} {ls : rb_L} {σ : rb_S} (h : rb_ent 1 As = some ls) : rb_R (d + 1) 133 As σ = rb_gg (rb_stp (rb_R d) rb_m133) k (0, ls, [], σ) := by
  have e : rb_prog[133]? = some rb_m133 := rfl
  have h2 : rb_ent rb_m133.2.2.2.1 As = some ls := h
  simp only [rb_R, e, h2]
  rfl
theorem st_134 {C : rb_C} {pc : Nat} {ls : rb_L} {st : List Value} {σ : rb_S} : rb_stp C rb_m134 (pc, ls, st, σ) = rb_nxt C 9 false (some .boolean) (decode cX9_in pc) pc ls st σ := rfl
theorem en_134 {d k : Nat} {As : List Value} {ls : rb_L} {σ : rb_S} (h : rb_ent 3 As = some ls) : rb_R (d + 1) 134 As σ = rb_gg (rb_stp (rb_R d) rb_m134) k (0, ls, [], σ) := by
  have e : rb_prog[134]? = some rb_m134 := rfl
  have h2 : rb_ent rb_m134.2.2.2.1 As = some ls := h
  simp only [rb_R, e, h2]
  rfl
theorem st_135 {C : rb_C} {pc : Nat} {ls : rb_L} {st : List Value} {σ : rb_S} : rb_stp C rb_m135 (pc, ls, st, σ) = rb_nxt C 9 false (some .long) (decode cX9_down pc) pc ls st σ := rfl
theorem en_135 {d k : Nat} {As : List Value} {ls : rb_L} {σ : rb_S} (h : rb_ent 10 As = some ls) : rb_R (d + 1) 135 As σ = rb_gg (rb_stp (rb_R d) rb_m135) k (0, ls, [], σ) := by
  have e : rb_prog[135]? = some rb_m135 := rfl
  have h2 : rb_ent rb_m135.2.2.2.1 As = some ls := h
  simp only [rb_R, e, h2]
  rfl
theorem st_136 {C : rb_C} {pc : Nat} {ls : rb_L} {st : List Value} {σ : rb_S} : rb_stp C rb_m136 (pc, ls, st, σ) = rb_nxt C 9 false (some .long) (decode cX9_up pc) pc ls st σ := rfl
theorem en_136 {d k : Nat} {As : List Value} {ls : rb_L} {σ : rb_S} (h : rb_ent 4 As = some ls) : rb_R (d + 1) 136 As σ = rb_gg (rb_stp (rb_R d) rb_m136) k (0, ls, [], σ) := by
  have e : rb_prog[136]? = some rb_m136 := rfl
  have h2 : rb_ent rb_m136.2.2.2.1 As = some ls := h
  simp only [rb_R, e, h2]
  rfl
theorem st_137 {C : rb_C} {pc : Nat} {ls : rb_L} {st : List Value} {σ : rb_S} : rb_stp C rb_m137 (pc, ls, st, σ) = rb_nxt C 9 false (some .long) (decode cX9_lesser pc) pc ls st σ := rfl
theorem en_137 {d k : Nat} {As : List Value} {ls : rb_L} {σ : rb_S} (h : rb_ent 4 As = some ls) : rb_R (d + 1) 137 As σ = rb_gg (rb_stp (rb_R d) rb_m137) k (0, ls, [], σ) := by
  have e : rb_prog[137]? = some rb_m137 := rfl
  have h2 : rb_ent rb_m137.2.2.2.1 As = some ls := h
  simp only [rb_R, e, h2]
  rfl
theorem st_138 {C : rb_C} {pc : Nat} {ls : rb_L} {st : List Value} {σ : rb_S} : rb_stp C rb_m138 (pc, ls, st, σ) = rb_nxt C 9 false (some .long) (decode cX9_greater pc) pc ls st σ := rfl
theorem en_138 {d k : Nat} {As : List Value} {ls : rb_L} {σ : rb_S} (h : rb_ent 4 As = some ls) : rb_R (d + 1) 138 As σ = rb_gg (rb_stp (rb_R d) rb_m138) k (0, ls, [], σ) := by
  have e : rb_prog[138]? = some rb_m138 := rfl
  have h2 : rb_ent rb_m138.2.2.2.1 As = some ls := h
  simp only [rb_R, e, h2]
  rfl
theorem st_139 {C : rb_C} {pc : Nat} {ls : rb_L} {st : List Value} {σ : rb_S} : rb_stp C rb_m139 (pc, ls, st, σ) = rb_nxt C 9 false none (decode cX9_product pc) pc ls st σ := rfl
theorem en_139 {d k : Nat} {As : List Value} {ls : rb_L} {σ : rb_S} (h : rb_ent 14 As = some ls) : rb_R (d + 1) 139 As σ = rb_gg (rb_stp (rb_R d) rb_m139) k (0, ls, [], σ) := by
  have e : rb_prog[139]? = some rb_m139 := rfl
  have h2 : rb_ent rb_m139.2.2.2.1 As = some ls := h
  simp only [rb_R, e, h2]
  rfl
theorem st_140 {C : rb_C} {pc : Nat} {ls : rb_L} {st : List Value} {σ : rb_S} : rb_stp C rb_m140 (pc, ls, st, σ) = rb_nxt C 9 false none (decode cX9_quotient pc) pc ls st σ := rfl
theorem en_140 {d k : Nat} {As : List Value} {ls : rb_L} {σ : rb_S} (h : rb_ent 13 As = some ls) : rb_R (d + 1) 140 As σ = rb_gg (rb_stp (rb_R d) rb_m140) k (0, ls, [], σ) := by
  have e : rb_prog[140]? = some rb_m140 := rfl
  have h2 : rb_ent rb_m140.2.2.2.1 As = some ls := h
  simp only [rb_R, e, h2]
  rfl
theorem st_141 {C : rb_C} {pc : Nat} {ls : rb_L} {st : List Value} {σ : rb_S} : rb_stp C rb_m141 (pc, ls, st, σ) = rb_nxt C 9 false none (decode cX9_lessens pc) pc ls st σ := rfl
theorem en_141 {d k : Nat} {As : List Value} {ls : rb_L} {σ : rb_S} (h : rb_ent 8 As = some ls) : rb_R (d + 1) 141 As σ = rb_gg (rb_stp (rb_R d) rb_m141) k (0, ls, [], σ) := by
  have e : rb_prog[141]? = some rb_m141 := rfl
  have h2 : rb_ent rb_m141.2.2.2.1 As = some ls := h
  simp only [rb_R, e, h2]
  rfl
theorem st_142 {C : rb_C} {pc : Nat} {ls : rb_L} {st : List Value} {σ : rb_S} : rb_stp C rb_m142 (pc, ls, st, σ) = rb_nxt C 9 false none (decode cX9_crosses pc) pc ls st σ := rfl
theorem en_142 {d k : Nat} {As : List Value} {ls : rb_L} {σ : rb_S} (h : rb_ent 6 As = some ls) : rb_R (d + 1) 142 As σ = rb_gg (rb_stp (rb_R d) rb_m142) k (0, ls, [], σ) := by
  have e : rb_prog[142]? = some rb_m142 := rfl
  have h2 : rb_ent rb_m142.2.2.2.1 As = some ls := h
  simp only [rb_R, e, h2]
  rfl
theorem st_143 {C : rb_C} {pc : Nat} {ls : rb_L} {st : List Value} {σ : rb_S} : rb_stp C rb_m143 (pc, ls, st, σ) = rb_nxt C 9 false none (decode cX9_powers pc) pc ls st σ := rfl
theorem en_143 {d k : Nat} {As : List Value} {ls : rb_L} {σ : rb_S} (h : rb_ent 5 As = some ls) : rb_R (d + 1) 143 As σ = rb_gg (rb_stp (rb_R d) rb_m143) k (0, ls, [], σ) := by
  have e : rb_prog[143]? = some rb_m143 := rfl
  have h2 : rb_ent rb_m143.2.2.2.1 As = some ls := h
  simp only [rb_R, e, h2]
  rfl
theorem st_144 {C : rb_C} {pc : Nat} {ls : rb_L} {st : List Value} {σ : rb_S} : rb_stp C rb_m144 (pc, ls, st, σ) = rb_nxt C 9 false none (decode cX9_adds pc) pc ls st σ := rfl
theorem en_144 {d k : Nat} {As : List Value} {ls : rb_L} {σ : rb_S} (h : rb_ent 5 As = some ls) : rb_R (d + 1) 144 As σ = rb_gg (rb_stp (rb_R d) rb_m144) k (0, ls, [], σ) := by
  have e : rb_prog[144]? = some rb_m144 := rfl
  have h2 : rb_ent rb_m144.2.2.2.1 As = some ls := h
  simp only [rb_R, e, h2]
  rfl
theorem st_145 {C : rb_C} {pc : Nat} {ls : rb_L} {st : List Value} {σ : rb_S} : rb_stp C rb_m145 (pc, ls, st, σ) = rb_nxt C 9 false none (decode cX9_reckons pc) pc ls st σ := rfl
theorem en_145 {d k : Nat} {As : List Value} {ls : rb_L} {σ : rb_S} (h : rb_ent 7 As = some ls) : rb_R (d + 1) 145 As σ = rb_gg (rb_stp (rb_R d) rb_m145) k (0, ls, [], σ) := by
  have e : rb_prog[145]? = some rb_m145 := rfl
  have h2 : rb_ent rb_m145.2.2.2.1 As = some ls := h
  simp only [rb_R, e, h2]
  rfl
theorem st_146 {C : rb_C} {pc : Nat} {ls : rb_L} {st : List Value} {σ : rb_S} : rb_stp C rb_m146 (pc, ls, st, σ) = rb_nxt C 9 false (some .int) (decode cX9_middle pc) pc ls st σ := rfl
theorem en_146 {d k : Nat} {As : List Value} {ls : rb_L} {σ : rb_S} (h : rb_ent 2 As = some ls) : rb_R (d + 1) 146 As σ = rb_gg (rb_stp (rb_R d) rb_m146) k (0, ls, [], σ) := by
  have e : rb_prog[146]? = some rb_m146 := rfl
  have h2 : rb_ent rb_m146.2.2.2.1 As = some ls := h
  simp only [rb_R, e, h2]
  rfl
theorem st_147 {C : rb_C} {pc : Nat} {ls : rb_L} {st : List Value} {σ : rb_S} : rb_stp C rb_m147 (pc, ls, st, σ) = rb_nxt C 9 false none (decode cX9_powersOfBox pc) pc ls st σ := rfl
theorem en_147 {d k : Nat} {As : List Value} {ls : rb_L} {σ : rb_S} (h : rb_ent 1 As = some ls) : rb_R (d + 1) 147 As σ = rb_gg (rb_stp (rb_R d) rb_m147) k (0, ls, [], σ) := by
  have e : rb_prog[147]? = some rb_m147 := rfl
  have h2 : rb_ent rb_m147.2.2.2.1 As = some ls := h
  simp only [rb_R, e, h2]
  rfl
theorem st_148 {C : rb_C} {pc : Nat} {ls : rb_L} {st : List Value} {σ : rb_S} : rb_stp C rb_m148 (pc, ls, st, σ) = rb_nxt C 9 false (some .boolean) (decode cX9_hasNot pc) pc ls st σ := rfl
theorem en_148 {d k : Nat} {As : List Value} {ls : rb_L} {σ : rb_S} (h : rb_ent 2 As = some ls) : rb_R (d + 1) 148 As σ = rb_gg (rb_stp (rb_R d) rb_m148) k (0, ls, [], σ) := by
  have e : rb_prog[148]? = some rb_m148 := rfl
  have h2 : rb_ent rb_m148.2.2.2.1 As = some ls := h
  simp only [rb_R, e, h2]
  rfl
theorem st_149 {C : rb_C} {pc : Nat} {ls : rb_L} {st : List Value} {σ : rb_S} : rb_stp C rb_m149 (pc, ls, st, σ) = rb_nxt C 9 false (some .boolean) (decode cX9_fences pc) pc ls st σ := rfl
theorem en_149 {d k : Nat} {As : List Value} {ls : rb_L} {σ : rb_S} (h : rb_ent 3 As = some ls) : rb_R (d + 1) 149 As σ = rb_gg (rb_stp (rb_R d) rb_m149) k (0, ls, [], σ) := by
  have e : rb_prog[149]? = some rb_m149 := rfl
  have h2 : rb_ent rb_m149.2.2.2.1 As = some ls := h
  simp only [rb_R, e, h2]
  rfl
theorem st_150 {C : rb_C} {pc : Nat} {ls : rb_L} {st : List Value} {σ : rb_S} : rb_stp C rb_m150 (pc, ls, st, σ) = rb_nxt C 9 false none (decode cX9_subtracted pc) pc ls st σ := rfl
theorem en_150 {d k : Nat} {As : List Value} {ls : rb_L} {σ : rb_S} (h : rb_ent 5 As = some ls) : rb_R (d + 1) 150 As σ = rb_gg (rb_stp (rb_R d) rb_m150) k (0, ls, [], σ) := by
  have e : rb_prog[150]? = some rb_m150 := rfl
  have h2 : rb_ent rb_m150.2.2.2.1 As = some ls := h
  simp only [rb_R, e, h2]
  rfl
theorem st_151 {C : rb_C} {pc : Nat} {ls : rb_L} {st : List Value} {σ : rb_S} : rb_stp C rb_m151 (pc, ls, st, σ) = rb_nxt C 9 false none (decode cX9_shares pc) pc ls st σ := rfl
theorem en_151 {d k : Nat} {As : List Value} {ls : rb_L} {σ : rb_S} (h : rb_ent 2 As = some ls) : rb_R (d + 1) 151 As σ = rb_gg (rb_stp (rb_R d) rb_m151) k (0, ls, [], σ) := by
  have e : rb_prog[151]? = some rb_m151 := rfl
  have h2 : rb_ent rb_m151.2.2.2.1 As = some ls := h
  simp only [rb_R, e, h2]
  rfl
theorem st_152 {C : rb_C} {pc : Nat} {ls : rb_L} {st : List Value} {σ : rb_S} : rb_stp C rb_m152 (pc, ls, st, σ) = rb_nxt C 9 false (some .boolean) (decode cX9_isWithin pc) pc ls st σ := rfl
theorem en_152 {d k : Nat} {As : List Value} {ls : rb_L} {σ : rb_S} (h : rb_ent 1 As = some ls) : rb_R (d + 1) 152 As σ = rb_gg (rb_stp (rb_R d) rb_m152) k (0, ls, [], σ) := by
  have e : rb_prog[152]? = some rb_m152 := rfl
  have h2 : rb_ent rb_m152.2.2.2.1 As = some ls := h
  simp only [rb_R, e, h2]
  rfl
theorem st_153 {C : rb_C} {pc : Nat} {ls : rb_L} {st : List Value} {σ : rb_S} : rb_stp C rb_m153 (pc, ls, st, σ) = rb_nxt C 9 false (some .int) (decode cX9_judges pc) pc ls st σ := rfl
theorem en_153 {d k : Nat} {As : List Value} {ls : rb_L} {σ : rb_S} (h : rb_ent 5 As = some ls) : rb_R (d + 1) 153 As σ = rb_gg (rb_stp (rb_R d) rb_m153) k (0, ls, [], σ) := by
  have e : rb_prog[153]? = some rb_m153 := rfl
  have h2 : rb_ent rb_m153.2.2.2.1 As = some ls := h
  simp only [rb_R, e, h2]
  rfl
theorem st_154 {C : rb_C} {pc : Nat} {ls : rb_L} {st : List Value} {σ : rb_S} : rb_stp C rb_m154 (pc, ls, st, σ) = rb_nxt C 9 false none (decode cX9_looksAt pc) pc ls st σ := rfl
theorem en_154 {d k : Nat} {As : List Value} {ls : rb_L} {σ : rb_S} (h : rb_ent 4 As = some ls) : rb_R (d + 1) 154 As σ = rb_gg (rb_stp (rb_R d) rb_m154) k (0, ls, [], σ) := by
  have e : rb_prog[154]? = some rb_m154 := rfl
  have h2 : rb_ent rb_m154.2.2.2.1 As = some ls := h
  simp only [rb_R, e, h2]
  rfl
theorem st_155 {C : rb_C} {pc : Nat} {ls : rb_L} {st : List Value} {σ : rb_S} : rb_stp C rb_m155 (pc, ls, st, σ) = rb_nxt C 9 false (some .boolean) (decode cX9_isPlace pc) pc ls st σ := rfl
theorem en_155 {d k : Nat} {As : List Value} {ls : rb_L} {σ : rb_S} (h : rb_ent 2 As = some ls) : rb_R (d + 1) 155 As σ = rb_gg (rb_stp (rb_R d) rb_m155) k (0, ls, [], σ) := by
  have e : rb_prog[155]? = some rb_m155 := rfl
  have h2 : rb_ent rb_m155.2.2.2.1 As = some ls := h
  simp only [rb_R, e, h2]
  rfl
theorem st_156 {C : rb_C} {pc : Nat} {ls : rb_L} {st : List Value} {σ : rb_S} : rb_stp C rb_m156 (pc, ls, st, σ) = rb_nxt C 9 false (some .int) (decode cX9_put pc) pc ls st σ := rfl
theorem en_156 {d k : Nat} {As : List Value} {ls : rb_L} {σ : rb_S} (h : rb_ent 6 As = some ls) : rb_R (d + 1) 156 As σ = rb_gg (rb_stp (rb_R d) rb_m156) k (0, ls, [], σ) := by
  have e : rb_prog[156]? = some rb_m156 := rfl
  have h2 : rb_ent rb_m156.2.2.2.1 As = some ls := h
  simp only [rb_R, e, h2]
  rfl
theorem st_157 {C : rb_C} {pc : Nat} {ls : rb_L} {st : List Value} {σ : rb_S} : rb_stp C rb_m157 (pc, ls, st, σ) = rb_nxt C 9 false (some .int) (decode cX9_term pc) pc ls st σ := rfl
theorem en_157 {d k : Nat} {As : List Value} {ls : rb_L} {σ : rb_S} (h : rb_ent 4 As = some ls) : rb_R (d + 1) 157 As σ = rb_gg (rb_stp (rb_R d) rb_m157) k (0, ls, [], σ) := by
  have e : rb_prog[157]? = some rb_m157 := rfl
  have h2 : rb_ent rb_m157.2.2.2.1 As = some ls := h
  simp only [rb_R, e, h2]
  rfl
theorem st_158 {C : rb_C} {pc : Nat} {ls : rb_L} {st : List Value} {σ : rb_S} : rb_stp C rb_m158 (pc, ls, st, σ) = rb_nxt C 9 false (some .boolean) (decode cX9_isNumber pc) pc ls st σ := rfl
theorem en_158 {d k : Nat} {As : List Value} {ls : rb_L} {σ : rb_S} (h : rb_ent 1 As = some ls) : rb_R (d + 1) 158 As σ = rb_gg (rb_stp (rb_R d) rb_m158) k (0, ls, [], σ) := by
  have e : rb_prog[158]? = some rb_m158 := rfl
  have h2 : rb_ent rb_m158.2.2.2.1 As = some ls := h
  simp only [rb_R, e, h2]
  rfl
theorem st_159 {C : rb_C} {pc : Nat} {ls : rb_L} {st : List Value} {σ : rb_S} : rb_stp C rb_m159 (pc, ls, st, σ) = rb_nxt C 9 false (some .long) (decode cX9_power pc) pc ls st σ := rfl
theorem en_159 {d k : Nat} {As : List Value} {ls : rb_L} {σ : rb_S} (h : rb_ent 6 As = some ls) : rb_R (d + 1) 159 As σ = rb_gg (rb_stp (rb_R d) rb_m159) k (0, ls, [], σ) := by
  have e : rb_prog[159]? = some rb_m159 := rfl
  have h2 : rb_ent rb_m159.2.2.2.1 As = some ls := h
  simp only [rb_R, e, h2]
  rfl
theorem st_160 {C : rb_C} {pc : Nat} {ls : rb_L} {st : List Value} {σ : rb_S} : rb_stp C rb_m160 (pc, ls, st, σ) = rb_nxt C 9 false (some .int) (decode cX9_sign pc) pc ls st σ := rfl
theorem en_160 {d k : Nat} {As : List Value} {ls : rb_L} {σ : rb_S} (h : rb_ent 8 As = some ls) : rb_R (d + 1) 160 As σ = rb_gg (rb_stp (rb_R d) rb_m160) k (0, ls, [], σ) := by
  have e : rb_prog[160]? = some rb_m160 := rfl
  have h2 : rb_ent rb_m160.2.2.2.1 As = some ls := h
  simp only [rb_R, e, h2]
  rfl
theorem st_161 {C : rb_C} {pc : Nat} {ls : rb_L} {st : List Value} {σ : rb_S} : rb_stp C rb_m161 (pc, ls, st, σ) = rb_nxt C 9 false (some .int) (decode cX9_greaterWidth pc) pc ls st σ := rfl
theorem en_161 {d k : Nat} {As : List Value} {ls : rb_L} {σ : rb_S} (h : rb_ent 4 As = some ls) : rb_R (d + 1) 161 As σ = rb_gg (rb_stp (rb_R d) rb_m161) k (0, ls, [], σ) := by
  have e : rb_prog[161]? = some rb_m161 := rfl
  have h2 : rb_ent rb_m161.2.2.2.1 As = some ls := h
  simp only [rb_R, e, h2]
  rfl
theorem st_162 {C : rb_C} {pc : Nat} {ls : rb_L} {st : List Value} {σ : rb_S} : rb_stp C rb_m162 (pc, ls, st, σ) = rb_nxt C 9 false (some .boolean) (decode cX9_areSpans pc) pc ls st σ := rfl
theorem en_162 {d k : Nat} {As : List Value} {ls : rb_L} {σ : rb_S} (h : rb_ent 4 As = some ls) : rb_R (d + 1) 162 As σ = rb_gg (rb_stp (rb_R d) rb_m162) k (0, ls, [], σ) := by
  have e : rb_prog[162]? = some rb_m162 := rfl
  have h2 : rb_ent rb_m162.2.2.2.1 As = some ls := h
  simp only [rb_R, e, h2]
  rfl
theorem st_163 {C : rb_C} {pc : Nat} {ls : rb_L} {st : List Value} {σ : rb_S} : rb_stp C rb_m163 (pc, ls, st, σ) = rb_nxt C 9 false none (decode cX9_sets pc) pc ls st σ := rfl
theorem en_163 {d k : Nat} {As : List Value} {ls : rb_L} {σ : rb_S} (h : rb_ent 6 As = some ls) : rb_R (d + 1) 163 As σ = rb_gg (rb_stp (rb_R d) rb_m163) k (0, ls, [], σ) := by
  have e : rb_prog[163]? = some rb_m163 := rfl
  have h2 : rb_ent rb_m163.2.2.2.1 As = some ls := h
  simp only [rb_R, e, h2]
  rfl
theorem st_164 {C : rb_C} {pc : Nat} {ls : rb_L} {st : List Value} {σ : rb_S} : rb_stp C rb_m164 (pc, ls, st, σ) = rb_nxt C 9 false (some .int) (decode cX9_hold pc) pc ls st σ := rfl
theorem en_164 {d k : Nat} {As : List Value} {ls : rb_L} {σ : rb_S} (h : rb_ent 5 As = some ls) : rb_R (d + 1) 164 As σ = rb_gg (rb_stp (rb_R d) rb_m164) k (0, ls, [], σ) := by
  have e : rb_prog[164]? = some rb_m164 := rfl
  have h2 : rb_ent rb_m164.2.2.2.1 As = some ls := h
  simp only [rb_R, e, h2]
  rfl
theorem st_165 {C : rb_C} {pc : Nat} {ls : rb_L} {st : List Value} {σ : rb_S} : rb_stp C rb_m165 (pc, ls, st, σ) = rb_nxt C 9 false (some .int) (decode cX9_value pc) pc ls st σ := rfl
theorem en_165 {d k : Nat} {As : List Value} {ls : rb_L} {σ : rb_S} (h : rb_ent 3 As = some ls) : rb_R (d + 1) 165 As σ = rb_gg (rb_stp (rb_R d) rb_m165) k (0, ls, [], σ) := by
  have e : rb_prog[165]? = some rb_m165 := rfl
  have h2 : rb_ent rb_m165.2.2.2.1 As = some ls := h
  simp only [rb_R, e, h2]
  rfl
theorem st_166 {C : rb_C} {pc : Nat} {ls : rb_L} {st : List Value} {σ : rb_S} : rb_stp C rb_m166 (pc, ls, st, σ) = rb_nxt C 9 false (some .int) (decode cX9_slope pc) pc ls st σ := rfl
theorem en_166 {d k : Nat} {As : List Value} {ls : rb_L} {σ : rb_S} (h : rb_ent 4 As = some ls) : rb_R (d + 1) 166 As σ = rb_gg (rb_stp (rb_R d) rb_m166) k (0, ls, [], σ) := by
  have e : rb_prog[166]? = some rb_m166 := rfl
  have h2 : rb_ent rb_m166.2.2.2.1 As = some ls := h
  simp only [rb_R, e, h2]
  rfl
theorem st_167 {C : rb_C} {pc : Nat} {ls : rb_L} {st : List Value} {σ : rb_S} : rb_stp C rb_m167 (pc, ls, st, σ) = rb_nxt C 9 false (some .int) (decode cX9_told pc) pc ls st σ := rfl
theorem en_167 {d k : Nat} {As : List Value} {ls : rb_L} {σ : rb_S} (h : rb_ent 2 As = some ls) : rb_R (d + 1) 167 As σ = rb_gg (rb_stp (rb_R d) rb_m167) k (0, ls, [], σ) := by
  have e : rb_prog[167]? = some rb_m167 := rfl
  have h2 : rb_ent rb_m167.2.2.2.1 As = some ls := h
  simp only [rb_R, e, h2]
  rfl
theorem st_168 {C : rb_C} {pc : Nat} {ls : rb_L} {st : List Value} {σ : rb_S} : rb_stp C rb_m168 (pc, ls, st, σ) = rb_nxt C 9 false (some .int) (decode cX9_fence pc) pc ls st σ := rfl
theorem en_168 {d k : Nat} {As : List Value} {ls : rb_L} {σ : rb_S} (h : rb_ent 3 As = some ls) : rb_R (d + 1) 168 As σ = rb_gg (rb_stp (rb_R d) rb_m168) k (0, ls, [], σ) := by
  have e : rb_prog[168]? = some rb_m168 := rfl
  have h2 : rb_ent rb_m168.2.2.2.1 As = some ls := h
  simp only [rb_R, e, h2]
  rfl
theorem st_169 {C : rb_C} {pc : Nat} {ls : rb_L} {st : List Value} {σ : rb_S} : rb_stp C rb_m169 (pc, ls, st, σ) = rb_nxt C 9 false (some .int) (decode cX9_verdict pc) pc ls st σ := rfl
theorem en_169 {d k : Nat} {As : List Value} {ls : rb_L} {σ : rb_S} (h : rb_ent 1 As = some ls) : rb_R (d + 1) 169 As σ = rb_gg (rb_stp (rb_R d) rb_m169) k (0, ls, [], σ) := by
  have e : rb_prog[169]? = some rb_m169 := rfl
  have h2 : rb_ent rb_m169.2.2.2.1 As = some ls := h
  simp only [rb_R, e, h2]
  rfl
theorem st_170 {C : rb_C} {pc : Nat} {ls : rb_L} {st : List Value} {σ : rb_S} : rb_stp C rb_m170 (pc, ls, st, σ) = rb_nxt C 9 false none (decode cX9_opens pc) pc ls st σ := rfl
theorem en_170 {d k : Nat} {As : List Value} {ls : rb_L} {σ : rb_S} (h : rb_ent 5 As = some ls) : rb_R (d + 1) 170 As σ = rb_gg (rb_stp (rb_R d) rb_m170) k (0, ls, [], σ) := by
  have e : rb_prog[170]? = some rb_m170 := rfl
  have h2 : rb_ent rb_m170.2.2.2.1 As = some ls := h
  simp only [rb_R, e, h2]
  rfl
theorem st_171 {C : rb_C} {pc : Nat} {ls : rb_L} {st : List Value} {σ : rb_S} : rb_stp C rb_m171 (pc, ls, st, σ) = rb_nxt C 9 false none (decode cX9_beginsAnew pc) pc ls st σ := rfl
theorem en_171 {d k : Nat} {As : List Value} {ls : rb_L} {σ : rb_S} (h : rb_ent 5 As = some ls) : rb_R (d + 1) 171 As σ = rb_gg (rb_stp (rb_R d) rb_m171) k (0, ls, [], σ) := by
  have e : rb_prog[171]? = some rb_m171 := rfl
  have h2 : rb_ent rb_m171.2.2.2.1 As = some ls := h
  simp only [rb_R, e, h2]
  rfl
theorem st_172 {C : rb_C} {pc : Nat} {ls : rb_L} {st : List Value} {σ : rb_S} : rb_stp C rb_m172 (pc, ls, st, σ) = rb_nxt C 9 false (some .int) (decode cX9_begin pc) pc ls st σ := rfl
theorem en_172 {d k : Nat} {As : List Value} {ls : rb_L} {σ : rb_S} (h : rb_ent 5 As = some ls) : rb_R (d + 1) 172 As σ = rb_gg (rb_stp (rb_R d) rb_m172) k (0, ls, [], σ) := by
  have e : rb_prog[172]? = some rb_m172 := rfl
  have h2 : rb_ent rb_m172.2.2.2.1 As = some ls := h
  simp only [rb_R, e, h2]
  rfl
theorem st_173 {C : rb_C} {pc : Nat} {ls : rb_L} {st : List Value} {σ : rb_S} : rb_stp C rb_m173 (pc, ls, st, σ) = rb_nxt C 9 false (some .int) (decode cX9_least pc) pc ls st σ := rfl
theorem en_173 {d k : Nat} {As : List Value} {ls : rb_L} {σ : rb_S} (h : rb_ent 3 As = some ls) : rb_R (d + 1) 173 As σ = rb_gg (rb_stp (rb_R d) rb_m173) k (0, ls, [], σ) := by
  have e : rb_prog[173]? = some rb_m173 := rfl
  have h2 : rb_ent rb_m173.2.2.2.1 As = some ls := h
  simp only [rb_R, e, h2]
  rfl
theorem st_174 {C : rb_C} {pc : Nat} {ls : rb_L} {st : List Value} {σ : rb_S} : rb_stp C rb_m174 (pc, ls, st, σ) = rb_nxt C 9 false (some .boolean) (decode cX9_isAhead pc) pc ls st σ := rfl
theorem en_174 {d k : Nat} {As : List Value} {ls : rb_L} {σ : rb_S} (h : rb_ent 3 As = some ls) : rb_R (d + 1) 174 As σ = rb_gg (rb_stp (rb_R d) rb_m174) k (0, ls, [], σ) := by
  have e : rb_prog[174]? = some rb_m174 := rfl
  have h2 : rb_ent rb_m174.2.2.2.1 As = some ls := h
  simp only [rb_R, e, h2]
  rfl
theorem st_175 {C : rb_C} {pc : Nat} {ls : rb_L} {st : List Value} {σ : rb_S} : rb_stp C rb_m175 (pc, ls, st, σ) = rb_nxt C 9 false (some .int) (decode cX9_firstAt pc) pc ls st σ := rfl
theorem en_175 {d k : Nat} {As : List Value} {ls : rb_L} {σ : rb_S} (h : rb_ent 5 As = some ls) : rb_R (d + 1) 175 As σ = rb_gg (rb_stp (rb_R d) rb_m175) k (0, ls, [], σ) := by
  have e : rb_prog[175]? = some rb_m175 := rfl
  have h2 : rb_ent rb_m175.2.2.2.1 As = some ls := h
  simp only [rb_R, e, h2]
  rfl
theorem st_176 {C : rb_C} {pc : Nat} {ls : rb_L} {st : List Value} {σ : rb_S} : rb_stp C rb_m176 (pc, ls, st, σ) = rb_nxt C 9 false none (decode cX9_closes pc) pc ls st σ := rfl
theorem en_176 {d k : Nat} {As : List Value} {ls : rb_L} {σ : rb_S} (h : rb_ent 3 As = some ls) : rb_R (d + 1) 176 As σ = rb_gg (rb_stp (rb_R d) rb_m176) k (0, ls, [], σ) := by
  have e : rb_prog[176]? = some rb_m176 := rfl
  have h2 : rb_ent rb_m176.2.2.2.1 As = some ls := h
  simp only [rb_R, e, h2]
  rfl
theorem st_177 {C : rb_C} {pc : Nat} {ls : rb_L} {st : List Value} {σ : rb_S} : rb_stp C rb_m177 (pc, ls, st, σ) = rb_nxt C 9 false none (decode cX9_parts pc) pc ls st σ := rfl
theorem en_177 {d k : Nat} {As : List Value} {ls : rb_L} {σ : rb_S} (h : rb_ent 3 As = some ls) : rb_R (d + 1) 177 As σ = rb_gg (rb_stp (rb_R d) rb_m177) k (0, ls, [], σ) := by
  have e : rb_prog[177]? = some rb_m177 := rfl
  have h2 : rb_ent rb_m177.2.2.2.1 As = some ls := h
  simp only [rb_R, e, h2]
  rfl
theorem st_178 {C : rb_C} {pc : Nat} {ls : rb_L} {st : List Value} {σ : rb_S} : rb_stp C rb_m178 (pc, ls, st, σ) = rb_nxt C 9 false none (decode cX9_goesOn pc) pc ls st σ := rfl
theorem en_178 {d k : Nat} {As : List Value} {ls : rb_L} {σ : rb_S} (h : rb_ent 3 As = some ls) : rb_R (d + 1) 178 As σ = rb_gg (rb_stp (rb_R d) rb_m178) k (0, ls, [], σ) := by
  have e : rb_prog[178]? = some rb_m178 := rfl
  have h2 : rb_ent rb_m178.2.2.2.1 As = some ls := h
  simp only [rb_R, e, h2]
  rfl
theorem st_179 {C : rb_C} {pc : Nat} {ls : rb_L} {st : List Value} {σ : rb_S} : rb_stp C rb_m179 (pc, ls, st, σ) = rb_nxt C 9 false (some .int) (decode cX9_step pc) pc ls st σ := rfl
theorem en_179 {d k : Nat} {As : List Value} {ls : rb_L} {σ : rb_S} (h : rb_ent 4 As = some ls) : rb_R (d + 1) 179 As σ = rb_gg (rb_stp (rb_R d) rb_m179) k (0, ls, [], σ) := by
  have e : rb_prog[179]? = some rb_m179 := rfl
  have h2 : rb_ent rb_m179.2.2.2.1 As = some ls := h
  simp only [rb_R, e, h2]
  rfl
theorem st_180 {C : rb_C} {pc : Nat} {ls : rb_L} {st : List Value} {σ : rb_S} : rb_stp C rb_m180 (pc, ls, st, σ) = rb_nxt C 9 false (some .int) (decode cX9_steps pc) pc ls st σ := rfl
theorem en_180 {d k : Nat} {As : List Value} {ls : rb_L} {σ : rb_S} (h : rb_ent 3 As = some ls) : rb_R (d + 1) 180 As σ = rb_gg (rb_stp (rb_R d) rb_m180) k (0, ls, [], σ) := by
  have e : rb_prog[180]? = some rb_m180 := rfl
  have h2 : rb_ent rb_m180.2.2.2.1 As = some ls := h
  simp only [rb_R, e, h2]
  rfl
theorem st_181 {C : rb_C} {pc : Nat} {ls : rb_L} {st : List Value} {σ : rb_S} : rb_stp C rb_m181 (pc, ls, st, σ) = rb_nxt C 9 false (some .int) (decode cX9_first pc) pc ls st σ := rfl
theorem en_181 {d k : Nat} {As : List Value} {ls : rb_L} {σ : rb_S} (h : rb_ent 2 As = some ls) : rb_R (d + 1) 181 As σ = rb_gg (rb_stp (rb_R d) rb_m181) k (0, ls, [], σ) := by
  have e : rb_prog[181]? = some rb_m181 := rfl
  have h2 : rb_ent rb_m181.2.2.2.1 As = some ls := h
  simp only [rb_R, e, h2]
  rfl
theorem st_182 {C : rb_C} {pc : Nat} {ls : rb_L} {st : List Value} {σ : rb_S} : rb_stp C rb_m182 (pc, ls, st, σ) = rb_nxt C 9 false (some .int) (decode cX9_solved pc) pc ls st σ := rfl
theorem en_182 {d k : Nat} {As : List Value} {ls : rb_L} {σ : rb_S} (h : rb_ent 9 As = some ls) : rb_R (d + 1) 182 As σ = rb_gg (rb_stp (rb_R d) rb_m182) k (0, ls, [], σ) := by
  have e : rb_prog[182]? = some rb_m182 := rfl
  have h2 : rb_ent rb_m182.2.2.2.1 As = some ls := h
  simp only [rb_R, e, h2]
  rfl
theorem st_183 {C : rb_C} {pc : Nat} {ls : rb_L} {st : List Value} {σ : rb_S} : rb_stp C rb_m183 (pc, ls, st, σ) = rb_nxt C 9 false (some .int) (decode cX9_doubtful pc) pc ls st σ := rfl
theorem en_183 {d k : Nat} {As : List Value} {ls : rb_L} {σ : rb_S} (h : rb_ent 3 As = some ls) : rb_R (d + 1) 183 As σ = rb_gg (rb_stp (rb_R d) rb_m183) k (0, ls, [], σ) := by
  have e : rb_prog[183]? = some rb_m183 := rfl
  have h2 : rb_ent rb_m183.2.2.2.1 As = some ls := h
  simp only [rb_R, e, h2]
  rfl
theorem st_184 {C : rb_C} {pc : Nat} {ls : rb_L} {st : List Value} {σ : rb_S} : rb_stp C rb_m184 (pc, ls, st, σ) = rb_nxt C 9 false (some .int) (decode cX9_verdictNow pc) pc ls st σ := rfl
theorem en_184 {d k : Nat} {As : List Value} {ls : rb_L} {σ : rb_S} (h : rb_ent 2 As = some ls) : rb_R (d + 1) 184 As σ = rb_gg (rb_stp (rb_R d) rb_m184) k (0, ls, [], σ) := by
  have e : rb_prog[184]? = some rb_m184 := rfl
  have h2 : rb_ent rb_m184.2.2.2.1 As = some ls := h
  simp only [rb_R, e, h2]
  rfl
theorem st_185 {C : rb_C} {pc : Nat} {ls : rb_L} {st : List Value} {σ : rb_S} : rb_stp C rb_m185 (pc, ls, st, σ) = rb_nxt C 9 false (some .int) (decode cX9_entry pc) pc ls st σ := rfl
theorem en_185 {d k : Nat} {As : List Value} {ls : rb_L} {σ : rb_S} (h : rb_ent 3 As = some ls) : rb_R (d + 1) 185 As σ = rb_gg (rb_stp (rb_R d) rb_m185) k (0, ls, [], σ) := by
  have e : rb_prog[185]? = some rb_m185 := rfl
  have h2 : rb_ent rb_m185.2.2.2.1 As = some ls := h
  simp only [rb_R, e, h2]
  rfl
theorem st_186 {C : rb_C} {pc : Nat} {ls : rb_L} {st : List Value} {σ : rb_S} : rb_stp C rb_m186 (pc, ls, st, σ) = rb_nxt C 9 false (some .int) (decode cX9_broken pc) pc ls st σ := rfl
theorem en_186 {d k : Nat} {As : List Value} {ls : rb_L} {σ : rb_S} (h : rb_ent 2 As = some ls) : rb_R (d + 1) 186 As σ = rb_gg (rb_stp (rb_R d) rb_m186) k (0, ls, [], σ) := by
  have e : rb_prog[186]? = some rb_m186 := rfl
  have h2 : rb_ent rb_m186.2.2.2.1 As = some ls := h
  simp only [rb_R, e, h2]
  rfl
theorem st_187 {C : rb_C} {pc : Nat} {ls : rb_L} {st : List Value} {σ : rb_S} : rb_stp C rb_m187 (pc, ls, st, σ) = rb_nxt C 9 false (some .boolean) (decode cX9_isIn pc) pc ls st σ := rfl
theorem en_187 {d k : Nat} {As : List Value} {ls : rb_L} {σ : rb_S} (h : rb_ent 4 As = some ls) : rb_R (d + 1) 187 As σ = rb_gg (rb_stp (rb_R d) rb_m187) k (0, ls, [], σ) := by
  have e : rb_prog[187]? = some rb_m187 := rfl
  have h2 : rb_ent rb_m187.2.2.2.1 As = some ls := h
  simp only [rb_R, e, h2]
  rfl
theorem st_188 {C : rb_C} {pc : Nat} {ls : rb_L} {st : List Value} {σ : rb_S} : rb_stp C rb_m188 (pc, ls, st, σ) = rb_nxt C 9 false (some .boolean) (decode cX9_isInAny pc) pc ls st σ := rfl
theorem en_188 {d k : Nat} {As : List Value} {ls : rb_L} {σ : rb_S} (h : rb_ent 7 As = some ls) : rb_R (d + 1) 188 As σ = rb_gg (rb_stp (rb_R d) rb_m188) k (0, ls, [], σ) := by
  have e : rb_prog[188]? = some rb_m188 := rfl
  have h2 : rb_ent rb_m188.2.2.2.1 As = some ls := h
  simp only [rb_R, e, h2]
  rfl
theorem st_189 {C : rb_C} {pc : Nat} {ls : rb_L} {st : List Value} {σ : rb_S} : rb_stp C rb_m189 (pc, ls, st, σ) = rb_nxt C 9 false (some .int) (decode cX9_find pc) pc ls st σ := rfl
theorem en_189 {d k : Nat} {As : List Value} {ls : rb_L} {σ : rb_S} (h : rb_ent 6 As = some ls) : rb_R (d + 1) 189 As σ = rb_gg (rb_stp (rb_R d) rb_m189) k (0, ls, [], σ) := by
  have e : rb_prog[189]? = some rb_m189 := rfl
  have h2 : rb_ent rb_m189.2.2.2.1 As = some ls := h
  simp only [rb_R, e, h2]
  rfl
theorem st_190 {C : rb_C} {pc : Nat} {ls : rb_L} {st : List Value} {σ : rb_S} : rb_stp C rb_m190 (pc, ls, st, σ) = rb_nxt C 9 false (some .int) (decode cX9_keep pc) pc ls st σ := rfl
theorem en_190 {d k : Nat} {As : List Value} {ls : rb_L} {σ : rb_S} (h : rb_ent 3 As = some ls) : rb_R (d + 1) 190 As σ = rb_gg (rb_stp (rb_R d) rb_m190) k (0, ls, [], σ) := by
  have e : rb_prog[190]? = some rb_m190 := rfl
  have h2 : rb_ent rb_m190.2.2.2.1 As = some ls := h
  simp only [rb_R, e, h2]
  rfl
theorem st_191 {C : rb_C} {pc : Nat} {ls : rb_L} {st : List Value} {σ : rb_S} : rb_stp C rb_m191 (pc, ls, st, σ) = rb_nxt C 9 false (some .int) (decode cX9_back pc) pc ls st σ := rfl
theorem en_191 {d k : Nat} {As : List Value} {ls : rb_L} {σ : rb_S} (h : rb_ent 3 As = some ls) : rb_R (d + 1) 191 As σ = rb_gg (rb_stp (rb_R d) rb_m191) k (0, ls, [], σ) := by
  have e : rb_prog[191]? = some rb_m191 := rfl
  have h2 : rb_ent rb_m191.2.2.2.1 As = some ls := h
  simp only [rb_R, e, h2]
  rfl
theorem st_192 {C : rb_C} {pc : Nat} {ls : rb_L} {st : List Value} {σ : rb_S} : rb_stp C rb_m192 (pc, ls, st, σ) = rb_nxt C 9 false (some .int) (decode cX9_write pc) pc ls st σ := rfl
theorem en_192 {d k : Nat} {As : List Value} {ls : rb_L} {σ : rb_S} (h : rb_ent 2 As = some ls) : rb_R (d + 1) 192 As σ = rb_gg (rb_stp (rb_R d) rb_m192) k (0, ls, [], σ) := by
  have e : rb_prog[192]? = some rb_m192 := rfl
  have h2 : rb_ent rb_m192.2.2.2.1 As = some ls := h
  simp only [rb_R, e, h2]
  rfl
theorem st_193 {C : rb_C} {pc : Nat} {ls : rb_L} {st : List Value} {σ : rb_S} : rb_stp C rb_m193 (pc, ls, st, σ) = rb_nxt C 9 false (some .int) (decode cX9_erase pc) pc ls st σ := rfl
theorem en_193 {d k : Nat} {As : List Value} {ls : rb_L} {σ : rb_S} (h : rb_ent 2 As = some ls) : rb_R (d + 1) 193 As σ = rb_gg (rb_stp (rb_R d) rb_m193) k (0, ls, [], σ) := by
  have e : rb_prog[193]? = some rb_m193 := rfl
  have h2 : rb_ent rb_m193.2.2.2.1 As = some ls := h
  simp only [rb_R, e, h2]
  rfl
theorem st_194 {C : rb_C} {pc : Nat} {ls : rb_L} {st : List Value} {σ : rb_S} : rb_stp C rb_m194 (pc, ls, st, σ) = rb_nxt C 9 false (some .boolean) (decode cX9_isLetter pc) pc ls st σ := rfl
theorem en_194 {d k : Nat} {As : List Value} {ls : rb_L} {σ : rb_S} (h : rb_ent 2 As = some ls) : rb_R (d + 1) 194 As σ = rb_gg (rb_stp (rb_R d) rb_m194) k (0, ls, [], σ) := by
  have e : rb_prog[194]? = some rb_m194 := rfl
  have h2 : rb_ent rb_m194.2.2.2.1 As = some ls := h
  simp only [rb_R, e, h2]
  rfl
theorem st_195 {C : rb_C} {pc : Nat} {ls : rb_L} {st : List Value} {σ : rb_S} : rb_stp C rb_m195 (pc, ls, st, σ) = rb_nxt C 9 false (some .boolean) (decode cX9_isFigure pc) pc ls st σ := rfl
theorem en_195 {d k : Nat} {As : List Value} {ls : rb_L} {σ : rb_S} (h : rb_ent 2 As = some ls) : rb_R (d + 1) 195 As σ = rb_gg (rb_stp (rb_R d) rb_m195) k (0, ls, [], σ) := by
  have e : rb_prog[195]? = some rb_m195 := rfl
  have h2 : rb_ent rb_m195.2.2.2.1 As = some ls := h
  simp only [rb_R, e, h2]
  rfl
theorem st_196 {C : rb_C} {pc : Nat} {ls : rb_L} {st : List Value} {σ : rb_S} : rb_stp C rb_m196 (pc, ls, st, σ) = rb_nxt C 9 false (some .int) (decode cX9_looks pc) pc ls st σ := rfl
theorem en_196 {d k : Nat} {As : List Value} {ls : rb_L} {σ : rb_S} (h : rb_ent 1 As = some ls) : rb_R (d + 1) 196 As σ = rb_gg (rb_stp (rb_R d) rb_m196) k (0, ls, [], σ) := by
  have e : rb_prog[196]? = some rb_m196 := rfl
  have h2 : rb_ent rb_m196.2.2.2.1 As = some ls := h
  simp only [rb_R, e, h2]
  rfl
theorem st_197 {C : rb_C} {pc : Nat} {ls : rb_L} {st : List Value} {σ : rb_S} : rb_stp C rb_m197 (pc, ls, st, σ) = rb_nxt C 9 false none (decode cX9_takes pc) pc ls st σ := rfl
theorem en_197 {d k : Nat} {As : List Value} {ls : rb_L} {σ : rb_S} (h : rb_ent 2 As = some ls) : rb_R (d + 1) 197 As σ = rb_gg (rb_stp (rb_R d) rb_m197) k (0, ls, [], σ) := by
  have e : rb_prog[197]? = some rb_m197 := rfl
  have h2 : rb_ent rb_m197.2.2.2.1 As = some ls := h
  simp only [rb_R, e, h2]
  rfl
theorem st_198 {C : rb_C} {pc : Nat} {ls : rb_L} {st : List Value} {σ : rb_S} : rb_stp C rb_m198 (pc, ls, st, σ) = rb_nxt C 9 false (some .int) (decode cX9_figures pc) pc ls st σ := rfl
theorem en_198 {d k : Nat} {As : List Value} {ls : rb_L} {σ : rb_S} (h : rb_ent 7 As = some ls) : rb_R (d + 1) 198 As σ = rb_gg (rb_stp (rb_R d) rb_m198) k (0, ls, [], σ) := by
  have e : rb_prog[198]? = some rb_m198 := rfl
  have h2 : rb_ent rb_m198.2.2.2.1 As = some ls := h
  simp only [rb_R, e, h2]
  rfl
theorem st_199 {C : rb_C} {pc : Nat} {ls : rb_L} {st : List Value} {σ : rb_S} : rb_stp C rb_m199 (pc, ls, st, σ) = rb_nxt C 9 false (some .int) (decode cX9_signed pc) pc ls st σ := rfl
theorem en_199 {d k : Nat} {As : List Value} {ls : rb_L} {σ : rb_S} (h : rb_ent 4 As = some ls) : rb_R (d + 1) 199 As σ = rb_gg (rb_stp (rb_R d) rb_m199) k (0, ls, [], σ) := by
  have e : rb_prog[199]? = some rb_m199 := rfl
  have h2 : rb_ent rb_m199.2.2.2.1 As = some ls := h
  simp only [rb_R, e, h2]
  rfl
theorem st_200 {C : rb_C} {pc : Nat} {ls : rb_L} {st : List Value} {σ : rb_S} : rb_stp C rb_m200 (pc, ls, st, σ) = rb_nxt C 9 false (some .boolean) (decode cX9_isName pc) pc ls st σ := rfl
theorem en_200 {d k : Nat} {As : List Value} {ls : rb_L} {σ : rb_S} (h : rb_ent 8 As = some ls) : rb_R (d + 1) 200 As σ = rb_gg (rb_stp (rb_R d) rb_m200) k (0, ls, [], σ) := by
  have e : rb_prog[200]? = some rb_m200 := rfl
  have h2 : rb_ent rb_m200.2.2.2.1 As = some ls := h
  simp only [rb_R, e, h2]
  rfl
theorem st_201 {C : rb_C} {pc : Nat} {ls : rb_L} {st : List Value} {σ : rb_S} : rb_stp C rb_m201 (pc, ls, st, σ) = rb_nxt C 9 false none (decode cX9_starts pc) pc ls st σ := rfl
theorem en_201 {d k : Nat} {As : List Value} {ls : rb_L} {σ : rb_S} (h : rb_ent 2 As = some ls) : rb_R (d + 1) 201 As σ = rb_gg (rb_stp (rb_R d) rb_m201) k (0, ls, [], σ) := by
  have e : rb_prog[201]? = some rb_m201 := rfl
  have h2 : rb_ent rb_m201.2.2.2.1 As = some ls := h
  simp only [rb_R, e, h2]
  rfl
theorem st_202 {C : rb_C} {pc : Nat} {ls : rb_L} {st : List Value} {σ : rb_S} : rb_stp C rb_m202 (pc, ls, st, σ) = rb_nxt C 9 false none (decode cX9_readsTerm pc) pc ls st σ := rfl
theorem en_202 {d k : Nat} {As : List Value} {ls : rb_L} {σ : rb_S} (h : rb_ent 5 As = some ls) : rb_R (d + 1) 202 As σ = rb_gg (rb_stp (rb_R d) rb_m202) k (0, ls, [], σ) := by
  have e : rb_prog[202]? = some rb_m202 := rfl
  have h2 : rb_ent rb_m202.2.2.2.1 As = some ls := h
  simp only [rb_R, e, h2]
  rfl
theorem st_203 {C : rb_C} {pc : Nat} {ls : rb_L} {st : List Value} {σ : rb_S} : rb_stp C rb_m203 (pc, ls, st, σ) = rb_nxt C 9 false none (decode cX9_readsBox pc) pc ls st σ := rfl
theorem en_203 {d k : Nat} {As : List Value} {ls : rb_L} {σ : rb_S} (h : rb_ent 5 As = some ls) : rb_R (d + 1) 203 As σ = rb_gg (rb_stp (rb_R d) rb_m203) k (0, ls, [], σ) := by
  have e : rb_prog[203]? = some rb_m203 := rfl
  have h2 : rb_ent rb_m203.2.2.2.1 As = some ls := h
  simp only [rb_R, e, h2]
  rfl
theorem st_204 {C : rb_C} {pc : Nat} {ls : rb_L} {st : List Value} {σ : rb_S} : rb_stp C rb_m204 (pc, ls, st, σ) = rb_nxt C 9 false none (decode cX9_clause pc) pc ls st σ := rfl
theorem en_204 {d k : Nat} {As : List Value} {ls : rb_L} {σ : rb_S} (h : rb_ent 3 As = some ls) : rb_R (d + 1) 204 As σ = rb_gg (rb_stp (rb_R d) rb_m204) k (0, ls, [], σ) := by
  have e : rb_prog[204]? = some rb_m204 := rfl
  have h2 : rb_ent rb_m204.2.2.2.1 As = some ls := h
  simp only [rb_R, e, h2]
  rfl
theorem st_205 {C : rb_C} {pc : Nat} {ls : rb_L} {st : List Value} {σ : rb_S} : rb_stp C rb_m205 (pc, ls, st, σ) = rb_nxt C 9 false (some .int) (decode cX9_reads pc) pc ls st σ := rfl
theorem en_205 {d k : Nat} {As : List Value} {ls : rb_L} {σ : rb_S} (h : rb_ent 5 As = some ls) : rb_R (d + 1) 205 As σ = rb_gg (rb_stp (rb_R d) rb_m205) k (0, ls, [], σ) := by
  have e : rb_prog[205]? = some rb_m205 := rfl
  have h2 : rb_ent rb_m205.2.2.2.1 As = some ls := h
  simp only [rb_R, e, h2]
  rfl
theorem st_206 {C : rb_C} {pc : Nat} {ls : rb_L} {st : List Value} {σ : rb_S} : rb_stp C rb_m206 (pc, ls, st, σ) = rb_nxt C 9 false (some .int) (decode cX9_fault pc) pc ls st σ := rfl
theorem en_206 {d k : Nat} {As : List Value} {ls : rb_L} {σ : rb_S} (h : rb_ent 1 As = some ls) : rb_R (d + 1) 206 As σ = rb_gg (rb_stp (rb_R d) rb_m206) k (0, ls, [], σ) := by
  have e : rb_prog[206]? = some rb_m206 := rfl
  have h2 : rb_ent rb_m206.2.2.2.1 As = some ls := h
  simp only [rb_R, e, h2]
  rfl
theorem st_207 {C : rb_C} {pc : Nat} {ls : rb_L} {st : List Value} {σ : rb_S} : rb_stp C rb_m207 (pc, ls, st, σ) = rb_nxt C 9 false (some .int) (decode cX9_tell pc) pc ls st σ := rfl
theorem en_207 {d k : Nat} {As : List Value} {ls : rb_L} {σ : rb_S} (h : rb_ent 2 As = some ls) : rb_R (d + 1) 207 As σ = rb_gg (rb_stp (rb_R d) rb_m207) k (0, ls, [], σ) := by
  have e : rb_prog[207]? = some rb_m207 := rfl
  have h2 : rb_ent rb_m207.2.2.2.1 As = some ls := h
  simp only [rb_R, e, h2]
  rfl
theorem st_208 {C : rb_C} {pc : Nat} {ls : rb_L} {st : List Value} {σ : rb_S} : rb_stp C rb_m208 (pc, ls, st, σ) = rb_nxt C 9 false (some .int) (decode cX9_count pc) pc ls st σ := rfl
theorem en_208 {d k : Nat} {As : List Value} {ls : rb_L} {σ : rb_S} (h : rb_ent 4 As = some ls) : rb_R (d + 1) 208 As σ = rb_gg (rb_stp (rb_R d) rb_m208) k (0, ls, [], σ) := by
  have e : rb_prog[208]? = some rb_m208 := rfl
  have h2 : rb_ent rb_m208.2.2.2.1 As = some ls := h
  simp only [rb_R, e, h2]
  rfl
theorem st_209 {C : rb_C} {pc : Nat} {ls : rb_L} {st : List Value} {σ : rb_S} : rb_stp C rb_m209 (pc, ls, st, σ) = rb_nxt C 11 false (some .int) (decode cJ6_compare_7cf53 pc) pc ls st σ := rfl
theorem en_209 {d k : Nat} {As : List Value} {ls : rb_L} {σ : rb_S} (h : rb_ent 2 As = some ls) : rb_R (d + 1) 209 As σ = rb_gg (rb_stp (rb_R d) rb_m209) k (0, ls, [], σ) := by
  have e : rb_prog[209]? = some rb_m209 := rfl
  have h2 : rb_ent rb_m209.2.2.2.1 As = some ls := h
  simp only [rb_R, e, h2]
  rfl
theorem st_210 {C : rb_C} {pc : Nat} {ls : rb_L} {st : List Value} {σ : rb_S} : rb_stp C rb_m210 (pc, ls, st, σ) = rb_nxt C 12 false (some .long) (decode cJ9_floorDiv_f86c9 pc) pc ls st σ := rfl
theorem en_210 {d k : Nat} {As : List Value} {ls : rb_L} {σ : rb_S} (h : rb_ent 6 As = some ls) : rb_R (d + 1) 210 As σ = rb_gg (rb_stp (rb_R d) rb_m210) k (0, ls, [], σ) := by
  have e : rb_prog[210]? = some rb_m210 := rfl
  have h2 : rb_ent rb_m210.2.2.2.1 As = some ls := h
  simp only [rb_R, e, h2]
  rfl
theorem st_211 {C : rb_C} {pc : Nat} {ls : rb_L} {st : List Value} {σ : rb_S} : rb_stp C rb_m211 (pc, ls, st, σ) = rb_nxt C 12 false (some .int) (decode cJ9_max_7cf53 pc) pc ls st σ := rfl
theorem en_211 {d k : Nat} {As : List Value} {ls : rb_L} {σ : rb_S} (h : rb_ent 2 As = some ls) : rb_R (d + 1) 211 As σ = rb_gg (rb_stp (rb_R d) rb_m211) k (0, ls, [], σ) := by
  have e : rb_prog[211]? = some rb_m211 := rfl
  have h2 : rb_ent rb_m211.2.2.2.1 As = some ls := h
  simp only [rb_R, e, h2]
  rfl
theorem st_212 {C : rb_C} {pc : Nat} {ls : rb_L} {st : List Value} {σ : rb_S} : rb_stp C rb_m212 (pc, ls, st, σ) = rb_nxt C 12 false (some .long) (decode cJ9_max_f86c9 pc) pc ls st σ := rfl
theorem en_212 {d k : Nat} {As : List Value} {ls : rb_L} {σ : rb_S} (h : rb_ent 4 As = some ls) : rb_R (d + 1) 212 As σ = rb_gg (rb_stp (rb_R d) rb_m212) k (0, ls, [], σ) := by
  have e : rb_prog[212]? = some rb_m212 := rfl
  have h2 : rb_ent rb_m212.2.2.2.1 As = some ls := h
  simp only [rb_R, e, h2]
  rfl
theorem st_213 {C : rb_C} {pc : Nat} {ls : rb_L} {st : List Value} {σ : rb_S} : rb_stp C rb_m213 (pc, ls, st, σ) = rb_nxt C 12 false (some .long) (decode cJ9_min_f86c9 pc) pc ls st σ := rfl
theorem en_213 {d k : Nat} {As : List Value} {ls : rb_L} {σ : rb_S} (h : rb_ent 4 As = some ls) : rb_R (d + 1) 213 As σ = rb_gg (rb_stp (rb_R d) rb_m213) k (0, ls, [], σ) := by
  have e : rb_prog[213]? = some rb_m213 := rfl
  have h2 : rb_ent rb_m213.2.2.2.1 As = some ls := h
  simp only [rb_R, e, h2]
  rfl
theorem st_law {C : rb_C} {pc : Nat} {ls : rb_L} {st : List Value} {σ : rb_S} : rb_stp C rb_law (pc, ls, st, σ) = rb_nxt C 10 false (some .boolean) (decode cL_law pc) pc ls st σ := rfl
theorem tf_0_15 : rb_fld 0 15 = some (0, 1, true, .int, 245) := by decide +kernel
theorem tf_0_21 : rb_fld 0 21 = some (0, 0, true, (.array .int), 244) := by decide +kernel
theorem tf_0_25 : rb_fld 0 25 = some (0, 2, false, .int, 246) := by decide +kernel
theorem tf_0_35 : rb_fld 0 35 = some (5, 0, false, .long, 135) := by decide +kernel
theorem tf_0_41 : rb_fld 0 41 = some (5, 1, false, .long, 138) := by decide +kernel
theorem tf_1_11 : rb_fld 1 11 = some (1, 0, true, (.array (.object "RootBoxes$Span")), 154) := by decide +kernel
theorem tf_2_12 : rb_fld 2 12 = some (2, 0, true, (.object "RootBoxes$Span"), 158) := by decide +kernel
theorem tf_2_18 : rb_fld 2 18 = some (2, 1, true, (.object "RootBoxes$Span"), 159) := by decide +kernel
theorem tf_2_24 : rb_fld 2 24 = some (2, 2, true, (.object "RootBoxes$Grid"), 160) := by decide +kernel
theorem tf_2_28 : rb_fld 2 28 = some (2, 3, true, (.object "RootBoxes$Span"), 161) := by decide +kernel
theorem tf_2_31 : rb_fld 2 31 = some (2, 4, true, (.object "RootBoxes$Span"), 162) := by decide +kernel
theorem tf_2_34 : rb_fld 2 34 = some (2, 5, true, (.object "RootBoxes$Grid"), 163) := by decide +kernel
theorem tf_2_37 : rb_fld 2 37 = some (2, 6, true, (.object "RootBoxes$Span"), 164) := by decide +kernel
theorem tf_2_40 : rb_fld 2 40 = some (2, 7, true, (.object "RootBoxes$Span"), 165) := by decide +kernel
theorem tf_2_43 : rb_fld 2 43 = some (2, 8, true, (.object "RootBoxes$Span"), 166) := by decide +kernel
theorem tf_2_46 : rb_fld 2 46 = some (2, 9, true, (.object "RootBoxes$Span"), 167) := by decide +kernel
theorem tf_2_49 : rb_fld 2 49 = some (2, 10, true, (.object "RootBoxes$Span"), 168) := by decide +kernel
theorem tf_2_52 : rb_fld 2 52 = some (2, 11, true, (.object "RootBoxes$Span"), 169) := by decide +kernel
theorem tf_2_55 : rb_fld 2 55 = some (2, 12, true, (.object "RootBoxes$Span"), 170) := by decide +kernel
theorem tf_2_58 : rb_fld 2 58 = some (2, 13, true, (.object "RootBoxes$Span"), 171) := by decide +kernel
theorem tf_2_61 : rb_fld 2 61 = some (2, 14, true, (.object "RootBoxes$Span"), 172) := by decide +kernel
theorem tf_2_64 : rb_fld 2 64 = some (2, 15, true, (.object "RootBoxes$Span"), 173) := by decide +kernel
theorem tf_2_67 : rb_fld 2 67 = some (2, 16, true, (.object "RootBoxes$Span"), 174) := by decide +kernel
theorem tf_2_70 : rb_fld 2 70 = some (2, 17, true, (.object "RootBoxes$Span"), 175) := by decide +kernel
theorem tf_2_73 : rb_fld 2 73 = some (2, 18, true, (.object "RootBoxes$Span"), 176) := by decide +kernel
theorem tf_2_76 : rb_fld 2 76 = some (2, 19, true, (.object "RootBoxes$Span"), 177) := by decide +kernel
theorem tf_3_9 : rb_fld 3 9 = some (3, 0, true, (.array .int), 231) := by decide +kernel
theorem tf_4_9 : rb_fld 4 9 = some (4, 1, true, (.array .int), 101) := by decide +kernel
theorem tf_4_15 : rb_fld 4 15 = some (4, 2, true, (.array .int), 102) := by decide +kernel
theorem tf_4_18 : rb_fld 4 18 = some (4, 0, true, (.object "RootBoxes$Text"), 100) := by decide +kernel
theorem tf_4_22 : rb_fld 4 22 = some (4, 3, false, .int, 103) := by decide +kernel
theorem tf_4_30 : rb_fld 4 30 = some (4, 6, false, .int, 106) := by decide +kernel
theorem tf_4_40 : rb_fld 4 40 = some (4, 5, false, .int, 105) := by decide +kernel
theorem tf_4_43 : rb_fld 4 43 = some (4, 4, false, .int, 104) := by decide +kernel
theorem tf_5_9 : rb_fld 5 9 = some (5, 0, false, .long, 134) := by decide +kernel
theorem tf_5_15 : rb_fld 5 15 = some (5, 1, false, .long, 137) := by decide +kernel
theorem tf_6_12 : rb_fld 6 12 = some (6, 0, true, (.object "RootBoxes$Polynomial"), 254) := by decide +kernel
theorem tf_6_18 : rb_fld 6 18 = some (6, 1, true, (.object "RootBoxes$Polynomial"), 255) := by decide +kernel
theorem tf_6_26 : rb_fld 6 26 = some (6, 2, true, (.object "RootBoxes$BoxRow"), 256) := by decide +kernel
theorem tf_6_30 : rb_fld 6 30 = some (6, 3, true, (.object "RootBoxes$BoxRow"), 257) := by decide +kernel
theorem tf_6_33 : rb_fld 6 33 = some (6, 4, true, (.object "RootBoxes$BoxRow"), 258) := by decide +kernel
theorem tf_6_36 : rb_fld 6 36 = some (6, 5, true, (.object "RootBoxes$BoxRow"), 259) := by decide +kernel
theorem tf_6_39 : rb_fld 6 39 = some (6, 6, true, (.array .int), 260) := by decide +kernel
theorem tf_6_43 : rb_fld 6 43 = some (6, 7, false, .int, 261) := by decide +kernel
theorem tf_6_156 : rb_fld 6 156 = some (5, 0, false, .long, 136) := by decide +kernel
theorem tf_6_160 : rb_fld 6 160 = some (5, 1, false, .long, 139) := by decide +kernel
theorem tf_7_9 : rb_fld 7 9 = some (7, 0, true, (.array .int), 86) := by decide +kernel
theorem tf_7_15 : rb_fld 7 15 = some (7, 1, false, .int, 87) := by decide +kernel
theorem tf_8_12 : rb_fld 8 12 = some (8, 0, true, (.object "RootBoxes$Text"), 282) := by decide +kernel
theorem tf_8_21 : rb_fld 8 21 = some (8, 1, true, (.object "RootBoxes$Reader"), 283) := by decide +kernel
theorem tf_8_28 : rb_fld 8 28 = some (8, 2, true, (.object "RootBoxes$Judge"), 284) := by decide +kernel
theorem tf_8_35 : rb_fld 8 35 = some (8, 3, true, (.object "RootBoxes$State"), 285) := by decide +kernel
theorem tf_8_39 : rb_fld 8 39 = some (8, 4, true, (.array (.object "RootBoxes$State")), 286) := by decide +kernel
theorem tf_8_48 : rb_fld 8 48 = some (8, 5, true, (.object "RootBoxes$BoxRow"), 287) := by decide +kernel
theorem tf_9_7 : rb_fld 9 7 = some (9, 0, true, (.array .int), 916) := by decide +kernel
theorem tf_9_13 : rb_fld 9 13 = some (9, 1, true, (.array .int), 917) := by decide +kernel
theorem tf_9_16 : rb_fld 9 16 = some (9, 2, true, (.array .int), 918) := by decide +kernel
theorem tf_9_19 : rb_fld 9 19 = some (9, 3, true, (.array .int), 919) := by decide +kernel
theorem tf_9_22 : rb_fld 9 22 = some (9, 5, true, (.array .long), 921) := by decide +kernel
theorem tf_9_26 : rb_fld 9 26 = some (9, 6, true, (.array .long), 922) := by decide +kernel
theorem tf_9_29 : rb_fld 9 29 = some (9, 7, true, (.array .long), 923) := by decide +kernel
theorem tf_9_32 : rb_fld 9 32 = some (9, 8, true, (.array .long), 924) := by decide +kernel
theorem tf_9_35 : rb_fld 9 35 = some (9, 9, true, (.array .int), 925) := by decide +kernel
theorem tf_9_38 : rb_fld 9 38 = some (9, 10, true, (.array .long), 926) := by decide +kernel
theorem tf_9_41 : rb_fld 9 41 = some (9, 11, true, (.array .int), 927) := by decide +kernel
theorem tf_9_141 : rb_fld 9 141 = some (9, 4, false, .boolean, 920) := by decide +kernel
theorem tf_9_205 : rb_fld 9 205 = some (9, 12, false, .int, 928) := by decide +kernel
theorem tf_9_209 : rb_fld 9 209 = some (9, 13, false, .int, 929) := by decide +kernel
theorem tf_9_212 : rb_fld 9 212 = some (9, 14, false, .int, 930) := by decide +kernel
theorem tf_9_221 : rb_fld 9 221 = some (9, 15, false, .boolean, 931) := by decide +kernel
theorem tf_9_238 : rb_fld 9 238 = some (9, 16, false, .boolean, 932) := by decide +kernel
theorem tn_10_7 : rb_new 10 7 = some (8, 72, 73, 55) := by decide +kernel
theorem tn_8_9 : rb_new 8 9 = some (7, 80, 81, 56) := by decide +kernel
theorem tn_8_16 : rb_new 8 16 = some (4, 94, 95, 57) := by decide +kernel
theorem tn_8_25 : rb_new 8 25 = some (2, 122, 123, 58) := by decide +kernel
theorem tn_2_9 : rb_new 2 9 = some (5, 128, 129, 59) := by decide +kernel
theorem tn_2_21 : rb_new 2 21 = some (1, 145, 146, 60) := by decide +kernel
theorem tn_1_9 : rb_new 1 9 = some (5, 151, 129, 59) := by decide +kernel
theorem tn_8_32 : rb_new 8 32 = some (6, 219, 220, 61) := by decide +kernel
theorem tn_6_9 : rb_new 6 9 = some (3, 225, 226, 62) := by decide +kernel
theorem tn_6_21 : rb_new 6 21 = some (0, 235, 236, 63) := by decide +kernel
theorem tn_8_43 : rb_new 8 43 = some (0, 280, 236, 63) := by decide +kernel
theorem tn_10_10 : rb_new 10 10 = some (9, 910, 911, 65) := by decide +kernel
theorem ta_2_9 : rb_anw 2 9 = some (2, 128) := by decide +kernel
theorem ta_1_9 : rb_anw 1 9 = some (2, 151) := by decide +kernel
theorem ta_8_32 : rb_anw 8 32 = some (3, 219) := by decide +kernel
theorem ti_8_52 : rb_kI 8 52 = some (-1000000003, 305) := by decide +kernel
theorem ti_8_61 : rb_kI 8 61 = some (-1000000005, 314) := by decide +kernel
theorem ti_7_19 : rb_kI 7 19 = some (-1000000001, 340) := by decide +kernel
theorem ti_4_46 : rb_kI 4 46 = some (-1000000001, 442) := by decide +kernel
theorem ti_8_68 : rb_kI 8 68 = some (-1000000001, 448) := by decide +kernel
theorem ti_8_69 : rb_kI 8 69 = some (-1000000004, 449) := by decide +kernel
theorem ti_8_79 : rb_kI 8 79 = some (-1000000002, 508) := by decide +kernel
theorem ti_6_96 : rb_kI 6 96 = some (-1000000004, 727) := by decide +kernel
theorem ti_6_100 : rb_kI 6 100 = some (-1000000005, 732) := by decide +kernel
theorem ti_9_120 : rb_kI 9 120 = some (-1000000002, 976) := by decide +kernel
theorem ti_9_125 : rb_kI 9 125 = some (-1000000003, 980) := by decide +kernel
theorem ti_9_149 : rb_kI 9 149 = some (-1000000004, 1013) := by decide +kernel
theorem ti_9_156 : rb_kI 9 156 = some (1000000000, 1089) := by decide +kernel
theorem ti_9_159 : rb_kI 9 159 = some (-1000000000, 1091) := by decide +kernel
theorem ti_9_164 : rb_kI 9 164 = some (-1000000001, 1092) := by decide +kernel
theorem ti_9_181 : rb_kI 9 181 = some (-1000000005, 1131) := by decide +kernel
theorem tj_3_27 : rb_kJ 3 27 = some (64, 531) := by decide +kernel
theorem tj_1_22 : rb_kJ 1 22 = some (64, 579) := by decide +kernel
theorem tj_5_24 : rb_kJ 5 24 = some (64, 588) := by decide +kernel
theorem tj_5_41 : rb_kJ 5 41 = some (-1000000000, 612) := by decide +kernel
theorem tj_5_43 : rb_kJ 5 43 = some (1000000000, 613) := by decide +kernel
theorem tj_5_39 : rb_kJ 5 39 = some (2, 638) := by decide +kernel
theorem tj_2_127 : rb_kJ 2 127 = some (4, 703) := by decide +kernel
theorem tj_2_129 : rb_kJ 2 129 = some (3, 704) := by decide +kernel
theorem tj_9_51 : rb_kJ 9 51 = some (64, 995) := by decide +kernel
theorem tj_9_71 : rb_kJ 9 71 = some (2, 1064) := by decide +kernel
theorem tj_9_154 : rb_kJ 9 154 = some (1000000000, 1088) := by decide +kernel
theorem tj_9_157 : rb_kJ 9 157 = some (-1000000000, 1090) := by decide +kernel
theorem tj_9_112 : rb_kJ 9 112 = some (4, 1109) := by decide +kernel
theorem tj_9_114 : rb_kJ 9 114 = some (3, 1110) := by decide +kernel
theorem ts_4_63 : rb_kS 4 63 = some 1 := by decide +kernel
theorem tz_4_63 : rb_kI 4 63 = none := by decide +kernel
theorem ts_4_69 : rb_kS 4 69 = some 2 := by decide +kernel
theorem tz_4_69 : rb_kI 4 69 = none := by decide +kernel
theorem ts_4_71 : rb_kS 4 71 = some 3 := by decide +kernel
theorem tz_4_71 : rb_kI 4 71 = none := by decide +kernel
theorem ts_4_73 : rb_kS 4 73 = some 4 := by decide +kernel
theorem tz_4_73 : rb_kI 4 73 = none := by decide +kernel
theorem ts_4_75 : rb_kS 4 75 = some 5 := by decide +kernel
theorem tz_4_75 : rb_kI 4 75 = none := by decide +kernel
set_option maxRecDepth 8000 in
theorem tv_10_9 : rb_iv 10 9 = some (2, 100, 1, 8, 74, 75, 0) := rfl
set_option maxRecDepth 8000 in
theorem tv_8_3 : rb_iv 8 3 = some (6, 0, 1, 0, 77, 0, 0) := rfl
set_option maxRecDepth 8000 in
theorem tv_8_11 : rb_iv 8 11 = some (5, 95, 1, 7, 82, 83, 0) := rfl
set_option maxRecDepth 8000 in
theorem tv_7_3 : rb_iv 7 3 = some (6, 0, 1, 0, 85, 0, 0) := rfl
set_option maxRecDepth 8000 in
theorem tv_8_18 : rb_iv 8 18 = some (2, 46, 2, 4, 96, 97, 0) := rfl
set_option maxRecDepth 8000 in
theorem tv_4_3 : rb_iv 4 3 = some (6, 0, 1, 0, 99, 0, 0) := rfl
set_option maxRecDepth 8000 in
theorem tv_8_27 : rb_iv 8 27 = some (5, 22, 1, 2, 124, 125, 0) := rfl
set_option maxRecDepth 8000 in
theorem tv_2_3 : rb_iv 2 3 = some (6, 0, 1, 0, 127, 0, 0) := rfl
set_option maxRecDepth 8000 in
theorem tv_2_11 : rb_iv 2 11 = some (5, 61, 1, 5, 130, 131, 0) := rfl
set_option maxRecDepth 8000 in
theorem tv_5_3 : rb_iv 5 3 = some (6, 0, 1, 0, 133, 0, 0) := rfl
set_option maxRecDepth 8000 in
theorem tv_2_23 : rb_iv 2 23 = some (2, 19, 1, 1, 147, 148, 0) := rfl
set_option maxRecDepth 8000 in
theorem tv_1_3 : rb_iv 1 3 = some (6, 0, 1, 0, 150, 0, 0) := rfl
set_option maxRecDepth 8000 in
theorem tv_1_17 : rb_iv 1 17 = some (5, 61, 1, 5, 153, 131, 0) := rfl
set_option maxRecDepth 8000 in
theorem tv_8_34 : rb_iv 8 34 = some (5, 75, 1, 6, 221, 222, 0) := rfl
set_option maxRecDepth 8000 in
theorem tv_6_3 : rb_iv 6 3 = some (6, 0, 1, 0, 224, 0, 0) := rfl
set_option maxRecDepth 8000 in
theorem tv_6_11 : rb_iv 6 11 = some (5, 38, 1, 3, 227, 228, 0) := rfl
set_option maxRecDepth 8000 in
theorem tv_3_3 : rb_iv 3 3 = some (6, 0, 1, 0, 230, 0, 0) := rfl
set_option maxRecDepth 8000 in
theorem tv_6_23 : rb_iv 6 23 = some (2, 0, 2, 0, 237, 238, 0) := rfl
set_option maxRecDepth 8000 in
theorem tv_0_3 : rb_iv 0 3 = some (6, 0, 1, 0, 240, 0, 0) := rfl
set_option maxRecDepth 8000 in
theorem tv_0_9 : rb_iv 0 9 = some (0, 211, 2, 0, 241, 242, 0) := rfl
set_option maxRecDepth 8000 in
theorem tv_8_45 : rb_iv 8 45 = some (2, 0, 2, 0, 281, 238, 0) := rfl
set_option maxRecDepth 8000 in
theorem tv_10_13 : rb_iv 10 13 = some (1, 101, 2, 8, 301, 302, 303) := rfl
set_option maxRecDepth 8000 in
theorem tv_8_53 : rb_iv 8 53 = some (1, 98, 2, 7, 306, 307, 308) := rfl
set_option maxRecDepth 8000 in
theorem tv_8_57 : rb_iv 8 57 = some (1, 96, 1, 7, 310, 311, 312) := rfl
set_option maxRecDepth 8000 in
theorem tv_10_18 : rb_iv 10 18 = some (1, 102, 1, 8, 315, 316, 317) := rfl
set_option maxRecDepth 8000 in
theorem tv_8_62 : rb_iv 8 62 = some (1, 99, 1, 7, 319, 320, 321) := rfl
set_option maxRecDepth 8000 in
theorem tv_10_23 : rb_iv 10 23 = some (1, 103, 1, 8, 323, 324, 325) := rfl
set_option maxRecDepth 8000 in
theorem tv_8_65 : rb_iv 8 65 = some (1, 50, 1, 4, 327, 328, 329) := rfl
set_option maxRecDepth 8000 in
theorem tv_4_33 : rb_iv 4 33 = some (1, 59, 1, 4, 331, 333, 0) := rfl
set_option maxRecDepth 8000 in
theorem tv_4_108 : rb_iv 4 108 = some (1, 96, 1, 7, 335, 311, 312) := rfl
set_option maxRecDepth 8000 in
theorem tv_4_94 : rb_iv 4 94 = some (1, 97, 2, 7, 336, 337, 338) := rfl
set_option maxRecDepth 8000 in
theorem tv_4_109 : rb_iv 4 109 = some (1, 60, 2, 4, 341, 343, 1) := rfl
set_option maxRecDepth 8000 in
theorem tv_4_36 : rb_iv 4 36 = some (1, 51, 1, 4, 345, 347, 2) := rfl
set_option maxRecDepth 8000 in
theorem tv_4_51 : rb_iv 4 51 = some (1, 52, 1, 4, 349, 351, 3) := rfl
set_option maxRecDepth 8000 in
theorem tv_4_65 : rb_iv 4 65 = some (1, 57, 2, 4, 354, 356, 4) := rfl
set_option maxRecDepth 8000 in
theorem tv_4_99 : rb_iv 4 99 = some (8, 1000, 1, 0, 358, 359, 360) := rfl
set_option maxRecDepth 8000 in
theorem tv_4_104 : rb_iv 4 104 = some (8, 1001, 2, 0, 368, 369, 370) := rfl
set_option maxRecDepth 8000 in
theorem tv_4_55 : rb_iv 4 55 = some (0, 53, 1, 0, 410, 411, 0) := rfl
set_option maxRecDepth 8000 in
theorem tv_4_59 : rb_iv 4 59 = some (1, 54, 3, 4, 413, 415, 5) := rfl
set_option maxRecDepth 8000 in
theorem tv_4_47 : rb_iv 4 47 = some (1, 58, 2, 4, 417, 419, 6) := rfl
set_option maxRecDepth 8000 in
theorem tv_4_77 : rb_iv 4 77 = some (1, 56, 1, 4, 421, 423, 7) := rfl
set_option maxRecDepth 8000 in
theorem tv_4_80 : rb_iv 4 80 = some (1, 55, 4, 4, 425, 427, 8) := rfl
set_option maxRecDepth 8000 in
theorem tv_4_84 : rb_iv 4 84 = some (3, 130, 1, 0, 429, 430, 0) := rfl
set_option maxRecDepth 8000 in
theorem tv_4_87 : rb_iv 4 87 = some (1, 49, 3, 4, 432, 433, 434) := rfl
set_option maxRecDepth 8000 in
theorem tv_4_26 : rb_iv 4 26 = some (3, 132, 1, 0, 436, 437, 0) := rfl
set_option maxRecDepth 8000 in
theorem tv_4_91 : rb_iv 4 91 = some (3, 129, 2, 0, 439, 440, 0) := rfl
set_option maxRecDepth 8000 in
theorem tv_10_27 : rb_iv 10 27 = some (1, 104, 1, 8, 444, 445, 446) := rfl
set_option maxRecDepth 8000 in
theorem tv_8_70 : rb_iv 8 70 = some (1, 47, 1, 4, 450, 451, 452) := rfl
set_option maxRecDepth 8000 in
theorem tv_8_73 : rb_iv 8 73 = some (1, 126, 2, 8, 454, 456, 9) := rfl
set_option maxRecDepth 8000 in
theorem tv_8_226 : rb_iv 8 226 = some (1, 49, 3, 4, 458, 433, 434) := rfl
set_option maxRecDepth 8000 in
theorem tv_8_229 : rb_iv 8 229 = some (1, 48, 2, 4, 459, 460, 461) := rfl
set_option maxRecDepth 8000 in
theorem tv_8_232 : rb_iv 8 232 = some (1, 83, 1, 6, 463, 464, 465) := rfl
set_option maxRecDepth 8000 in
theorem tv_6_47 : rb_iv 6 47 = some (1, 41, 1, 3, 467, 468, 469) := rfl
set_option maxRecDepth 8000 in
theorem tv_6_50 : rb_iv 6 50 = some (1, 91, 1, 6, 471, 473, 10) := rfl
set_option maxRecDepth 8000 in
theorem tv_6_128 : rb_iv 6 128 = some (1, 5, 1, 0, 475, 476, 477) := rfl
set_option maxRecDepth 8000 in
theorem tv_8_107 : rb_iv 8 107 = some (1, 5, 1, 0, 479, 476, 477) := rfl
set_option maxRecDepth 8000 in
theorem tv_8_84 : rb_iv 8 84 = some (1, 76, 2, 6, 480, 481, 482) := rfl
set_option maxRecDepth 8000 in
theorem tv_8_94 : rb_iv 8 94 = some (1, 40, 4, 3, 484, 485, 486) := rfl
set_option maxRecDepth 8000 in
theorem tv_3_15 : rb_iv 3 15 = some (3, 129, 2, 0, 488, 440, 0) := rfl
set_option maxRecDepth 8000 in
theorem tv_8_165 : rb_iv 8 165 = some (1, 82, 2, 6, 489, 490, 491) := rfl
set_option maxRecDepth 8000 in
theorem tv_8_154 : rb_iv 8 154 = some (1, 84, 5, 6, 493, 494, 495) := rfl
set_option maxRecDepth 8000 in
theorem tv_6_53 : rb_iv 6 53 = some (1, 7, 5, 0, 497, 498, 499) := rfl
set_option maxRecDepth 8000 in
theorem tv_10_31 : rb_iv 10 31 = some (1, 105, 5, 8, 501, 502, 503) := rfl
set_option maxRecDepth 8000 in
theorem tv_8_76 : rb_iv 8 76 = some (0, 128, 1, 0, 505, 506, 0) := rfl
set_option maxRecDepth 8000 in
theorem tv_8_80 : rb_iv 8 80 = some (0, 129, 2, 0, 509, 440, 0) := rfl
set_option maxRecDepth 8000 in
theorem tv_8_88 : rb_iv 8 88 = some (1, 39, 3, 3, 510, 511, 512) := rfl
set_option maxRecDepth 8000 in
theorem tv_10_36 : rb_iv 10 36 = some (1, 106, 4, 8, 514, 515, 516) := rfl
set_option maxRecDepth 8000 in
theorem tv_10_41 : rb_iv 10 41 = some (1, 107, 4, 8, 518, 519, 520) := rfl
set_option maxRecDepth 8000 in
theorem tv_8_98 : rb_iv 8 98 = some (0, 130, 1, 0, 522, 430, 0) := rfl
set_option maxRecDepth 8000 in
theorem tv_8_101 : rb_iv 8 101 = some (1, 44, 3, 3, 523, 524, 525) := rfl
set_option maxRecDepth 8000 in
theorem tv_3_19 : rb_iv 3 19 = some (1, 39, 3, 3, 527, 511, 512) := rfl
set_option maxRecDepth 8000 in
theorem tv_3_23 : rb_iv 3 23 = some (0, 45, 2, 0, 528, 529, 0) := rfl
set_option maxRecDepth 8000 in
theorem tv_10_45 : rb_iv 10 45 = some (1, 108, 5, 8, 532, 533, 534) := rfl
set_option maxRecDepth 8000 in
theorem tv_8_104 : rb_iv 8 104 = some (0, 131, 2, 0, 536, 537, 0) := rfl
set_option maxRecDepth 8000 in
theorem tv_8_108 : rb_iv 8 108 = some (1, 7, 5, 0, 539, 498, 499) := rfl
set_option maxRecDepth 8000 in
theorem tv_8_111 : rb_iv 8 111 = some (1, 12, 2, 0, 540, 541, 542) := rfl
set_option maxRecDepth 8000 in
theorem tv_0_65 : rb_iv 0 65 = some (1, 6, 3, 0, 544, 545, 546) := rfl
set_option maxRecDepth 8000 in
theorem tv_0_28 : rb_iv 0 28 = some (1, 4, 2, 0, 548, 549, 550) := rfl
set_option maxRecDepth 8000 in
theorem tv_0_32 : rb_iv 0 32 = some (3, 132, 1, 0, 552, 437, 0) := rfl
set_option maxRecDepth 8000 in
theorem tv_10_49 : rb_iv 10 49 = some (1, 109, 3, 8, 553, 554, 555) := rfl
set_option maxRecDepth 8000 in
theorem tv_8_115 : rb_iv 8 115 = some (1, 2, 1, 0, 557, 558, 559) := rfl
set_option maxRecDepth 8000 in
theorem tv_8_119 : rb_iv 8 119 = some (1, 23, 3, 2, 561, 562, 563) := rfl
set_option maxRecDepth 8000 in
theorem tv_2_79 : rb_iv 2 79 = some (1, 6, 3, 0, 565, 545, 546) := rfl
set_option maxRecDepth 8000 in
theorem tv_2_85 : rb_iv 2 85 = some (1, 62, 3, 5, 566, 567, 568) := rfl
set_option maxRecDepth 8000 in
theorem tv_2_89 : rb_iv 2 89 = some (1, 20, 3, 1, 570, 571, 572) := rfl
set_option maxRecDepth 8000 in
theorem tv_1_18 : rb_iv 1 18 = some (1, 21, 3, 1, 574, 575, 576) := rfl
set_option maxRecDepth 8000 in
theorem tv_1_32 : rb_iv 1 32 = some (3, 129, 2, 0, 578, 440, 0) := rfl
set_option maxRecDepth 8000 in
theorem tv_1_24 : rb_iv 1 24 = some (1, 62, 3, 5, 580, 567, 568) := rfl
set_option maxRecDepth 8000 in
theorem tv_1_28 : rb_iv 1 28 = some (1, 63, 3, 5, 581, 582, 583) := rfl
set_option maxRecDepth 8000 in
theorem tv_5_18 : rb_iv 5 18 = some (0, 213, 2, 0, 585, 586, 0) := rfl
set_option maxRecDepth 8000 in
theorem tv_5_26 : rb_iv 5 26 = some (0, 210, 2, 0, 589, 590, 0) := rfl
set_option maxRecDepth 8000 in
theorem tv_5_29 : rb_iv 5 29 = some (0, 212, 2, 0, 592, 593, 0) := rfl
set_option maxRecDepth 8000 in
theorem tv_8_123 : rb_iv 8 123 = some (1, 31, 2, 2, 595, 596, 597) := rfl
set_option maxRecDepth 8000 in
theorem tv_2_93 : rb_iv 2 93 = some (0, 35, 3, 0, 599, 600, 0) := rfl
set_option maxRecDepth 8000 in
theorem tv_2_144 : rb_iv 2 144 = some (1, 39, 3, 3, 602, 511, 512) := rfl
set_option maxRecDepth 8000 in
theorem tv_2_149 : rb_iv 2 149 = some (1, 21, 3, 1, 603, 575, 576) := rfl
set_option maxRecDepth 8000 in
theorem tv_2_152 : rb_iv 2 152 = some (1, 67, 3, 5, 604, 605, 606) := rfl
set_option maxRecDepth 8000 in
theorem tv_8_127 : rb_iv 8 127 = some (1, 73, 2, 5, 608, 609, 610) := rfl
set_option maxRecDepth 8000 in
theorem tv_10_54 : rb_iv 10 54 = some (1, 110, 4, 8, 614, 615, 616) := rfl
set_option maxRecDepth 8000 in
theorem tv_8_132 : rb_iv 8 132 = some (1, 32, 3, 2, 618, 619, 620) := rfl
set_option maxRecDepth 8000 in
theorem tv_2_97 : rb_iv 2 97 = some (1, 36, 4, 2, 622, 624, 11) := rfl
set_option maxRecDepth 8000 in
theorem tv_10_58 : rb_iv 10 58 = some (1, 111, 2, 8, 626, 627, 628) := rfl
set_option maxRecDepth 8000 in
theorem tv_8_136 : rb_iv 8 136 = some (1, 34, 3, 2, 630, 631, 632) := rfl
set_option maxRecDepth 8000 in
theorem tv_2_131 : rb_iv 2 131 = some (1, 72, 1, 5, 634, 635, 636) := rfl
set_option maxRecDepth 8000 in
theorem tv_2_134 : rb_iv 2 134 = some (1, 37, 6, 2, 639, 641, 12) := rfl
set_option maxRecDepth 8000 in
theorem tv_2_156 : rb_iv 2 156 = some (1, 63, 3, 5, 643, 582, 583) := rfl
set_option maxRecDepth 8000 in
theorem tv_2_141 : rb_iv 2 141 = some (1, 65, 3, 5, 644, 645, 646) := rfl
set_option maxRecDepth 8000 in
theorem tv_5_35 : rb_iv 5 35 = some (1, 62, 3, 5, 648, 567, 568) := rfl
set_option maxRecDepth 8000 in
theorem tv_2_105 : rb_iv 2 105 = some (1, 68, 1, 5, 649, 650, 651) := rfl
set_option maxRecDepth 8000 in
theorem tv_2_138 : rb_iv 2 138 = some (1, 64, 3, 5, 653, 654, 655) := rfl
set_option maxRecDepth 8000 in
theorem tv_5_32 : rb_iv 5 32 = some (0, 74, 2, 0, 657, 658, 0) := rfl
set_option maxRecDepth 8000 in
theorem tv_8_140 : rb_iv 8 140 = some (1, 26, 1, 2, 660, 661, 662) := rfl
set_option maxRecDepth 8000 in
theorem tv_8_144 : rb_iv 8 144 = some (1, 27, 1, 2, 664, 665, 666) := rfl
set_option maxRecDepth 8000 in
theorem tv_8_147 : rb_iv 8 147 = some (1, 28, 1, 2, 668, 669, 670) := rfl
set_option maxRecDepth 8000 in
theorem tv_10_62 : rb_iv 10 62 = some (1, 112, 1, 8, 672, 673, 674) := rfl
set_option maxRecDepth 8000 in
theorem tv_8_150 : rb_iv 8 150 = some (1, 86, 4, 6, 676, 677, 678) := rfl
set_option maxRecDepth 8000 in
theorem tv_6_70 : rb_iv 6 70 = some (1, 23, 3, 2, 680, 562, 563) := rfl
set_option maxRecDepth 8000 in
theorem tv_6_76 : rb_iv 6 76 = some (1, 33, 3, 2, 681, 682, 683) := rfl
set_option maxRecDepth 8000 in
theorem tv_2_101 : rb_iv 2 101 = some (1, 31, 2, 2, 685, 596, 597) := rfl
set_option maxRecDepth 8000 in
theorem tv_2_109 : rb_iv 2 109 = some (1, 34, 3, 2, 686, 631, 632) := rfl
set_option maxRecDepth 8000 in
theorem tv_2_113 : rb_iv 2 113 = some (1, 66, 3, 5, 687, 688, 689) := rfl
set_option maxRecDepth 8000 in
theorem tv_2_116 : rb_iv 2 116 = some (1, 69, 1, 5, 691, 692, 693) := rfl
set_option maxRecDepth 8000 in
theorem tv_2_119 : rb_iv 2 119 = some (1, 70, 2, 5, 695, 696, 697) := rfl
set_option maxRecDepth 8000 in
theorem tv_2_123 : rb_iv 2 123 = some (1, 71, 1, 5, 699, 700, 701) := rfl
set_option maxRecDepth 8000 in
theorem tv_10_66 : rb_iv 10 66 = some (1, 113, 5, 8, 705, 706, 707) := rfl
set_option maxRecDepth 8000 in
theorem tv_8_157 : rb_iv 8 157 = some (0, 211, 2, 0, 709, 242, 0) := rfl
set_option maxRecDepth 8000 in
theorem tv_10_70 : rb_iv 10 70 = some (1, 114, 2, 8, 710, 711, 712) := rfl
set_option maxRecDepth 8000 in
theorem tv_8_162 : rb_iv 8 162 = some (1, 81, 1, 6, 714, 715, 716) := rfl
set_option maxRecDepth 8000 in
theorem tv_10_74 : rb_iv 10 74 = some (1, 115, 1, 8, 718, 719, 720) := rfl
set_option maxRecDepth 8000 in
theorem tv_8_168 : rb_iv 8 168 = some (1, 90, 2, 6, 722, 723, 724) := rfl
set_option maxRecDepth 8000 in
theorem tv_6_92 : rb_iv 6 92 = some (1, 2, 1, 0, 726, 558, 559) := rfl
set_option maxRecDepth 8000 in
theorem tv_6_97 : rb_iv 6 97 = some (1, 3, 1, 0, 728, 729, 730) := rfl
set_option maxRecDepth 8000 in
theorem tv_6_101 : rb_iv 6 101 = some (1, 13, 1, 0, 733, 734, 735) := rfl
set_option maxRecDepth 8000 in
theorem tv_0_68 : rb_iv 0 68 = some (1, 12, 2, 0, 737, 541, 542) := rfl
set_option maxRecDepth 8000 in
theorem tv_0_52 : rb_iv 0 52 = some (1, 17, 3, 0, 738, 740, 13) := rfl
set_option maxRecDepth 8000 in
theorem tv_0_76 : rb_iv 0 76 = some (0, 209, 2, 0, 742, 743, 0) := rfl
set_option maxRecDepth 8000 in
theorem tv_6_104 : rb_iv 6 104 = some (1, 12, 2, 0, 745, 541, 542) := rfl
set_option maxRecDepth 8000 in
theorem tv_6_107 : rb_iv 6 107 = some (1, 10, 2, 0, 746, 747, 748) := rfl
set_option maxRecDepth 8000 in
theorem tv_0_55 : rb_iv 0 55 = some (1, 18, 3, 0, 750, 752, 14) := rfl
set_option maxRecDepth 8000 in
theorem tv_6_110 : rb_iv 6 110 = some (1, 92, 3, 6, 754, 756, 15) := rfl
set_option maxRecDepth 8000 in
theorem tv_6_80 : rb_iv 6 80 = some (1, 1, 1, 0, 758, 759, 760) := rfl
set_option maxRecDepth 8000 in
theorem tv_6_114 : rb_iv 6 114 = some (1, 24, 1, 2, 762, 763, 764) := rfl
set_option maxRecDepth 8000 in
theorem tv_6_118 : rb_iv 6 118 = some (1, 25, 1, 2, 766, 767, 768) := rfl
set_option maxRecDepth 8000 in
theorem tv_6_129 : rb_iv 6 129 = some (1, 8, 3, 0, 770, 771, 772) := rfl
set_option maxRecDepth 8000 in
theorem tv_0_44 : rb_iv 0 44 = some (1, 7, 5, 0, 774, 498, 499) := rfl
set_option maxRecDepth 8000 in
theorem tv_6_121 : rb_iv 6 121 = some (1, 94, 3, 6, 775, 777, 16) := rfl
set_option maxRecDepth 8000 in
theorem tv_6_147 : rb_iv 6 147 = some (1, 71, 1, 5, 779, 700, 701) := rfl
set_option maxRecDepth 8000 in
theorem tv_6_153 : rb_iv 6 153 = some (1, 72, 1, 5, 780, 635, 636) := rfl
set_option maxRecDepth 8000 in
theorem tv_6_125 : rb_iv 6 125 = some (1, 93, 3, 6, 781, 783, 17) := rfl
set_option maxRecDepth 8000 in
theorem tv_6_132 : rb_iv 6 132 = some (1, 27, 1, 2, 785, 665, 666) := rfl
set_option maxRecDepth 8000 in
theorem tv_6_135 : rb_iv 6 135 = some (1, 28, 1, 2, 786, 669, 670) := rfl
set_option maxRecDepth 8000 in
theorem tv_6_138 : rb_iv 6 138 = some (1, 9, 3, 0, 787, 788, 789) := rfl
set_option maxRecDepth 8000 in
theorem tv_0_48 : rb_iv 0 48 = some (1, 8, 3, 0, 791, 771, 772) := rfl
set_option maxRecDepth 8000 in
theorem tv_6_141 : rb_iv 6 141 = some (1, 29, 1, 2, 792, 793, 794) := rfl
set_option maxRecDepth 8000 in
theorem tv_6_144 : rb_iv 6 144 = some (1, 30, 1, 2, 796, 797, 798) := rfl
set_option maxRecDepth 8000 in
theorem tv_10_78 : rb_iv 10 78 = some (1, 116, 2, 8, 800, 801, 802) := rfl
set_option maxRecDepth 8000 in
theorem tv_10_82 : rb_iv 10 82 = some (1, 117, 2, 8, 804, 805, 806) := rfl
set_option maxRecDepth 8000 in
theorem tv_8_172 : rb_iv 8 172 = some (0, 132, 1, 0, 808, 437, 0) := rfl
set_option maxRecDepth 8000 in
theorem tv_8_175 : rb_iv 8 175 = some (1, 77, 1, 6, 809, 810, 811) := rfl
set_option maxRecDepth 8000 in
theorem tv_8_179 : rb_iv 8 179 = some (1, 13, 1, 0, 813, 734, 735) := rfl
set_option maxRecDepth 8000 in
theorem tv_8_182 : rb_iv 8 182 = some (1, 6, 3, 0, 814, 545, 546) := rfl
set_option maxRecDepth 8000 in
theorem tv_10_86 : rb_iv 10 86 = some (1, 118, 3, 8, 815, 816, 817) := rfl
set_option maxRecDepth 8000 in
theorem tv_8_185 : rb_iv 8 185 = some (1, 78, 1, 6, 819, 820, 821) := rfl
set_option maxRecDepth 8000 in
theorem tv_8_188 : rb_iv 8 188 = some (0, 127, 3, 0, 823, 824, 0) := rfl
set_option maxRecDepth 8000 in
theorem tv_8_198 : rb_iv 8 198 = some (1, 4, 2, 0, 826, 549, 550) := rfl
set_option maxRecDepth 8000 in
theorem tv_10_90 : rb_iv 10 90 = some (1, 119, 3, 8, 827, 828, 829) := rfl
set_option maxRecDepth 8000 in
theorem tv_8_192 : rb_iv 8 192 = some (1, 79, 1, 6, 831, 832, 833) := rfl
set_option maxRecDepth 8000 in
theorem tv_10_94 : rb_iv 10 94 = some (1, 120, 3, 8, 835, 836, 837) := rfl
set_option maxRecDepth 8000 in
theorem tv_8_195 : rb_iv 8 195 = some (1, 80, 1, 6, 839, 840, 841) := rfl
set_option maxRecDepth 8000 in
theorem tv_8_201 : rb_iv 8 201 = some (1, 87, 2, 6, 843, 844, 845) := rfl
set_option maxRecDepth 8000 in
theorem tv_10_98 : rb_iv 10 98 = some (1, 121, 1, 8, 847, 848, 849) := rfl
set_option maxRecDepth 8000 in
theorem tv_8_204 : rb_iv 8 204 = some (1, 1, 1, 0, 851, 759, 760) := rfl
set_option maxRecDepth 8000 in
theorem tv_10_102 : rb_iv 10 102 = some (1, 122, 3, 8, 852, 853, 854) := rfl
set_option maxRecDepth 8000 in
theorem tv_8_207 : rb_iv 8 207 = some (1, 15, 3, 0, 856, 857, 858) := rfl
set_option maxRecDepth 8000 in
theorem tv_0_72 : rb_iv 0 72 = some (1, 14, 4, 0, 860, 861, 862) := rfl
set_option maxRecDepth 8000 in
theorem tv_8_210 : rb_iv 8 210 = some (1, 89, 3, 6, 864, 865, 866) := rfl
set_option maxRecDepth 8000 in
theorem tv_6_84 : rb_iv 6 84 = some (1, 87, 2, 6, 868, 844, 845) := rfl
set_option maxRecDepth 8000 in
theorem tv_6_88 : rb_iv 6 88 = some (1, 14, 4, 0, 869, 861, 862) := rfl
set_option maxRecDepth 8000 in
theorem tv_10_106 : rb_iv 10 106 = some (1, 123, 2, 8, 870, 871, 872) := rfl
set_option maxRecDepth 8000 in
theorem tv_8_213 : rb_iv 8 213 = some (1, 85, 2, 6, 874, 875, 876) := rfl
set_option maxRecDepth 8000 in
theorem tv_6_57 : rb_iv 6 57 = some (1, 42, 2, 3, 878, 879, 880) := rfl
set_option maxRecDepth 8000 in
theorem tv_6_61 : rb_iv 6 61 = some (1, 11, 2, 0, 882, 883, 884) := rfl
set_option maxRecDepth 8000 in
theorem tv_0_59 : rb_iv 0 59 = some (7, 0, 5, 0, 886, 0, 0) := rfl
set_option maxRecDepth 8000 in
theorem tv_6_64 : rb_iv 6 64 = some (7, 0, 5, 0, 889, 0, 0) := rfl
set_option maxRecDepth 8000 in
theorem tv_10_110 : rb_iv 10 110 = some (1, 124, 2, 8, 890, 891, 892) := rfl
set_option maxRecDepth 8000 in
theorem tv_10_114 : rb_iv 10 114 = some (1, 125, 2, 8, 894, 895, 896) := rfl
set_option maxRecDepth 8000 in
theorem tv_8_217 : rb_iv 8 217 = some (1, 88, 2, 6, 898, 899, 900) := rfl
set_option maxRecDepth 8000 in
theorem tv_8_220 : rb_iv 8 220 = some (1, 43, 1, 3, 902, 903, 904) := rfl
set_option maxRecDepth 8000 in
theorem tv_8_223 : rb_iv 8 223 = some (1, 16, 1, 0, 906, 907, 908) := rfl
set_option maxRecDepth 8000 in
theorem tv_10_12 : rb_iv 10 12 = some (2, 133, 1, 9, 912, 913, 0) := rfl
set_option maxRecDepth 8000 in
theorem tv_9_1 : rb_iv 9 1 = some (6, 0, 1, 0, 915, 0, 0) := rfl
set_option maxRecDepth 8000 in
theorem tv_10_35 : rb_iv 10 35 = some (1, 156, 5, 9, 969, 970, 971) := rfl
set_option maxRecDepth 8000 in
theorem tv_9_116 : rb_iv 9 116 = some (0, 134, 3, 0, 973, 974, 0) := rfl
set_option maxRecDepth 8000 in
theorem tv_9_121 : rb_iv 9 121 = some (0, 155, 2, 0, 977, 978, 0) := rfl
set_option maxRecDepth 8000 in
theorem tv_10_40 : rb_iv 10 40 = some (1, 157, 4, 9, 981, 982, 983) := rfl
set_option maxRecDepth 8000 in
theorem tv_10_44 : rb_iv 10 44 = some (1, 160, 4, 9, 985, 986, 987) := rfl
set_option maxRecDepth 8000 in
theorem tv_9_126 : rb_iv 9 126 = some (0, 158, 1, 0, 989, 990, 0) := rfl
set_option maxRecDepth 8000 in
theorem tv_9_129 : rb_iv 9 129 = some (0, 159, 2, 0, 992, 993, 0) := rfl
set_option maxRecDepth 8000 in
theorem tv_10_48 : rb_iv 10 48 = some (1, 164, 5, 9, 996, 997, 998) := rfl
set_option maxRecDepth 8000 in
theorem tv_9_133 : rb_iv 9 133 = some (0, 162, 4, 0, 1000, 1001, 0) := rfl
set_option maxRecDepth 8000 in
theorem tv_9_137 : rb_iv 9 137 = some (0, 163, 6, 0, 1003, 1004, 0) := rfl
set_option maxRecDepth 8000 in
theorem tv_9_145 : rb_iv 9 145 = some (0, 161, 2, 0, 1006, 1007, 0) := rfl
set_option maxRecDepth 8000 in
theorem tv_10_53 : rb_iv 10 53 = some (1, 165, 3, 9, 1009, 1010, 1011) := rfl
set_option maxRecDepth 8000 in
theorem tv_9_150 : rb_iv 9 150 = some (1, 154, 3, 9, 1014, 1016, 18) := rfl
set_option maxRecDepth 8000 in
theorem tv_9_84 : rb_iv 9 84 = some (1, 147, 1, 9, 1018, 1020, 19) := rfl
set_option maxRecDepth 8000 in
theorem tv_9_73 : rb_iv 9 73 = some (1, 143, 4, 9, 1022, 1024, 20) := rfl
set_option maxRecDepth 8000 in
theorem tv_9_59 : rb_iv 9 59 = some (0, 139, 6, 0, 1026, 1027, 0) := rfl
set_option maxRecDepth 8000 in
theorem tv_9_48 : rb_iv 9 48 = some (0, 137, 2, 0, 1029, 1030, 0) := rfl
set_option maxRecDepth 8000 in
theorem tv_9_44 : rb_iv 9 44 = some (0, 135, 2, 0, 1032, 1033, 0) := rfl
set_option maxRecDepth 8000 in
theorem tv_9_53 : rb_iv 9 53 = some (0, 138, 2, 0, 1035, 1036, 0) := rfl
set_option maxRecDepth 8000 in
theorem tv_9_56 : rb_iv 9 56 = some (0, 136, 2, 0, 1038, 1039, 0) := rfl
set_option maxRecDepth 8000 in
theorem tv_9_81 : rb_iv 9 81 = some (1, 145, 4, 9, 1041, 1043, 21) := rfl
set_option maxRecDepth 8000 in
theorem tv_9_67 : rb_iv 9 67 = some (1, 144, 5, 9, 1045, 1047, 22) := rfl
set_option maxRecDepth 8000 in
theorem tv_10_57 : rb_iv 10 57 = some (1, 166, 4, 9, 1049, 1050, 1051) := rfl
set_option maxRecDepth 8000 in
theorem tv_10_61 : rb_iv 10 61 = some (1, 168, 2, 9, 1053, 1054, 1055) := rfl
set_option maxRecDepth 8000 in
theorem tv_9_102 : rb_iv 9 102 = some (1, 149, 1, 9, 1057, 1059, 23) := rfl
set_option maxRecDepth 8000 in
theorem tv_9_77 : rb_iv 9 77 = some (0, 146, 2, 0, 1061, 1062, 0) := rfl
set_option maxRecDepth 8000 in
theorem tv_9_87 : rb_iv 9 87 = some (1, 142, 6, 9, 1065, 1067, 24) := rfl
set_option maxRecDepth 8000 in
theorem tv_9_63 : rb_iv 9 63 = some (1, 141, 4, 9, 1069, 1071, 25) := rfl
set_option maxRecDepth 8000 in
theorem tv_9_91 : rb_iv 9 91 = some (1, 148, 2, 9, 1073, 1075, 26) := rfl
set_option maxRecDepth 8000 in
theorem tv_9_95 : rb_iv 9 95 = some (1, 140, 4, 9, 1077, 1079, 27) := rfl
set_option maxRecDepth 8000 in
theorem tv_9_98 : rb_iv 9 98 = some (1, 150, 3, 9, 1081, 1083, 28) := rfl
set_option maxRecDepth 8000 in
theorem tv_9_160 : rb_iv 9 160 = some (0, 167, 1, 0, 1085, 1086, 0) := rfl
set_option maxRecDepth 8000 in
theorem tv_10_65 : rb_iv 10 65 = some (1, 169, 1, 9, 1093, 1094, 1095) := rfl
set_option maxRecDepth 8000 in
theorem tv_9_165 : rb_iv 9 165 = some (1, 153, 1, 9, 1097, 1099, 29) := rfl
set_option maxRecDepth 8000 in
theorem tv_9_106 : rb_iv 9 106 = some (1, 151, 1, 9, 1101, 1103, 30) := rfl
set_option maxRecDepth 8000 in
theorem tv_9_109 : rb_iv 9 109 = some (1, 152, 1, 9, 1105, 1107, 31) := rfl
set_option maxRecDepth 8000 in
theorem tv_10_69 : rb_iv 10 69 = some (1, 172, 5, 9, 1111, 1112, 1113) := rfl
set_option maxRecDepth 8000 in
theorem tv_9_172 : rb_iv 9 172 = some (1, 171, 5, 9, 1115, 1117, 32) := rfl
set_option maxRecDepth 8000 in
theorem tv_9_169 : rb_iv 9 169 = some (1, 170, 5, 9, 1119, 1121, 33) := rfl
set_option maxRecDepth 8000 in
theorem tv_10_73 : rb_iv 10 73 = some (1, 173, 2, 9, 1123, 1124, 1125) := rfl
set_option maxRecDepth 8000 in
theorem tv_10_77 : rb_iv 10 77 = some (1, 179, 1, 9, 1127, 1128, 1129) := rfl
set_option maxRecDepth 8000 in
theorem tv_9_182 : rb_iv 9 182 = some (1, 175, 1, 9, 1132, 1134, 34) := rfl
set_option maxRecDepth 8000 in
theorem tv_9_175 : rb_iv 9 175 = some (1, 174, 3, 9, 1136, 1138, 35) := rfl
set_option maxRecDepth 8000 in
theorem tv_9_185 : rb_iv 9 185 = some (1, 176, 2, 9, 1140, 1142, 36) := rfl
set_option maxRecDepth 8000 in
theorem tv_9_189 : rb_iv 9 189 = some (1, 178, 2, 9, 1144, 1146, 37) := rfl
set_option maxRecDepth 8000 in
theorem tv_9_178 : rb_iv 9 178 = some (1, 177, 1, 9, 1148, 1150, 38) := rfl
set_option maxRecDepth 8000 in
theorem tv_10_81 : rb_iv 10 81 = some (1, 180, 2, 9, 1152, 1153, 1154) := rfl
set_option maxRecDepth 8000 in
theorem tv_9_192 : rb_iv 9 192 = some (1, 179, 1, 9, 1156, 1128, 1129) := rfl
set_option maxRecDepth 8000 in
theorem tv_10_85 : rb_iv 10 85 = some (1, 181, 2, 9, 1157, 1158, 1159) := rfl
set_option maxRecDepth 8000 in
theorem tv_10_89 : rb_iv 10 89 = some (1, 182, 3, 9, 1161, 1162, 1163) := rfl
set_option maxRecDepth 8000 in
theorem tv_10_93 : rb_iv 10 93 = some (1, 183, 3, 9, 1165, 1166, 1167) := rfl
set_option maxRecDepth 8000 in
theorem tv_10_97 : rb_iv 10 97 = some (1, 185, 3, 9, 1169, 1170, 1171) := rfl
set_option maxRecDepth 8000 in
theorem tv_9_195 : rb_iv 9 195 = some (1, 184, 2, 9, 1173, 1175, 39) := rfl
set_option maxRecDepth 8000 in
theorem tv_10_101 : rb_iv 10 101 = some (1, 186, 1, 9, 1177, 1178, 1179) := rfl
set_option maxRecDepth 8000 in
theorem tv_10_105 : rb_iv 10 105 = some (1, 189, 3, 9, 1181, 1182, 1183) := rfl
set_option maxRecDepth 8000 in
theorem tv_9_202 : rb_iv 9 202 = some (1, 188, 5, 9, 1185, 1187, 40) := rfl
set_option maxRecDepth 8000 in
theorem tv_9_199 : rb_iv 9 199 = some (1, 187, 4, 9, 1189, 1191, 41) := rfl
set_option maxRecDepth 8000 in
theorem tv_10_109 : rb_iv 10 109 = some (1, 190, 2, 9, 1193, 1194, 1195) := rfl
set_option maxRecDepth 8000 in
theorem tv_10_113 : rb_iv 10 113 = some (1, 191, 2, 9, 1197, 1198, 1199) := rfl
set_option maxRecDepth 8000 in
theorem tv_10_17 : rb_iv 10 17 = some (1, 192, 2, 9, 1201, 1202, 1203) := rfl
set_option maxRecDepth 8000 in
theorem tv_10_22 : rb_iv 10 22 = some (1, 193, 1, 9, 1205, 1206, 1207) := rfl
set_option maxRecDepth 8000 in
theorem tv_10_26 : rb_iv 10 26 = some (1, 206, 1, 9, 1209, 1210, 1211) := rfl
set_option maxRecDepth 8000 in
theorem tv_9_257 : rb_iv 9 257 = some (1, 205, 2, 9, 1213, 1215, 42) := rfl
set_option maxRecDepth 8000 in
theorem tv_9_254 : rb_iv 9 254 = some (1, 204, 1, 9, 1217, 1219, 43) := rfl
set_option maxRecDepth 8000 in
theorem tv_9_224 : rb_iv 9 224 = some (1, 196, 1, 9, 1221, 1223, 44) := rfl
set_option maxRecDepth 8000 in
theorem tv_9_215 : rb_iv 9 215 = some (1, 194, 2, 9, 1225, 1227, 45) := rfl
set_option maxRecDepth 8000 in
theorem tv_9_218 : rb_iv 9 218 = some (1, 195, 2, 9, 1229, 1231, 46) := rfl
set_option maxRecDepth 8000 in
theorem tv_9_241 : rb_iv 9 241 = some (1, 200, 6, 9, 1233, 1235, 47) := rfl
set_option maxRecDepth 8000 in
theorem tv_9_227 : rb_iv 9 227 = some (1, 197, 2, 9, 1237, 1239, 48) := rfl
set_option maxRecDepth 8000 in
theorem tv_9_245 : rb_iv 9 245 = some (1, 201, 1, 9, 1241, 1243, 49) := rfl
set_option maxRecDepth 8000 in
theorem tv_9_248 : rb_iv 9 248 = some (1, 202, 2, 9, 1245, 1247, 50) := rfl
set_option maxRecDepth 8000 in
theorem tv_9_235 : rb_iv 9 235 = some (1, 199, 3, 9, 1249, 1251, 51) := rfl
set_option maxRecDepth 8000 in
theorem tv_9_231 : rb_iv 9 231 = some (1, 198, 4, 9, 1253, 1255, 52) := rfl
set_option maxRecDepth 8000 in
theorem tv_9_251 : rb_iv 9 251 = some (1, 203, 1, 9, 1257, 1259, 53) := rfl
set_option maxRecDepth 8000 in
theorem tv_10_30 : rb_iv 10 30 = some (1, 207, 1, 9, 1261, 1262, 1263) := rfl
set_option maxRecDepth 8000 in
theorem tv_10_117 : rb_iv 10 117 = some (1, 208, 2, 9, 1265, 1266, 1267) := rfl
