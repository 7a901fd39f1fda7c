theorem kc_m1 : Int32.ofInt (-1) = -1 := by decide +kernel
theorem kc_0 : Int32.ofInt (0) = 0 := by decide +kernel
theorem kc_1 : Int32.ofInt (1) = 1 := by decide +kernel
theorem kc_2 : Int32.ofInt (2) = 2 := by decide +kernel
theorem kc_3 : Int32.ofInt (3) = 3 := by decide +kernel
theorem kc_4 : Int32.ofInt (4) = 4 := by decide +kernel
theorem kc_5 : Int32.ofInt (5) = 5 := by decide +kernel
theorem kb_m20 : (Int8.ofInt (-20)).toInt32 = -20 := by decide +kernel
theorem kb_6 : (Int8.ofInt (6)).toInt32 = 6 := by decide +kernel
theorem kb_8 : (Int8.ofInt (8)).toInt32 = 8 := by decide +kernel
theorem kb_9 : (Int8.ofInt (9)).toInt32 = 9 := by decide +kernel
theorem kb_10 : (Int8.ofInt (10)).toInt32 = 10 := by decide +kernel
theorem kb_11 : (Int8.ofInt (11)).toInt32 = 11 := by decide +kernel
theorem kb_12 : (Int8.ofInt (12)).toInt32 = 12 := by decide +kernel
theorem kb_13 : (Int8.ofInt (13)).toInt32 = 13 := by decide +kernel
theorem kb_14 : (Int8.ofInt (14)).toInt32 = 14 := by decide +kernel
theorem kb_15 : (Int8.ofInt (15)).toInt32 = 15 := by decide +kernel
theorem kb_16 : (Int8.ofInt (16)).toInt32 = 16 := by decide +kernel
theorem kb_17 : (Int8.ofInt (17)).toInt32 = 17 := by decide +kernel
theorem kb_18 : (Int8.ofInt (18)).toInt32 = 18 := by decide +kernel
theorem kb_19 : (Int8.ofInt (19)).toInt32 = 19 := by decide +kernel
theorem kb_20 : (Int8.ofInt (20)).toInt32 = 20 := by decide +kernel
theorem kb_22 : (Int8.ofInt (22)).toInt32 = 22 := by decide +kernel
theorem kb_24 : (Int8.ofInt (24)).toInt32 = 24 := by decide +kernel
theorem kb_25 : (Int8.ofInt (25)).toInt32 = 25 := by decide +kernel
theorem kb_31 : (Int8.ofInt (31)).toInt32 = 31 := by decide +kernel
theorem kb_32 : (Int8.ofInt (32)).toInt32 = 32 := by decide +kernel
theorem kb_45 : (Int8.ofInt (45)).toInt32 = 45 := by decide +kernel
theorem kb_48 : (Int8.ofInt (48)).toInt32 = 48 := by decide +kernel
theorem kb_50 : (Int8.ofInt (50)).toInt32 = 50 := by decide +kernel
theorem kb_51 : (Int8.ofInt (51)).toInt32 = 51 := by decide +kernel
theorem kb_52 : (Int8.ofInt (52)).toInt32 = 52 := by decide +kernel
theorem kb_53 : (Int8.ofInt (53)).toInt32 = 53 := by decide +kernel
theorem kb_54 : (Int8.ofInt (54)).toInt32 = 54 := by decide +kernel
theorem kb_55 : (Int8.ofInt (55)).toInt32 = 55 := by decide +kernel
theorem kb_57 : (Int8.ofInt (57)).toInt32 = 57 := by decide +kernel
theorem kb_59 : (Int8.ofInt (59)).toInt32 = 59 := by decide +kernel
theorem kb_64 : (Int8.ofInt (64)).toInt32 = 64 := by decide +kernel
theorem kb_96 : (Int8.ofInt (96)).toInt32 = 96 := by decide +kernel
theorem kb_97 : (Int8.ofInt (97)).toInt32 = 97 := by decide +kernel
theorem kb_98 : (Int8.ofInt (98)).toInt32 = 98 := by decide +kernel
theorem kb_101 : (Int8.ofInt (101)).toInt32 = 101 := by decide +kernel
theorem kb_102 : (Int8.ofInt (102)).toInt32 = 102 := by decide +kernel
theorem kb_103 : (Int8.ofInt (103)).toInt32 = 103 := by decide +kernel
theorem kb_108 : (Int8.ofInt (108)).toInt32 = 108 := by decide +kernel
theorem kb_111 : (Int8.ofInt (111)).toInt32 = 111 := by decide +kernel
theorem kb_115 : (Int8.ofInt (115)).toInt32 = 115 := by decide +kernel
theorem kb_116 : (Int8.ofInt (116)).toInt32 = 116 := by decide +kernel
theorem kb_120 : (Int8.ofInt (120)).toInt32 = 120 := by decide +kernel
theorem kb_122 : (Int8.ofInt (122)).toInt32 = 122 := by decide +kernel
theorem ks_m512 : (Int16.ofInt (-512)).toInt32 = -512 := by decide +kernel
theorem ks_200 : (Int16.ofInt (200)).toInt32 = 200 := by decide +kernel
theorem ks_255 : (Int16.ofInt (255)).toInt32 = 255 := by decide +kernel
theorem ks_311 : (Int16.ofInt (311)).toInt32 = 311 := by decide +kernel
theorem ks_512 : (Int16.ofInt (512)).toInt32 = 512 := by decide +kernel
theorem ks_1111 : (Int16.ofInt (1111)).toInt32 = 1111 := by decide +kernel
theorem ks_1911 : (Int16.ofInt (1911)).toInt32 = 1911 := by decide +kernel
theorem ks_2911 : (Int16.ofInt (2911)).toInt32 = 2911 := by decide +kernel
theorem ks_5822 : (Int16.ofInt (5822)).toInt32 = 5822 := by decide +kernel
theorem kl_0 : Int64.ofNat ((0 : Fin 2) : Nat) = 0 := by decide +kernel
theorem kl_1 : Int64.ofNat ((1 : Fin 2) : Nat) = 1 := by decide +kernel
/-- what lies at a number behind a write -/
theorem wr_at {σ : rb_S} {a : Nat} {c : va_E} : (rb_wr σ a c).1 a = some c := va_up_self _ _ _
theorem wr_ne {σ : rb_S} {a b : Nat} {c : va_E} (h : b ≠ a) : (rb_wr σ a c).1 b = σ.1 b := va_up_ne _ _ h
theorem wr_wr {σ : rb_S} {a : Nat} {c d : va_E} : rb_wr (rb_wr σ a c) a d = rb_wr σ a d := by
  refine Prod.ext ?_ rfl
  funext j
  show va_up (va_up σ.1 a (some c)) a (some d) j = va_up σ.1 a (some d) j
  unfold va_up
  by_cases h : j = a <;> simp [h]
theorem wr_2 {σ : rb_S} {a : Nat} {c : va_E} : (rb_wr σ a c).2 = σ.2 := rfl
theorem rb_cat0 : rb_cat [] = true := rfl
/-- two answers of one kind, one state -/
theorem mg_i {c : Prop} {dc : Decidable c} {x y : Int32} {σ : rb_S} : (@ite (Option rb_B) c dc (some (some (.int x), σ)) (some (some (.int y), σ))) = some (some (.int (@ite _ c dc x y)), σ) := by
  by_cases h : c
  · rw [if_pos h, if_pos h]
  · rw [if_neg h, if_neg h]
theorem mg_l {c : Prop} {dc : Decidable c} {x y : Int64} {σ : rb_S} : (@ite (Option rb_B) c dc (some (some (.long x), σ)) (some (some (.long y), σ))) = some (some (.long (@ite _ c dc x y)), σ) := by
  by_cases h : c
  · rw [if_pos h, if_pos h]
  · rw [if_neg h, if_neg h]
