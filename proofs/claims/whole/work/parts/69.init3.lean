def q_i12 (I : zI) (P : zP) (v : Option Value) (I1 : zI) (J1 : zJ) (P1 : zP) : Prop := v = none ∧ mK P1 ∧ (∀ q, q < 78 → I1 q = I q ∧ P1 q = P q) ∧ I1 78 4 = iI 2 ∧ (∀ k, k ≠ 4 → I1 78 k = I 78 k) ∧ z_ar I1 80 36 (mRf (fun _ => 0)) ∧ ∀ q, 78 < q → q < 108 → q ≠ 80 → I1 q = fun _ => 0
set_option maxRecDepth 20000 in
theorem i_mod (I : zI) (J : zJ) (P : zP)  : z_Sp 3 yX12_init cX12_init 2 none 79 108 I J P [.ref 78] (q_i12 I P) := by
  refine z_met true (by decide +kernel) (fun _ => rfl) (Nat.le_of_ble_eq_true rfl) (by first | decide | omega) (fun V hV => ?_)
  show V 79 I J P 0 [.ref 78, .null] []
  refine r_aload_n hV dX12_init_0 rfl rfl ?_
  refine r_objinit hV dX12_init_1 oi_X12_1 (by decide) (Nat.le_of_ble_eq_true rfl) ?_
  refine r_aload_n hV dX12_init_4 rfl rfl ?_
  refine s_bipush hV dX12_init_5 (80) (by decide) ?_
  refine r_newarray hV _ dX12_init_7 ac_int (by first | rfl | assumption) ⟨by decide, rfl, by decide⟩ (by first | decide | omega) ?_
  generalize zu J 79 (fun _ => (0 : Int64)) = Jn1
  refine r_putR hV dX12_init_9 fl_X12_7 pf_X12_7 (by first | decide | omega) (by first | rfl | assumption) ?_
  generalize hI1 : zu I 79 (fun _ => 0) = I1
  generalize hP1 : zu (zu P 79 (fun _ => none)) 78 (zu ((zu P 79 (fun _ => none)) 78) 1 (some 79)) = P1
  have z1 : ∀ q, 78 < q → q < 80 → I1 q = fun _ => 0 := fun q h1 h2 => by
    rcases (show q = 79 ∨ q < 79 by omega) with rfl | h
    · rw [← hI1, zu_s]
    · omega
  have g1 : ∀ q, q < 78 → I1 q = I q ∧ P1 q = P q := fun q h => ⟨by rw [← hI1, zu_n _ _ (by omega)], by rw [← hP1, zu_n _ _ (by omega), zu_n _ _ (by omega)]⟩
  have s1 : I1 78 = I 78 := by rw [← hI1, zu_n _ _ (by omega)]
  have p1 : P1 78 1 = some 79 := by rw [← hP1, zu_s, zu_s]
  have v1 : ∀ j, j ≠ 1 → P1 78 j = P 78 j := fun j h => by rw [← hP1, zu_s, zu_n _ _ h, zu_n _ _ (by omega)]
  clear hI1 hP1
  refine r_aload_n hV dX12_init_12 rfl rfl ?_
  refine s_iconst hV dX12_init_13 (2) (by decide) ?_
  refine r_putI hV dX12_init_14 fl_X12_13 (pf_X12_13 _) (z_okI_int rfl _) (by first | decide | omega) (by first | rfl | assumption) ?_
  generalize hI1a : zu I1 78 (zu (I1 78) 4 (iI 2)) = I1a
  have z1a : ∀ q, 78 < q → q < 80 → I1a q = fun _ => 0 := fun q h1 h2 => by rw [← hI1a, zu_n _ _ (by omega)]; exact z1 q h1 h2
  have g1a : ∀ q, q < 78 → I1a q = I q ∧ P1 q = P q := fun q h => ⟨by rw [← hI1a, zu_n _ _ (by omega)]; exact (g1 q h).1, (g1 q h).2⟩
  have q4 : I1a 78 4 = iI 2 := by rw [← hI1a, zu_s, zu_s]
  have qk : ∀ k, k ≠ 4 → I1a 78 k = I 78 k := fun k h => by rw [← hI1a, zu_s, zu_n _ _ h, s1]
  clear hI1a
  refine r_aload_n hV dX12_init_17 rfl rfl ?_
  refine s_bipush hV dX12_init_18 (36) (by decide) ?_
  refine r_newarray hV _ dX12_init_20 ac_int (by first | rfl | assumption) ⟨by decide, rfl, by decide⟩ (by first | decide | omega) ?_
  generalize zu Jn1 80 (fun _ => (0 : Int64)) = Jn2
  refine r_putR hV dX12_init_22 fl_X12_17 pf_X12_17 (by first | decide | omega) (by first | rfl | assumption) ?_
  generalize hI2 : zu I1a 80 (fun _ => 0) = I2
  generalize hP2 : zu (zu P1 80 (fun _ => none)) 78 (zu ((zu P1 80 (fun _ => none)) 78) 7 (some 80)) = P2
  have z2 : ∀ q, 78 < q → q < 81 → I2 q = fun _ => 0 := fun q h1 h2 => by
    rcases (show q = 80 ∨ q < 80 by omega) with rfl | h
    · rw [← hI2, zu_s]
    · rw [← hI2, zu_n _ _ (by omega)]; exact z1a q h1 h
  have g2 : ∀ q, q < 78 → I2 q = I q ∧ P2 q = P q := fun q h => ⟨by rw [← hI2, zu_n _ _ (by omega)]; exact (g1a q h).1, by rw [← hP2, zu_n _ _ (by omega), zu_n _ _ (by omega)]; exact (g1 q h).2⟩
  have s2 : I2 78 = I1a 78 := by rw [← hI2, zu_n _ _ (by omega)]
  have p2 : P2 78 7 = some 80 := by rw [← hP2, zu_s, zu_s]
  have v2 : ∀ j, j ≠ 7 → P2 78 j = P1 78 j := fun j h => by rw [← hP2, zu_s, zu_n _ _ h, zu_n _ _ (by omega)]
  clear hI2 hP2
  refine r_aload_n hV dX12_init_25 rfl rfl ?_
  refine s_bipush hV dX12_init_26 (6) (by decide) ?_
  refine r_newarray hV _ dX12_init_28 ac_int (by first | rfl | assumption) ⟨by decide, rfl, by decide⟩ (by first | decide | omega) ?_
  generalize zu Jn2 81 (fun _ => (0 : Int64)) = Jn3
  refine r_putR hV dX12_init_30 fl_X12_20 pf_X12_20 (by first | decide | omega) (by first | rfl | assumption) ?_
  generalize hI3 : zu I2 81 (fun _ => 0) = I3
  generalize hP3 : zu (zu P2 81 (fun _ => none)) 78 (zu ((zu P2 81 (fun _ => none)) 78) 9 (some 81)) = P3
  have z3 : ∀ q, 78 < q → q < 82 → I3 q = fun _ => 0 := fun q h1 h2 => by
    rcases (show q = 81 ∨ q < 81 by omega) with rfl | h
    · rw [← hI3, zu_s]
    · rw [← hI3, zu_n _ _ (by omega)]; exact z2 q h1 h
  have g3 : ∀ q, q < 78 → I3 q = I q ∧ P3 q = P q := fun q h => ⟨by rw [← hI3, zu_n _ _ (by omega)]; exact (g2 q h).1, by rw [← hP3, zu_n _ _ (by omega), zu_n _ _ (by omega)]; exact (g2 q h).2⟩
  have s3 : I3 78 = I1a 78 := by rw [← hI3, zu_n _ _ (by omega)]; exact s2
  have p3 : P3 78 9 = some 81 := by rw [← hP3, zu_s, zu_s]
  have v3 : ∀ j, j ≠ 9 → P3 78 j = P2 78 j := fun j h => by rw [← hP3, zu_s, zu_n _ _ h, zu_n _ _ (by omega)]
  clear hI3 hP3 z2 g2 s2
  refine r_aload_n hV dX12_init_33 rfl rfl ?_
  refine s_bipush hV dX12_init_34 (6) (by decide) ?_
  refine r_newarray hV _ dX12_init_36 ac_int (by first | rfl | assumption) ⟨by decide, rfl, by decide⟩ (by first | decide | omega) ?_
  generalize zu Jn3 82 (fun _ => (0 : Int64)) = Jn4
  refine r_putR hV dX12_init_38 fl_X12_23 pf_X12_23 (by first | decide | omega) (by first | rfl | assumption) ?_
  generalize hI4 : zu I3 82 (fun _ => 0) = I4
  generalize hP4 : zu (zu P3 82 (fun _ => none)) 78 (zu ((zu P3 82 (fun _ => none)) 78) 10 (some 82)) = P4
  have z4 : ∀ q, 78 < q → q < 83 → I4 q = fun _ => 0 := fun q h1 h2 => by
    rcases (show q = 82 ∨ q < 82 by omega) with rfl | h
    · rw [← hI4, zu_s]
    · rw [← hI4, zu_n _ _ (by omega)]; exact z3 q h1 h
  have g4 : ∀ q, q < 78 → I4 q = I q ∧ P4 q = P q := fun q h => ⟨by rw [← hI4, zu_n _ _ (by omega)]; exact (g3 q h).1, by rw [← hP4, zu_n _ _ (by omega), zu_n _ _ (by omega)]; exact (g3 q h).2⟩
  have s4 : I4 78 = I1a 78 := by rw [← hI4, zu_n _ _ (by omega)]; exact s3
  have p4 : P4 78 10 = some 82 := by rw [← hP4, zu_s, zu_s]
  have v4 : ∀ j, j ≠ 10 → P4 78 j = P3 78 j := fun j h => by rw [← hP4, zu_s, zu_n _ _ h, zu_n _ _ (by omega)]
  clear hI4 hP4 z3 g3 s3
  refine r_aload_n hV dX12_init_41 rfl rfl ?_
  refine s_bipush hV dX12_init_42 (6) (by decide) ?_
  refine r_newarray hV _ dX12_init_44 ac_int (by first | rfl | assumption) ⟨by decide, rfl, by decide⟩ (by first | decide | omega) ?_
  generalize zu Jn4 83 (fun _ => (0 : Int64)) = Jn5
  refine r_putR hV dX12_init_46 fl_X12_26 pf_X12_26 (by first | decide | omega) (by first | rfl | assumption) ?_
  generalize hI5 : zu I4 83 (fun _ => 0) = I5
  generalize hP5 : zu (zu P4 83 (fun _ => none)) 78 (zu ((zu P4 83 (fun _ => none)) 78) 11 (some 83)) = P5
  have z5 : ∀ q, 78 < q → q < 84 → I5 q = fun _ => 0 := fun q h1 h2 => by
    rcases (show q = 83 ∨ q < 83 by omega) with rfl | h
    · rw [← hI5, zu_s]
    · rw [← hI5, zu_n _ _ (by omega)]; exact z4 q h1 h
  have g5 : ∀ q, q < 78 → I5 q = I q ∧ P5 q = P q := fun q h => ⟨by rw [← hI5, zu_n _ _ (by omega)]; exact (g4 q h).1, by rw [← hP5, zu_n _ _ (by omega), zu_n _ _ (by omega)]; exact (g4 q h).2⟩
  have s5 : I5 78 = I1a 78 := by rw [← hI5, zu_n _ _ (by omega)]; exact s4
  have p5 : P5 78 11 = some 83 := by rw [← hP5, zu_s, zu_s]
  have v5 : ∀ j, j ≠ 11 → P5 78 j = P4 78 j := fun j h => by rw [← hP5, zu_s, zu_n _ _ h, zu_n _ _ (by omega)]
  clear hI5 hP5 z4 g4 s4
  refine r_aload_n hV dX12_init_49 rfl rfl ?_
  refine s_bipush hV dX12_init_50 (36) (by decide) ?_
  refine r_newarray hV _ dX12_init_52 ac_int (by first | rfl | assumption) ⟨by decide, rfl, by decide⟩ (by first | decide | omega) ?_
  generalize zu Jn5 84 (fun _ => (0 : Int64)) = Jn6
  refine r_putR hV dX12_init_54 fl_X12_29 pf_X12_29 (by first | decide | omega) (by first | rfl | assumption) ?_
  generalize hI6 : zu I5 84 (fun _ => 0) = I6
  generalize hP6 : zu (zu P5 84 (fun _ => none)) 78 (zu ((zu P5 84 (fun _ => none)) 78) 16 (some 84)) = P6
  have z6 : ∀ q, 78 < q → q < 85 → I6 q = fun _ => 0 := fun q h1 h2 => by
    rcases (show q = 84 ∨ q < 84 by omega) with rfl | h
    · rw [← hI6, zu_s]
    · rw [← hI6, zu_n _ _ (by omega)]; exact z5 q h1 h
  have g6 : ∀ q, q < 78 → I6 q = I q ∧ P6 q = P q := fun q h => ⟨by rw [← hI6, zu_n _ _ (by omega)]; exact (g5 q h).1, by rw [← hP6, zu_n _ _ (by omega), zu_n _ _ (by omega)]; exact (g5 q h).2⟩
  have s6 : I6 78 = I1a 78 := by rw [← hI6, zu_n _ _ (by omega)]; exact s5
  have p6 : P6 78 16 = some 84 := by rw [← hP6, zu_s, zu_s]
  have v6 : ∀ j, j ≠ 16 → P6 78 j = P5 78 j := fun j h => by rw [← hP6, zu_s, zu_n _ _ h, zu_n _ _ (by omega)]
  clear hI6 hP6 z5 g5 s5
  refine r_aload_n hV dX12_init_57 rfl rfl ?_
  refine s_bipush hV dX12_init_58 (6) (by decide) ?_
  refine r_newarray hV _ dX12_init_60 ac_int (by first | rfl | assumption) ⟨by decide, rfl, by decide⟩ (by first | decide | omega) ?_
  generalize zu Jn6 85 (fun _ => (0 : Int64)) = Jn7
  refine r_putR hV dX12_init_62 fl_X12_32 pf_X12_32 (by first | decide | omega) (by first | rfl | assumption) ?_
  generalize hI7 : zu I6 85 (fun _ => 0) = I7
  generalize hP7 : zu (zu P6 85 (fun _ => none)) 78 (zu ((zu P6 85 (fun _ => none)) 78) 17 (some 85)) = P7
  have z7 : ∀ q, 78 < q → q < 86 → I7 q = fun _ => 0 := fun q h1 h2 => by
    rcases (show q = 85 ∨ q < 85 by omega) with rfl | h
    · rw [← hI7, zu_s]
    · rw [← hI7, zu_n _ _ (by omega)]; exact z6 q h1 h
  have g7 : ∀ q, q < 78 → I7 q = I q ∧ P7 q = P q := fun q h => ⟨by rw [← hI7, zu_n _ _ (by omega)]; exact (g6 q h).1, by rw [← hP7, zu_n _ _ (by omega), zu_n _ _ (by omega)]; exact (g6 q h).2⟩
  have s7 : I7 78 = I1a 78 := by rw [← hI7, zu_n _ _ (by omega)]; exact s6
  have p7 : P7 78 17 = some 85 := by rw [← hP7, zu_s, zu_s]
  have v7 : ∀ j, j ≠ 17 → P7 78 j = P6 78 j := fun j h => by rw [← hP7, zu_s, zu_n _ _ h, zu_n _ _ (by omega)]
  clear hI7 hP7 z6 g6 s6
  refine r_aload_n hV dX12_init_65 rfl rfl ?_
  refine s_bipush hV dX12_init_66 (6) (by decide) ?_
  refine r_newarray hV _ dX12_init_68 ac_int (by first | rfl | assumption) ⟨by decide, rfl, by decide⟩ (by first | decide | omega) ?_
  generalize zu Jn7 86 (fun _ => (0 : Int64)) = Jn8
  refine r_putR hV dX12_init_70 fl_X12_35 pf_X12_35 (by first | decide | omega) (by first | rfl | assumption) ?_
  generalize hI8 : zu I7 86 (fun _ => 0) = I8
  generalize hP8 : zu (zu P7 86 (fun _ => none)) 78 (zu ((zu P7 86 (fun _ => none)) 78) 18 (some 86)) = P8
  have z8 : ∀ q, 78 < q → q < 87 → I8 q = fun _ => 0 := fun q h1 h2 => by
    rcases (show q = 86 ∨ q < 86 by omega) with rfl | h
    · rw [← hI8, zu_s]
    · rw [← hI8, zu_n _ _ (by omega)]; exact z7 q h1 h
  have g8 : ∀ q, q < 78 → I8 q = I q ∧ P8 q = P q := fun q h => ⟨by rw [← hI8, zu_n _ _ (by omega)]; exact (g7 q h).1, by rw [← hP8, zu_n _ _ (by omega), zu_n _ _ (by omega)]; exact (g7 q h).2⟩
  have s8 : I8 78 = I1a 78 := by rw [← hI8, zu_n _ _ (by omega)]; exact s7
  have p8 : P8 78 18 = some 86 := by rw [← hP8, zu_s, zu_s]
  have v8 : ∀ j, j ≠ 18 → P8 78 j = P7 78 j := fun j h => by rw [← hP8, zu_s, zu_n _ _ h, zu_n _ _ (by omega)]
  clear hI8 hP8 z7 g7 s7
  refine r_aload_n hV dX12_init_73 rfl rfl ?_
  refine s_bipush hV dX12_init_74 (6) (by decide) ?_
  refine r_newarray hV _ dX12_init_76 ac_int (by first | rfl | assumption) ⟨by decide, rfl, by decide⟩ (by first | decide | omega) ?_
  generalize zu Jn8 87 (fun _ => (0 : Int64)) = Jn9
  refine r_putR hV dX12_init_78 fl_X12_38 pf_X12_38 (by first | decide | omega) (by first | rfl | assumption) ?_
  generalize hI9 : zu I8 87 (fun _ => 0) = I9
  generalize hP9 : zu (zu P8 87 (fun _ => none)) 78 (zu ((zu P8 87 (fun _ => none)) 78) 19 (some 87)) = P9
  have z9 : ∀ q, 78 < q → q < 88 → I9 q = fun _ => 0 := fun q h1 h2 => by
    rcases (show q = 87 ∨ q < 87 by omega) with rfl | h
    · rw [← hI9, zu_s]
    · rw [← hI9, zu_n _ _ (by omega)]; exact z8 q h1 h
  have g9 : ∀ q, q < 78 → I9 q = I q ∧ P9 q = P q := fun q h => ⟨by rw [← hI9, zu_n _ _ (by omega)]; exact (g8 q h).1, by rw [← hP9, zu_n _ _ (by omega), zu_n _ _ (by omega)]; exact (g8 q h).2⟩
  have s9 : I9 78 = I1a 78 := by rw [← hI9, zu_n _ _ (by omega)]; exact s8
  have p9 : P9 78 19 = some 87 := by rw [← hP9, zu_s, zu_s]
  have v9 : ∀ j, j ≠ 19 → P9 78 j = P8 78 j := fun j h => by rw [← hP9, zu_s, zu_n _ _ h, zu_n _ _ (by omega)]
  clear hI9 hP9 z8 g8 s8
  refine r_aload_n hV dX12_init_81 rfl rfl ?_
  refine s_iconst hV dX12_init_82 (2) (by decide) ?_
  refine r_newarray hV _ dX12_init_83 ac_int (by first | rfl | assumption) ⟨by decide, rfl, by decide⟩ (by first | decide | omega) ?_
  generalize zu Jn9 88 (fun _ => (0 : Int64)) = Jn10
  refine r_putR hV dX12_init_85 fl_X12_41 pf_X12_41 (by first | decide | omega) (by first | rfl | assumption) ?_
  generalize hI10 : zu I9 88 (fun _ => 0) = I10
  generalize hP10 : zu (zu P9 88 (fun _ => none)) 78 (zu ((zu P9 88 (fun _ => none)) 78) 20 (some 88)) = P10
  have z10 : ∀ q, 78 < q → q < 89 → I10 q = fun _ => 0 := fun q h1 h2 => by
    rcases (show q = 88 ∨ q < 88 by omega) with rfl | h
    · rw [← hI10, zu_s]
    · rw [← hI10, zu_n _ _ (by omega)]; exact z9 q h1 h
  have g10 : ∀ q, q < 78 → I10 q = I q ∧ P10 q = P q := fun q h => ⟨by rw [← hI10, zu_n _ _ (by omega)]; exact (g9 q h).1, by rw [← hP10, zu_n _ _ (by omega), zu_n _ _ (by omega)]; exact (g9 q h).2⟩
  have s10 : I10 78 = I1a 78 := by rw [← hI10, zu_n _ _ (by omega)]; exact s9
  have p10 : P10 78 20 = some 88 := by rw [← hP10, zu_s, zu_s]
  have v10 : ∀ j, j ≠ 20 → P10 78 j = P9 78 j := fun j h => by rw [← hP10, zu_s, zu_n _ _ h, zu_n _ _ (by omega)]
  clear hI10 hP10 z9 g9 s9
  refine r_aload_n hV dX12_init_88 rfl rfl ?_
  refine s_bipush hV dX12_init_89 (8) (by decide) ?_
  refine r_newarray hV _ dX12_init_91 ac_int (by first | rfl | assumption) ⟨by decide, rfl, by decide⟩ (by first | decide | omega) ?_
  generalize zu Jn10 89 (fun _ => (0 : Int64)) = Jn11
  refine r_putR hV dX12_init_93 fl_X12_44 pf_X12_44 (by first | decide | omega) (by first | rfl | assumption) ?_
  generalize hI11 : zu I10 89 (fun _ => 0) = I11
  generalize hP11 : zu (zu P10 89 (fun _ => none)) 78 (zu ((zu P10 89 (fun _ => none)) 78) 25 (some 89)) = P11
  have z11 : ∀ q, 78 < q → q < 90 → I11 q = fun _ => 0 := fun q h1 h2 => by
    rcases (show q = 89 ∨ q < 89 by omega) with rfl | h
    · rw [← hI11, zu_s]
    · rw [← hI11, zu_n _ _ (by omega)]; exact z10 q h1 h
  have g11 : ∀ q, q < 78 → I11 q = I q ∧ P11 q = P q := fun q h => ⟨by rw [← hI11, zu_n _ _ (by omega)]; exact (g10 q h).1, by rw [← hP11, zu_n _ _ (by omega), zu_n _ _ (by omega)]; exact (g10 q h).2⟩
  have s11 : I11 78 = I1a 78 := by rw [← hI11, zu_n _ _ (by omega)]; exact s10
  have p11 : P11 78 25 = some 89 := by rw [← hP11, zu_s, zu_s]
  have v11 : ∀ j, j ≠ 25 → P11 78 j = P10 78 j := fun j h => by rw [← hP11, zu_s, zu_n _ _ h, zu_n _ _ (by omega)]
  clear hI11 hP11 z10 g10 s10
  refine r_aload_n hV dX12_init_96 rfl rfl ?_
  refine s_sipush hV dX12_init_97 (448) (by decide) ?_
  refine r_newarray hV _ dX12_init_100 ac_int (by first | rfl | assumption) ⟨by decide, rfl, by decide⟩ (by first | decide | omega) ?_
  generalize zu Jn11 90 (fun _ => (0 : Int64)) = Jn12
  refine r_putR hV dX12_init_102 fl_X12_47 pf_X12_47 (by first | decide | omega) (by first | rfl | assumption) ?_
  generalize hI12 : zu I11 90 (fun _ => 0) = I12
  generalize hP12 : zu (zu P11 90 (fun _ => none)) 78 (zu ((zu P11 90 (fun _ => none)) 78) 26 (some 90)) = P12
  have z12 : ∀ q, 78 < q → q < 91 → I12 q = fun _ => 0 := fun q h1 h2 => by
    rcases (show q = 90 ∨ q < 90 by omega) with rfl | h
    · rw [← hI12, zu_s]
    · rw [← hI12, zu_n _ _ (by omega)]; exact z11 q h1 h
  have g12 : ∀ q, q < 78 → I12 q = I q ∧ P12 q = P q := fun q h => ⟨by rw [← hI12, zu_n _ _ (by omega)]; exact (g11 q h).1, by rw [← hP12, zu_n _ _ (by omega), zu_n _ _ (by omega)]; exact (g11 q h).2⟩
  have s12 : I12 78 = I1a 78 := by rw [← hI12, zu_n _ _ (by omega)]; exact s11
  have p12 : P12 78 26 = some 90 := by rw [← hP12, zu_s, zu_s]
  have v12 : ∀ j, j ≠ 26 → P12 78 j = P11 78 j := fun j h => by rw [← hP12, zu_s, zu_n _ _ h, zu_n _ _ (by omega)]
  clear hI12 hP12 z11 g11 s11
  refine r_aload_n hV dX12_init_105 rfl rfl ?_
  refine s_bipush hV dX12_init_106 (56) (by decide) ?_
  refine r_newarray hV _ dX12_init_108 ac_int (by first | rfl | assumption) ⟨by decide, rfl, by decide⟩ (by first | decide | omega) ?_
  generalize zu Jn12 91 (fun _ => (0 : Int64)) = Jn13
  refine r_putR hV dX12_init_110 fl_X12_50 pf_X12_50 (by first | decide | omega) (by first | rfl | assumption) ?_
  generalize hI13 : zu I12 91 (fun _ => 0) = I13
  generalize hP13 : zu (zu P12 91 (fun _ => none)) 78 (zu ((zu P12 91 (fun _ => none)) 78) 28 (some 91)) = P13
  have z13 : ∀ q, 78 < q → q < 92 → I13 q = fun _ => 0 := fun q h1 h2 => by
    rcases (show q = 91 ∨ q < 91 by omega) with rfl | h
    · rw [← hI13, zu_s]
    · rw [← hI13, zu_n _ _ (by omega)]; exact z12 q h1 h
  have g13 : ∀ q, q < 78 → I13 q = I q ∧ P13 q = P q := fun q h => ⟨by rw [← hI13, zu_n _ _ (by omega)]; exact (g12 q h).1, by rw [← hP13, zu_n _ _ (by omega), zu_n _ _ (by omega)]; exact (g12 q h).2⟩
  have s13 : I13 78 = I1a 78 := by rw [← hI13, zu_n _ _ (by omega)]; exact s12
  have p13 : P13 78 28 = some 91 := by rw [← hP13, zu_s, zu_s]
  have v13 : ∀ j, j ≠ 28 → P13 78 j = P12 78 j := fun j h => by rw [← hP13, zu_s, zu_n _ _ h, zu_n _ _ (by omega)]
  clear hI13 hP13 z12 g12 s12
  refine r_aload_n hV dX12_init_113 rfl rfl ?_
  refine s_iconst hV dX12_init_114 (2) (by decide) ?_
  refine r_newarray hV _ dX12_init_115 ac_boolean (by first | rfl | assumption) ⟨by decide, rfl, by decide⟩ (by first | decide | omega) ?_
  generalize zu Jn13 92 (fun _ => (0 : Int64)) = Jn14
  refine r_putR hV dX12_init_117 fl_X12_53 pf_X12_53 (by first | decide | omega) (by first | rfl | assumption) ?_
  generalize hI14 : zu I13 92 (fun _ => 0) = I14
  generalize hP14 : zu (zu P13 92 (fun _ => none)) 78 (zu ((zu P13 92 (fun _ => none)) 78) 29 (some 92)) = P14
  have z14 : ∀ q, 78 < q → q < 93 → I14 q = fun _ => 0 := fun q h1 h2 => by
    rcases (show q = 92 ∨ q < 92 by omega) with rfl | h
    · rw [← hI14, zu_s]
    · rw [← hI14, zu_n _ _ (by omega)]; exact z13 q h1 h
  have g14 : ∀ q, q < 78 → I14 q = I q ∧ P14 q = P q := fun q h => ⟨by rw [← hI14, zu_n _ _ (by omega)]; exact (g13 q h).1, by rw [← hP14, zu_n _ _ (by omega), zu_n _ _ (by omega)]; exact (g13 q h).2⟩
  have s14 : I14 78 = I1a 78 := by rw [← hI14, zu_n _ _ (by omega)]; exact s13
  have p14 : P14 78 29 = some 92 := by rw [← hP14, zu_s, zu_s]
  have v14 : ∀ j, j ≠ 29 → P14 78 j = P13 78 j := fun j h => by rw [← hP14, zu_s, zu_n _ _ h, zu_n _ _ (by omega)]
  clear hI14 hP14 z13 g13 s13
  refine r_aload_n hV dX12_init_120 rfl rfl ?_
  refine s_sipush hV dX12_init_121 (128) (by decide) ?_
  refine r_newarray hV _ dX12_init_124 ac_int (by first | rfl | assumption) ⟨by decide, rfl, by decide⟩ (by first | decide | omega) ?_
  generalize zu Jn14 93 (fun _ => (0 : Int64)) = Jn15
  refine r_putR hV dX12_init_126 fl_X12_57 pf_X12_57 (by first | decide | omega) (by first | rfl | assumption) ?_
  generalize hI15 : zu I14 93 (fun _ => 0) = I15
  generalize hP15 : zu (zu P14 93 (fun _ => none)) 78 (zu ((zu P14 93 (fun _ => none)) 78) 30 (some 93)) = P15
  have z15 : ∀ q, 78 < q → q < 94 → I15 q = fun _ => 0 := fun q h1 h2 => by
    rcases (show q = 93 ∨ q < 93 by omega) with rfl | h
    · rw [← hI15, zu_s]
    · rw [← hI15, zu_n _ _ (by omega)]; exact z14 q h1 h
  have g15 : ∀ q, q < 78 → I15 q = I q ∧ P15 q = P q := fun q h => ⟨by rw [← hI15, zu_n _ _ (by omega)]; exact (g14 q h).1, by rw [← hP15, zu_n _ _ (by omega), zu_n _ _ (by omega)]; exact (g14 q h).2⟩
  have s15 : I15 78 = I1a 78 := by rw [← hI15, zu_n _ _ (by omega)]; exact s14
  have p15 : P15 78 30 = some 93 := by rw [← hP15, zu_s, zu_s]
  have v15 : ∀ j, j ≠ 30 → P15 78 j = P14 78 j := fun j h => by rw [← hP15, zu_s, zu_n _ _ h, zu_n _ _ (by omega)]
  clear hI15 hP15 z14 g14 s14
  refine r_aload_n hV dX12_init_129 rfl rfl ?_
  refine s_sipush hV dX12_init_130 (384) (by decide) ?_
  refine r_newarray hV _ dX12_init_133 ac_int (by first | rfl | assumption) ⟨by decide, rfl, by decide⟩ (by first | decide | omega) ?_
  generalize zu Jn15 94 (fun _ => (0 : Int64)) = Jn16
  refine r_putR hV dX12_init_135 fl_X12_60 pf_X12_60 (by first | decide | omega) (by first | rfl | assumption) ?_
  generalize hI16 : zu I15 94 (fun _ => 0) = I16
  generalize hP16 : zu (zu P15 94 (fun _ => none)) 78 (zu ((zu P15 94 (fun _ => none)) 78) 31 (some 94)) = P16
  have z16 : ∀ q, 78 < q → q < 95 → I16 q = fun _ => 0 := fun q h1 h2 => by
    rcases (show q = 94 ∨ q < 94 by omega) with rfl | h
    · rw [← hI16, zu_s]
    · rw [← hI16, zu_n _ _ (by omega)]; exact z15 q h1 h
  have g16 : ∀ q, q < 78 → I16 q = I q ∧ P16 q = P q := fun q h => ⟨by rw [← hI16, zu_n _ _ (by omega)]; exact (g15 q h).1, by rw [← hP16, zu_n _ _ (by omega), zu_n _ _ (by omega)]; exact (g15 q h).2⟩
  have s16 : I16 78 = I1a 78 := by rw [← hI16, zu_n _ _ (by omega)]; exact s15
  have p16 : P16 78 31 = some 94 := by rw [← hP16, zu_s, zu_s]
  have v16 : ∀ j, j ≠ 31 → P16 78 j = P15 78 j := fun j h => by rw [← hP16, zu_s, zu_n _ _ h, zu_n _ _ (by omega)]
  clear hI16 hP16 z15 g15 s15
  refine r_aload_n hV dX12_init_138 rfl rfl ?_
  refine s_bipush hV dX12_init_139 (9) (by decide) ?_
  refine r_newarray hV _ dX12_init_141 ac_int (by first | rfl | assumption) ⟨by decide, rfl, by decide⟩ (by first | decide | omega) ?_
  generalize zu Jn16 95 (fun _ => (0 : Int64)) = Jn17
  refine r_putR hV dX12_init_143 fl_X12_63 pf_X12_63 (by first | decide | omega) (by first | rfl | assumption) ?_
  generalize hI17 : zu I16 95 (fun _ => 0) = I17
  generalize hP17 : zu (zu P16 95 (fun _ => none)) 78 (zu ((zu P16 95 (fun _ => none)) 78) 36 (some 95)) = P17
  have z17 : ∀ q, 78 < q → q < 96 → I17 q = fun _ => 0 := fun q h1 h2 => by
    rcases (show q = 95 ∨ q < 95 by omega) with rfl | h
    · rw [← hI17, zu_s]
    · rw [← hI17, zu_n _ _ (by omega)]; exact z16 q h1 h
  have g17 : ∀ q, q < 78 → I17 q = I q ∧ P17 q = P q := fun q h => ⟨by rw [← hI17, zu_n _ _ (by omega)]; exact (g16 q h).1, by rw [← hP17, zu_n _ _ (by omega), zu_n _ _ (by omega)]; exact (g16 q h).2⟩
  have s17 : I17 78 = I1a 78 := by rw [← hI17, zu_n _ _ (by omega)]; exact s16
  have p17 : P17 78 36 = some 95 := by rw [← hP17, zu_s, zu_s]
  have v17 : ∀ j, j ≠ 36 → P17 78 j = P16 78 j := fun j h => by rw [← hP17, zu_s, zu_n _ _ h, zu_n _ _ (by omega)]
  clear hI17 hP17 z16 g16 s16
  refine r_aload_n hV dX12_init_146 rfl rfl ?_
  refine s_bipush hV dX12_init_147 (9) (by decide) ?_
  refine r_newarray hV _ dX12_init_149 ac_int (by first | rfl | assumption) ⟨by decide, rfl, by decide⟩ (by first | decide | omega) ?_
  generalize zu Jn17 96 (fun _ => (0 : Int64)) = Jn18
  refine r_putR hV dX12_init_151 fl_X12_66 pf_X12_66 (by first | decide | omega) (by first | rfl | assumption) ?_
  generalize hI18 : zu I17 96 (fun _ => 0) = I18
  generalize hP18 : zu (zu P17 96 (fun _ => none)) 78 (zu ((zu P17 96 (fun _ => none)) 78) 37 (some 96)) = P18
  have z18 : ∀ q, 78 < q → q < 97 → I18 q = fun _ => 0 := fun q h1 h2 => by
    rcases (show q = 96 ∨ q < 96 by omega) with rfl | h
    · rw [← hI18, zu_s]
    · rw [← hI18, zu_n _ _ (by omega)]; exact z17 q h1 h
  have g18 : ∀ q, q < 78 → I18 q = I q ∧ P18 q = P q := fun q h => ⟨by rw [← hI18, zu_n _ _ (by omega)]; exact (g17 q h).1, by rw [← hP18, zu_n _ _ (by omega), zu_n _ _ (by omega)]; exact (g17 q h).2⟩
  have s18 : I18 78 = I1a 78 := by rw [← hI18, zu_n _ _ (by omega)]; exact s17
  have p18 : P18 78 37 = some 96 := by rw [← hP18, zu_s, zu_s]
  have v18 : ∀ j, j ≠ 37 → P18 78 j = P17 78 j := fun j h => by rw [← hP18, zu_s, zu_n _ _ h, zu_n _ _ (by omega)]
  clear hI18 hP18 z17 g17 s17
  refine r_aload_n hV dX12_init_154 rfl rfl ?_
  refine s_bipush hV dX12_init_155 (9) (by decide) ?_
  refine r_newarray hV _ dX12_init_157 ac_int (by first | rfl | assumption) ⟨by decide, rfl, by decide⟩ (by first | decide | omega) ?_
  generalize zu Jn18 97 (fun _ => (0 : Int64)) = Jn19
  refine r_putR hV dX12_init_159 fl_X12_69 pf_X12_69 (by first | decide | omega) (by first | rfl | assumption) ?_
  generalize hI19 : zu I18 97 (fun _ => 0) = I19
  generalize hP19 : zu (zu P18 97 (fun _ => none)) 78 (zu ((zu P18 97 (fun _ => none)) 78) 38 (some 97)) = P19
  have z19 : ∀ q, 78 < q → q < 98 → I19 q = fun _ => 0 := fun q h1 h2 => by
    rcases (show q = 97 ∨ q < 97 by omega) with rfl | h
    · rw [← hI19, zu_s]
    · rw [← hI19, zu_n _ _ (by omega)]; exact z18 q h1 h
  have g19 : ∀ q, q < 78 → I19 q = I q ∧ P19 q = P q := fun q h => ⟨by rw [← hI19, zu_n _ _ (by omega)]; exact (g18 q h).1, by rw [← hP19, zu_n _ _ (by omega), zu_n _ _ (by omega)]; exact (g18 q h).2⟩
  have s19 : I19 78 = I1a 78 := by rw [← hI19, zu_n _ _ (by omega)]; exact s18
  have p19 : P19 78 38 = some 97 := by rw [← hP19, zu_s, zu_s]
  have v19 : ∀ j, j ≠ 38 → P19 78 j = P18 78 j := fun j h => by rw [← hP19, zu_s, zu_n _ _ h, zu_n _ _ (by omega)]
  clear hI19 hP19 z18 g18 s18
  refine r_aload_n hV dX12_init_162 rfl rfl ?_
  refine s_bipush hV dX12_init_163 (9) (by decide) ?_
  refine r_newarray hV _ dX12_init_165 ac_int (by first | rfl | assumption) ⟨by decide, rfl, by decide⟩ (by first | decide | omega) ?_
  generalize zu Jn19 98 (fun _ => (0 : Int64)) = Jn20
  refine r_putR hV dX12_init_167 fl_X12_72 pf_X12_72 (by first | decide | omega) (by first | rfl | assumption) ?_
  generalize hI20 : zu I19 98 (fun _ => 0) = I20
  generalize hP20 : zu (zu P19 98 (fun _ => none)) 78 (zu ((zu P19 98 (fun _ => none)) 78) 39 (some 98)) = P20
  have z20 : ∀ q, 78 < q → q < 99 → I20 q = fun _ => 0 := fun q h1 h2 => by
    rcases (show q = 98 ∨ q < 98 by omega) with rfl | h
    · rw [← hI20, zu_s]
    · rw [← hI20, zu_n _ _ (by omega)]; exact z19 q h1 h
  have g20 : ∀ q, q < 78 → I20 q = I q ∧ P20 q = P q := fun q h => ⟨by rw [← hI20, zu_n _ _ (by omega)]; exact (g19 q h).1, by rw [← hP20, zu_n _ _ (by omega), zu_n _ _ (by omega)]; exact (g19 q h).2⟩
  have s20 : I20 78 = I1a 78 := by rw [← hI20, zu_n _ _ (by omega)]; exact s19
  have p20 : P20 78 39 = some 98 := by rw [← hP20, zu_s, zu_s]
  have v20 : ∀ j, j ≠ 39 → P20 78 j = P19 78 j := fun j h => by rw [← hP20, zu_s, zu_n _ _ h, zu_n _ _ (by omega)]
  clear hI20 hP20 z19 g19 s19
  refine r_aload_n hV dX12_init_170 rfl rfl ?_
  refine s_bipush hV dX12_init_171 (9) (by decide) ?_
  refine r_newarray hV _ dX12_init_173 ac_int (by first | rfl | assumption) ⟨by decide, rfl, by decide⟩ (by first | decide | omega) ?_
  generalize zu Jn20 99 (fun _ => (0 : Int64)) = Jn21
  refine r_putR hV dX12_init_175 fl_X12_75 pf_X12_75 (by first | decide | omega) (by first | rfl | assumption) ?_
  generalize hI21 : zu I20 99 (fun _ => 0) = I21
  generalize hP21 : zu (zu P20 99 (fun _ => none)) 78 (zu ((zu P20 99 (fun _ => none)) 78) 40 (some 99)) = P21
  have z21 : ∀ q, 78 < q → q < 100 → I21 q = fun _ => 0 := fun q h1 h2 => by
    rcases (show q = 99 ∨ q < 99 by omega) with rfl | h
    · rw [← hI21, zu_s]
    · rw [← hI21, zu_n _ _ (by omega)]; exact z20 q h1 h
  have g21 : ∀ q, q < 78 → I21 q = I q ∧ P21 q = P q := fun q h => ⟨by rw [← hI21, zu_n _ _ (by omega)]; exact (g20 q h).1, by rw [← hP21, zu_n _ _ (by omega), zu_n _ _ (by omega)]; exact (g20 q h).2⟩
  have s21 : I21 78 = I1a 78 := by rw [← hI21, zu_n _ _ (by omega)]; exact s20
  have p21 : P21 78 40 = some 99 := by rw [← hP21, zu_s, zu_s]
  have v21 : ∀ j, j ≠ 40 → P21 78 j = P20 78 j := fun j h => by rw [← hP21, zu_s, zu_n _ _ h, zu_n _ _ (by omega)]
  clear hI21 hP21 z20 g20 s20
  refine r_aload_n hV dX12_init_178 rfl rfl ?_
  refine s_bipush hV dX12_init_179 (9) (by decide) ?_
  refine r_newarray hV _ dX12_init_181 ac_int (by first | rfl | assumption) ⟨by decide, rfl, by decide⟩ (by first | decide | omega) ?_
  generalize zu Jn21 100 (fun _ => (0 : Int64)) = Jn22
  refine r_putR hV dX12_init_183 fl_X12_78 pf_X12_78 (by first | decide | omega) (by first | rfl | assumption) ?_
  generalize hI22 : zu I21 100 (fun _ => 0) = I22
  generalize hP22 : zu (zu P21 100 (fun _ => none)) 78 (zu ((zu P21 100 (fun _ => none)) 78) 41 (some 100)) = P22
  have z22 : ∀ q, 78 < q → q < 101 → I22 q = fun _ => 0 := fun q h1 h2 => by
    rcases (show q = 100 ∨ q < 100 by omega) with rfl | h
    · rw [← hI22, zu_s]
    · rw [← hI22, zu_n _ _ (by omega)]; exact z21 q h1 h
  have g22 : ∀ q, q < 78 → I22 q = I q ∧ P22 q = P q := fun q h => ⟨by rw [← hI22, zu_n _ _ (by omega)]; exact (g21 q h).1, by rw [← hP22, zu_n _ _ (by omega), zu_n _ _ (by omega)]; exact (g21 q h).2⟩
  have s22 : I22 78 = I1a 78 := by rw [← hI22, zu_n _ _ (by omega)]; exact s21
  have p22 : P22 78 41 = some 100 := by rw [← hP22, zu_s, zu_s]
  have v22 : ∀ j, j ≠ 41 → P22 78 j = P21 78 j := fun j h => by rw [← hP22, zu_s, zu_n _ _ h, zu_n _ _ (by omega)]
  clear hI22 hP22 z21 g21 s21
  refine r_aload_n hV dX12_init_186 rfl rfl ?_
  refine s_bipush hV dX12_init_187 (9) (by decide) ?_
  refine r_newarray hV _ dX12_init_189 ac_int (by first | rfl | assumption) ⟨by decide, rfl, by decide⟩ (by first | decide | omega) ?_
  generalize zu Jn22 101 (fun _ => (0 : Int64)) = Jn23
  refine r_putR hV dX12_init_191 fl_X12_81 pf_X12_81 (by first | decide | omega) (by first | rfl | assumption) ?_
  generalize hI23 : zu I22 101 (fun _ => 0) = I23
  generalize hP23 : zu (zu P22 101 (fun _ => none)) 78 (zu ((zu P22 101 (fun _ => none)) 78) 42 (some 101)) = P23
  have z23 : ∀ q, 78 < q → q < 102 → I23 q = fun _ => 0 := fun q h1 h2 => by
    rcases (show q = 101 ∨ q < 101 by omega) with rfl | h
    · rw [← hI23, zu_s]
    · rw [← hI23, zu_n _ _ (by omega)]; exact z22 q h1 h
  have g23 : ∀ q, q < 78 → I23 q = I q ∧ P23 q = P q := fun q h => ⟨by rw [← hI23, zu_n _ _ (by omega)]; exact (g22 q h).1, by rw [← hP23, zu_n _ _ (by omega), zu_n _ _ (by omega)]; exact (g22 q h).2⟩
  have s23 : I23 78 = I1a 78 := by rw [← hI23, zu_n _ _ (by omega)]; exact s22
  have p23 : P23 78 42 = some 101 := by rw [← hP23, zu_s, zu_s]
  have v23 : ∀ j, j ≠ 42 → P23 78 j = P22 78 j := fun j h => by rw [← hP23, zu_s, zu_n _ _ h, zu_n _ _ (by omega)]
  clear hI23 hP23 z22 g22 s22
  refine r_aload_n hV dX12_init_194 rfl rfl ?_
  refine s_bipush hV dX12_init_195 (9) (by decide) ?_
  refine r_newarray hV _ dX12_init_197 ac_int (by first | rfl | assumption) ⟨by decide, rfl, by decide⟩ (by first | decide | omega) ?_
  generalize zu Jn23 102 (fun _ => (0 : Int64)) = Jn24
  refine r_putR hV dX12_init_199 fl_X12_84 pf_X12_84 (by first | decide | omega) (by first | rfl | assumption) ?_
  generalize hI24 : zu I23 102 (fun _ => 0) = I24
  generalize hP24 : zu (zu P23 102 (fun _ => none)) 78 (zu ((zu P23 102 (fun _ => none)) 78) 43 (some 102)) = P24
  have z24 : ∀ q, 78 < q → q < 103 → I24 q = fun _ => 0 := fun q h1 h2 => by
    rcases (show q = 102 ∨ q < 102 by omega) with rfl | h
    · rw [← hI24, zu_s]
    · rw [← hI24, zu_n _ _ (by omega)]; exact z23 q h1 h
  have g24 : ∀ q, q < 78 → I24 q = I q ∧ P24 q = P q := fun q h => ⟨by rw [← hI24, zu_n _ _ (by omega)]; exact (g23 q h).1, by rw [← hP24, zu_n _ _ (by omega), zu_n _ _ (by omega)]; exact (g23 q h).2⟩
  have s24 : I24 78 = I1a 78 := by rw [← hI24, zu_n _ _ (by omega)]; exact s23
  have p24 : P24 78 43 = some 102 := by rw [← hP24, zu_s, zu_s]
  have v24 : ∀ j, j ≠ 43 → P24 78 j = P23 78 j := fun j h => by rw [← hP24, zu_s, zu_n _ _ h, zu_n _ _ (by omega)]
  clear hI24 hP24 z23 g23 s23
  refine r_aload_n hV dX12_init_202 rfl rfl ?_
  refine s_bipush hV dX12_init_203 (9) (by decide) ?_
  refine r_newarray hV _ dX12_init_205 ac_int (by first | rfl | assumption) ⟨by decide, rfl, by decide⟩ (by first | decide | omega) ?_
  generalize zu Jn24 103 (fun _ => (0 : Int64)) = Jn25
  refine r_putR hV dX12_init_207 fl_X12_87 pf_X12_87 (by first | decide | omega) (by first | rfl | assumption) ?_
  generalize hI25 : zu I24 103 (fun _ => 0) = I25
  generalize hP25 : zu (zu P24 103 (fun _ => none)) 78 (zu ((zu P24 103 (fun _ => none)) 78) 44 (some 103)) = P25
  have z25 : ∀ q, 78 < q → q < 104 → I25 q = fun _ => 0 := fun q h1 h2 => by
    rcases (show q = 103 ∨ q < 103 by omega) with rfl | h
    · rw [← hI25, zu_s]
    · rw [← hI25, zu_n _ _ (by omega)]; exact z24 q h1 h
  have g25 : ∀ q, q < 78 → I25 q = I q ∧ P25 q = P q := fun q h => ⟨by rw [← hI25, zu_n _ _ (by omega)]; exact (g24 q h).1, by rw [← hP25, zu_n _ _ (by omega), zu_n _ _ (by omega)]; exact (g24 q h).2⟩
  have s25 : I25 78 = I1a 78 := by rw [← hI25, zu_n _ _ (by omega)]; exact s24
  have p25 : P25 78 44 = some 103 := by rw [← hP25, zu_s, zu_s]
  have v25 : ∀ j, j ≠ 44 → P25 78 j = P24 78 j := fun j h => by rw [← hP25, zu_s, zu_n _ _ h, zu_n _ _ (by omega)]
  clear hI25 hP25 z24 g24 s24
  refine r_aload_n hV dX12_init_210 rfl rfl ?_
  refine s_bipush hV dX12_init_211 (9) (by decide) ?_
  refine r_newarray hV _ dX12_init_213 ac_int (by first | rfl | assumption) ⟨by decide, rfl, by decide⟩ (by first | decide | omega) ?_
  generalize zu Jn25 104 (fun _ => (0 : Int64)) = Jn26
  refine r_putR hV dX12_init_215 fl_X12_90 pf_X12_90 (by first | decide | omega) (by first | rfl | assumption) ?_
  generalize hI26 : zu I25 104 (fun _ => 0) = I26
  generalize hP26 : zu (zu P25 104 (fun _ => none)) 78 (zu ((zu P25 104 (fun _ => none)) 78) 45 (some 104)) = P26
  have z26 : ∀ q, 78 < q → q < 105 → I26 q = fun _ => 0 := fun q h1 h2 => by
    rcases (show q = 104 ∨ q < 104 by omega) with rfl | h
    · rw [← hI26, zu_s]
    · rw [← hI26, zu_n _ _ (by omega)]; exact z25 q h1 h
  have g26 : ∀ q, q < 78 → I26 q = I q ∧ P26 q = P q := fun q h => ⟨by rw [← hI26, zu_n _ _ (by omega)]; exact (g25 q h).1, by rw [← hP26, zu_n _ _ (by omega), zu_n _ _ (by omega)]; exact (g25 q h).2⟩
  have s26 : I26 78 = I1a 78 := by rw [← hI26, zu_n _ _ (by omega)]; exact s25
  have p26 : P26 78 45 = some 104 := by rw [← hP26, zu_s, zu_s]
  have v26 : ∀ j, j ≠ 45 → P26 78 j = P25 78 j := fun j h => by rw [← hP26, zu_s, zu_n _ _ h, zu_n _ _ (by omega)]
  clear hI26 hP26 z25 g25 s25
  refine r_aload_n hV dX12_init_218 rfl rfl ?_
  refine s_bipush hV dX12_init_219 (9) (by decide) ?_
  refine r_newarray hV _ dX12_init_221 ac_int (by first | rfl | assumption) ⟨by decide, rfl, by decide⟩ (by first | decide | omega) ?_
  generalize zu Jn26 105 (fun _ => (0 : Int64)) = Jn27
  refine r_putR hV dX12_init_223 fl_X12_93 pf_X12_93 (by first | decide | omega) (by first | rfl | assumption) ?_
  generalize hI27 : zu I26 105 (fun _ => 0) = I27
  generalize hP27 : zu (zu P26 105 (fun _ => none)) 78 (zu ((zu P26 105 (fun _ => none)) 78) 46 (some 105)) = P27
  have z27 : ∀ q, 78 < q → q < 106 → I27 q = fun _ => 0 := fun q h1 h2 => by
    rcases (show q = 105 ∨ q < 105 by omega) with rfl | h
    · rw [← hI27, zu_s]
    · rw [← hI27, zu_n _ _ (by omega)]; exact z26 q h1 h
  have g27 : ∀ q, q < 78 → I27 q = I q ∧ P27 q = P q := fun q h => ⟨by rw [← hI27, zu_n _ _ (by omega)]; exact (g26 q h).1, by rw [← hP27, zu_n _ _ (by omega), zu_n _ _ (by omega)]; exact (g26 q h).2⟩
  have s27 : I27 78 = I1a 78 := by rw [← hI27, zu_n _ _ (by omega)]; exact s26
  have p27 : P27 78 46 = some 105 := by rw [← hP27, zu_s, zu_s]
  have v27 : ∀ j, j ≠ 46 → P27 78 j = P26 78 j := fun j h => by rw [← hP27, zu_s, zu_n _ _ h, zu_n _ _ (by omega)]
  clear hI27 hP27 z26 g26 s26
  refine r_aload_n hV dX12_init_226 rfl rfl ?_
  refine s_sipush hV dX12_init_227 (6000) (by decide) ?_
  refine r_newarray hV _ dX12_init_230 ac_long (by first | rfl | assumption) ⟨by decide, rfl, by decide⟩ (by first | decide | omega) ?_
  generalize zu Jn27 106 (fun _ => (0 : Int64)) = Jn28
  refine r_putR hV dX12_init_232 fl_X12_96 pf_X12_96 (by first | decide | omega) (by first | rfl | assumption) ?_
  generalize hI28 : zu I27 106 (fun _ => 0) = I28
  generalize hP28 : zu (zu P27 106 (fun _ => none)) 78 (zu ((zu P27 106 (fun _ => none)) 78) 47 (some 106)) = P28
  have z28 : ∀ q, 78 < q → q < 107 → I28 q = fun _ => 0 := fun q h1 h2 => by
    rcases (show q = 106 ∨ q < 106 by omega) with rfl | h
    · rw [← hI28, zu_s]
    · rw [← hI28, zu_n _ _ (by omega)]; exact z27 q h1 h
  have g28 : ∀ q, q < 78 → I28 q = I q ∧ P28 q = P q := fun q h => ⟨by rw [← hI28, zu_n _ _ (by omega)]; exact (g27 q h).1, by rw [← hP28, zu_n _ _ (by omega), zu_n _ _ (by omega)]; exact (g27 q h).2⟩
  have s28 : I28 78 = I1a 78 := by rw [← hI28, zu_n _ _ (by omega)]; exact s27
  have p28 : P28 78 47 = some 106 := by rw [← hP28, zu_s, zu_s]
  have v28 : ∀ j, j ≠ 47 → P28 78 j = P27 78 j := fun j h => by rw [← hP28, zu_s, zu_n _ _ h, zu_n _ _ (by omega)]
  clear hI28 hP28 z27 g27 s27
  refine r_aload_n hV dX12_init_235 rfl rfl ?_
  refine s_sipush hV dX12_init_236 (6000) (by decide) ?_
  refine r_newarray hV _ dX12_init_239 ac_long (by first | rfl | assumption) ⟨by decide, rfl, by decide⟩ (by first | decide | omega) ?_
  generalize zu Jn28 107 (fun _ => (0 : Int64)) = Jn29
  refine r_putR hV dX12_init_241 fl_X12_100 pf_X12_100 (by first | decide | omega) (by first | rfl | assumption) ?_
  generalize hI29 : zu I28 107 (fun _ => 0) = I29
  generalize hP29 : zu (zu P28 107 (fun _ => none)) 78 (zu ((zu P28 107 (fun _ => none)) 78) 48 (some 107)) = P29
  have z29 : ∀ q, 78 < q → q < 108 → I29 q = fun _ => 0 := fun q h1 h2 => by
    rcases (show q = 107 ∨ q < 107 by omega) with rfl | h
    · rw [← hI29, zu_s]
    · rw [← hI29, zu_n _ _ (by omega)]; exact z28 q h1 h
  have g29 : ∀ q, q < 78 → I29 q = I q ∧ P29 q = P q := fun q h => ⟨by rw [← hI29, zu_n _ _ (by omega)]; exact (g28 q h).1, by rw [← hP29, zu_n _ _ (by omega), zu_n _ _ (by omega)]; exact (g28 q h).2⟩
  have s29 : I29 78 = I1a 78 := by rw [← hI29, zu_n _ _ (by omega)]; exact s28
  have p29 : P29 78 48 = some 107 := by rw [← hP29, zu_s, zu_s]
  have v29 : ∀ j, j ≠ 48 → P29 78 j = P28 78 j := fun j h => by rw [← hP29, zu_s, zu_n _ _ h, zu_n _ _ (by omega)]
  clear hI29 hP29 z28 g28 s28
  have F28 : ∀ j, j ≤ 47 → P29 78 j = P28 78 j := fun j h => v29 j (by omega)
  have F27 : ∀ j, j ≤ 46 → P29 78 j = P27 78 j := fun j h => (F28 j (by omega)).trans (v28 j (by omega))
  have F26 : ∀ j, j ≤ 45 → P29 78 j = P26 78 j := fun j h => (F27 j (by omega)).trans (v27 j (by omega))
  have F25 : ∀ j, j ≤ 44 → P29 78 j = P25 78 j := fun j h => (F26 j (by omega)).trans (v26 j (by omega))
  have F24 : ∀ j, j ≤ 43 → P29 78 j = P24 78 j := fun j h => (F25 j (by omega)).trans (v25 j (by omega))
  have F23 : ∀ j, j ≤ 42 → P29 78 j = P23 78 j := fun j h => (F24 j (by omega)).trans (v24 j (by omega))
  have F22 : ∀ j, j ≤ 41 → P29 78 j = P22 78 j := fun j h => (F23 j (by omega)).trans (v23 j (by omega))
  have F21 : ∀ j, j ≤ 40 → P29 78 j = P21 78 j := fun j h => (F22 j (by omega)).trans (v22 j (by omega))
  have F20 : ∀ j, j ≤ 39 → P29 78 j = P20 78 j := fun j h => (F21 j (by omega)).trans (v21 j (by omega))
  have F19 : ∀ j, j ≤ 38 → P29 78 j = P19 78 j := fun j h => (F20 j (by omega)).trans (v20 j (by omega))
  have F18 : ∀ j, j ≤ 37 → P29 78 j = P18 78 j := fun j h => (F19 j (by omega)).trans (v19 j (by omega))
  have F17 : ∀ j, j ≤ 36 → P29 78 j = P17 78 j := fun j h => (F18 j (by omega)).trans (v18 j (by omega))
  have F16 : ∀ j, j ≤ 31 → P29 78 j = P16 78 j := fun j h => (F17 j (by omega)).trans (v17 j (by omega))
  have F15 : ∀ j, j ≤ 30 → P29 78 j = P15 78 j := fun j h => (F16 j (by omega)).trans (v16 j (by omega))
  have F14 : ∀ j, j ≤ 29 → P29 78 j = P14 78 j := fun j h => (F15 j (by omega)).trans (v15 j (by omega))
  have F13 : ∀ j, j ≤ 28 → P29 78 j = P13 78 j := fun j h => (F14 j (by omega)).trans (v14 j (by omega))
  have F12 : ∀ j, j ≤ 26 → P29 78 j = P12 78 j := fun j h => (F13 j (by omega)).trans (v13 j (by omega))
  have F11 : ∀ j, j ≤ 25 → P29 78 j = P11 78 j := fun j h => (F12 j (by omega)).trans (v12 j (by omega))
  have F10 : ∀ j, j ≤ 20 → P29 78 j = P10 78 j := fun j h => (F11 j (by omega)).trans (v11 j (by omega))
  have F9 : ∀ j, j ≤ 19 → P29 78 j = P9 78 j := fun j h => (F10 j (by omega)).trans (v10 j (by omega))
  have F8 : ∀ j, j ≤ 18 → P29 78 j = P8 78 j := fun j h => (F9 j (by omega)).trans (v9 j (by omega))
  have F7 : ∀ j, j ≤ 17 → P29 78 j = P7 78 j := fun j h => (F8 j (by omega)).trans (v8 j (by omega))
  have F6 : ∀ j, j ≤ 16 → P29 78 j = P6 78 j := fun j h => (F7 j (by omega)).trans (v7 j (by omega))
  have F5 : ∀ j, j ≤ 11 → P29 78 j = P5 78 j := fun j h => (F6 j (by omega)).trans (v6 j (by omega))
  have F4 : ∀ j, j ≤ 10 → P29 78 j = P4 78 j := fun j h => (F5 j (by omega)).trans (v5 j (by omega))
  have F3 : ∀ j, j ≤ 9 → P29 78 j = P3 78 j := fun j h => (F4 j (by omega)).trans (v4 j (by omega))
  have F2 : ∀ j, j ≤ 7 → P29 78 j = P2 78 j := fun j h => (F3 j (by omega)).trans (v3 j (by omega))
  have F1 : ∀ j, j ≤ 1 → P29 78 j = P1 78 j := fun j h => (F2 j (by omega)).trans (v2 j (by omega))
  have o1 : P29 78 1 = some 79 := (F1 1 (by omega)).trans p1
  have o7 : P29 78 7 = some 80 := (F2 7 (by omega)).trans p2
  have o9 : P29 78 9 = some 81 := (F3 9 (by omega)).trans p3
  have o10 : P29 78 10 = some 82 := (F4 10 (by omega)).trans p4
  have o11 : P29 78 11 = some 83 := (F5 11 (by omega)).trans p5
  have o16 : P29 78 16 = some 84 := (F6 16 (by omega)).trans p6
  have o17 : P29 78 17 = some 85 := (F7 17 (by omega)).trans p7
  have o18 : P29 78 18 = some 86 := (F8 18 (by omega)).trans p8
  have o19 : P29 78 19 = some 87 := (F9 19 (by omega)).trans p9
  have o20 : P29 78 20 = some 88 := (F10 20 (by omega)).trans p10
  have o25 : P29 78 25 = some 89 := (F11 25 (by omega)).trans p11
  have o26 : P29 78 26 = some 90 := (F12 26 (by omega)).trans p12
  have o28 : P29 78 28 = some 91 := (F13 28 (by omega)).trans p13
  have o29 : P29 78 29 = some 92 := (F14 29 (by omega)).trans p14
  have o30 : P29 78 30 = some 93 := (F15 30 (by omega)).trans p15
  have o31 : P29 78 31 = some 94 := (F16 31 (by omega)).trans p16
  have o36 : P29 78 36 = some 95 := (F17 36 (by omega)).trans p17
  have o37 : P29 78 37 = some 96 := (F18 37 (by omega)).trans p18
  have o38 : P29 78 38 = some 97 := (F19 38 (by omega)).trans p19
  have o39 : P29 78 39 = some 98 := (F20 39 (by omega)).trans p20
  have o40 : P29 78 40 = some 99 := (F21 40 (by omega)).trans p21
  have o41 : P29 78 41 = some 100 := (F22 41 (by omega)).trans p22
  have o42 : P29 78 42 = some 101 := (F23 42 (by omega)).trans p23
  have o43 : P29 78 43 = some 102 := (F24 43 (by omega)).trans p24
  have o44 : P29 78 44 = some 103 := (F25 44 (by omega)).trans p25
  have o45 : P29 78 45 = some 104 := (F26 45 (by omega)).trans p26
  have o46 : P29 78 46 = some 105 := (F27 46 (by omega)).trans p27
  have o47 : P29 78 47 = some 106 := (F28 47 (by omega)).trans p28
  have o48 : P29 78 48 = some 107 := p29
  clear F1 F2 F3 F4 F5 F6 F7 F8 F9 F10 F11 F12 F13 F14 F15 F16 F17 F18 F19 F20 F21 F22 F23 F24 F25 F26 F27 F28 v1 p1 v2 p2 v3 p3 v4 p4 v5 p5 v6 p6 v7 p7 v8 p8 v9 p9 v10 p10 v11 p11 v12 p12 v13 p13 v14 p14 v15 p15 v16 p16 v17 p17 v18 p18 v19 p19 v20 p20 v21 p21 v22 p22 v23 p23 v24 p24 v25 p25 v26 p26 v27 p27 v28 p28 v29 p29
  refine s_iconst hV dX12_init_244 (0) (by decide) ?_
  refine r_istore_n hV dX12_init_245 (Nat.le_of_ble_eq_true rfl) (z_st1_2_1 rfl) ?_
  have L246 : ∀ (k246 j : Nat) (IX : zI) (JX : zJ), 36 - j < k246 → j ≤ 36 → (z_ar IX 80 (j : Int) (mRf (fun _ => 0))) → (∀ q, q ≠ 80 → IX q = I29 q) → V 108 IX JX P29 246 [.ref 78, .int (iI (j : Int))] [] := by
    intro k246
    induction k246 with
    | zero => intro j IX  JX  hk1 hk2; omega
    | succ k246 ih246 =>
      intro j IX  JX  hk246 hl246 hz hfr
      refine r_iload_n hV dX12_init_246 rfl ?_
      refine s_bipush hV dX12_init_247 (36) (by decide) ?_
      refine s_icmp_ge hV 281 dX12_init_249 (by decide) (by unfold z_rg; first | omega | (split <;> omega)) (by unfold z_rg; first | omega | (split <;> omega)) (fun c249 => ?_) (fun c249 => ?_)
      · refine r_vret hV dX12_init_281 rfl rfl ?_
        rw [show j = 36 by omega] at hz
        refine ⟨rfl, ⟨o1, o7, o9, o10, o11, o16, o17, o18, o19, o20, o25, o26, o28, o29, o30, o31, o36, o37, o38, o39, o40, o41, o42, o43, o44, o45, o46, o47, o48⟩, fun q h => ⟨(hfr q (by omega)).trans (g29 q h).1, (g29 q h).2⟩, (congrFun ((hfr 78 (by omega)).trans s29) 4).trans q4, fun k h => (congrFun ((hfr 78 (by omega)).trans s29) k).trans (qk k h), hz, fun q h1 h2 h3 => (hfr q h3).trans (z29 q h1 h2)⟩
      · refine r_aload_n hV dX12_init_252 rfl rfl ?_
        refine r_getR hV dX12_init_253 fl_X12_17 (by first | decide | omega) (by first | rfl | assumption) o7 ?_
        refine r_iload_n hV dX12_init_256 rfl ?_
        refine r_iload_n hV dX12_init_257 rfl ?_
        refine s_bipush hV dX12_init_258 (6) (by decide) ?_
        refine s_idiv hV dX12_init_260 (by unfold z_rg; first | omega | (split <;> omega)) (by unfold z_rg; first | omega | (split <;> omega)) (by omega) (by omega) ?_
        refine r_iload_n hV dX12_init_261 rfl ?_
        refine s_bipush hV dX12_init_262 (6) (by decide) ?_
        refine s_irem hV dX12_init_264 (by unfold z_rg; first | omega | (split <;> omega)) (by unfold z_rg; first | omega | (split <;> omega)) (by omega) (by omega) ?_
        refine s_icmp_ne hV 272 dX12_init_265 (by decide) (by unfold z_rg; first | omega | (split <;> omega)) (by unfold z_rg; first | omega | (split <;> omega)) (fun c265 => ?_) (fun c265 => ?_)
        · refine s_ldc hV dX12_init_272 ct_X12_103 (99999) (by decide) ?_
          first
            | rw [show iI 99999 = iI (mRf (fun _ => 0) (j : Int)) by unfold mRf; rw [if_neg (by omega), if_pos rfl]]
            | rw [show iI 0 = iI (mRf (fun _ => 0) (j : Int)) by unfold mRf; rw [if_pos (by omega)]]
          refine s_iastore hV dX12_init_274 (by first | decide | omega) (by first | rfl | assumption) (by decide) (by omega) (by omega) ?_
          refine s_iinc hV dX12_init_275 rfl (z_st1_2_1 rfl) ?_
          refine r_goto hV 246 dX12_init_278 (by decide) ?_
          exact ih246 (j + 1) _ _ (by omega) (by omega) (z_ar_push hz) (fun q h => by rw [zu_n _ _ h]; exact hfr q h)
        · refine s_iconst hV dX12_init_268 (0) (by decide) ?_
          refine r_goto hV 274 dX12_init_269 (by decide) ?_
          first
            | rw [show iI 99999 = iI (mRf (fun _ => 0) (j : Int)) by unfold mRf; rw [if_neg (by omega), if_pos rfl]]
            | rw [show iI 0 = iI (mRf (fun _ => 0) (j : Int)) by unfold mRf; rw [if_pos (by omega)]]
          refine s_iastore hV dX12_init_274 (by first | decide | omega) (by first | rfl | assumption) (by decide) (by omega) (by omega) ?_
          refine s_iinc hV dX12_init_275 rfl (z_st1_2_1 rfl) ?_
          refine r_goto hV 246 dX12_init_278 (by decide) ?_
          exact ih246 (j + 1) _ _ (by omega) (by omega) (z_ar_push hz) (fun q h => by rw [zu_n _ _ h]; exact hfr q h)
  exact L246 37 0 I29 _ (by omega) (by omega) z_ar_0 (fun q h => rfl)

