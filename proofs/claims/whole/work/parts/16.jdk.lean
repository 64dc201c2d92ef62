def zpop (s : Nat) : Nat := (if s.testBit 0 then 1 else 0) + (if s.testBit 1 then 1 else 0) + (if s.testBit 2 then 1 else 0) + (if s.testBit 3 then 1 else 0) + (if s.testBit 4 then 1 else 0) + (if s.testBit 5 then 1 else 0)
set_option maxRecDepth 20000 in
theorem m_bitCount (I : zI) (J : zJ) (P : zP) (n0 : Nat) (s : Nat) (hs : s < 64) : z_Fn 0 yJ6_bitCount_0f7a4 cJ6_bitCount_0f7a4 1 (some .int) n0 n0 I J P [.int (iI (s : Int))] (some (.int (iI ((zpop s : Nat))))) (I) (J) (P) := by
  refine z_met false (by decide +kernel) (fun h => by cases h) (Nat.le_of_ble_eq_true rfl) (by first | decide | omega) (fun V hV => ?_)
  show V n0 I J P 0 [.int (iI (s : Int))] []
  refine r_iload_n hV dJ6_bitCount_0f7a4_0 rfl ?_
  refine r_iload_n hV dJ6_bitCount_0f7a4_1 rfl ?_
  refine s_iconst hV dJ6_bitCount_0f7a4_2 (1) (by decide) ?_
  refine r_iushr hV dJ6_bitCount_0f7a4_3 ?_
  refine s_ldc_w hV dJ6_bitCount_0f7a4_4 ct_J6_265 (1431655765) (by decide) ?_
  refine r_iand hV dJ6_bitCount_0f7a4_7 ?_
  refine r_isub hV dJ6_bitCount_0f7a4_8 ?_
  refine r_istore_n hV dJ6_bitCount_0f7a4_9 (Nat.le_of_ble_eq_true rfl) rfl ?_
  refine r_iload_n hV dJ6_bitCount_0f7a4_10 rfl ?_
  refine s_ldc_w hV dJ6_bitCount_0f7a4_11 ct_J6_266 (858993459) (by decide) ?_
  refine r_iand hV dJ6_bitCount_0f7a4_14 ?_
  refine r_iload_n hV dJ6_bitCount_0f7a4_15 rfl ?_
  refine s_iconst hV dJ6_bitCount_0f7a4_16 (2) (by decide) ?_
  refine r_iushr hV dJ6_bitCount_0f7a4_17 ?_
  refine s_ldc_w hV dJ6_bitCount_0f7a4_18 ct_J6_266 (858993459) (by decide) ?_
  refine r_iand hV dJ6_bitCount_0f7a4_21 ?_
  refine r_iadd hV dJ6_bitCount_0f7a4_22 ?_
  refine r_istore_n hV dJ6_bitCount_0f7a4_23 (Nat.le_of_ble_eq_true rfl) rfl ?_
  refine r_iload_n hV dJ6_bitCount_0f7a4_24 rfl ?_
  refine r_iload_n hV dJ6_bitCount_0f7a4_25 rfl ?_
  refine s_iconst hV dJ6_bitCount_0f7a4_26 (4) (by decide) ?_
  refine r_iushr hV dJ6_bitCount_0f7a4_27 ?_
  refine r_iadd hV dJ6_bitCount_0f7a4_28 ?_
  refine s_ldc_w hV dJ6_bitCount_0f7a4_29 ct_J6_267 (252645135) (by decide) ?_
  refine r_iand hV dJ6_bitCount_0f7a4_32 ?_
  refine r_istore_n hV dJ6_bitCount_0f7a4_33 (Nat.le_of_ble_eq_true rfl) rfl ?_
  refine r_iload_n hV dJ6_bitCount_0f7a4_34 rfl ?_
  refine r_iload_n hV dJ6_bitCount_0f7a4_35 rfl ?_
  refine s_bipush hV dJ6_bitCount_0f7a4_36 (8) (by decide) ?_
  refine r_iushr hV dJ6_bitCount_0f7a4_38 ?_
  refine r_iadd hV dJ6_bitCount_0f7a4_39 ?_
  refine r_istore_n hV dJ6_bitCount_0f7a4_40 (Nat.le_of_ble_eq_true rfl) rfl ?_
  refine r_iload_n hV dJ6_bitCount_0f7a4_41 rfl ?_
  refine r_iload_n hV dJ6_bitCount_0f7a4_42 rfl ?_
  refine s_bipush hV dJ6_bitCount_0f7a4_43 (16) (by decide) ?_
  refine r_iushr hV dJ6_bitCount_0f7a4_45 ?_
  refine r_iadd hV dJ6_bitCount_0f7a4_46 ?_
  refine r_istore_n hV dJ6_bitCount_0f7a4_47 (Nat.le_of_ble_eq_true rfl) rfl ?_
  refine r_iload_n hV dJ6_bitCount_0f7a4_48 rfl ?_
  refine s_bipush hV dJ6_bitCount_0f7a4_49 (63) (by decide) ?_
  refine r_iand hV dJ6_bitCount_0f7a4_51 ?_
  refine r_iret hV dJ6_bitCount_0f7a4_52 rfl rfl ?_
  refine ⟨?_, rfl, rfl, rfl⟩
  congr 2
  clear hV
  clear V
  revert s
  decide +kernel
