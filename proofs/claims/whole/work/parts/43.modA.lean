/-- the arrays of the object at 78 -/
def mK (P : zP) : Prop := P 78 1 = some 79 ∧ P 78 7 = some 80 ∧ P 78 9 = some 81 ∧ P 78 10 = some 82 ∧ P 78 11 = some 83 ∧ P 78 16 = some 84 ∧ P 78 17 = some 85 ∧ P 78 18 = some 86 ∧ P 78 19 = some 87 ∧ P 78 20 = some 88 ∧ P 78 25 = some 89 ∧ P 78 26 = some 90 ∧ P 78 28 = some 91 ∧ P 78 29 = some 92 ∧ P 78 30 = some 93 ∧ P 78 31 = some 94 ∧ P 78 36 = some 95 ∧ P 78 37 = some 96 ∧ P 78 38 = some 97 ∧ P 78 39 = some 98 ∧ P 78 40 = some 99 ∧ P 78 41 = some 100 ∧ P 78 42 = some 101 ∧ P 78 43 = some 102 ∧ P 78 44 = some 103 ∧ P 78 45 = some 104 ∧ P 78 46 = some 105 ∧ P 78 47 = some 106 ∧ P 78 48 = some 107
/-- FAR with the other end -/
def mF (F : Int → Int) (z : Int) : Int := if F z < 1000000 then F z else 99999
def zD (F : Int → Int) : Prop := ∀ z : Int, 0 ≤ z → z < 36 → 0 ≤ F z ∧ (F z ≤ 6400 ∨ F z = 1000000)
theorem zD_bd {F : Int → Int} (h : zD F) : z_bd F 36 0 1000000 := fun z a b => by have := h z a b; omega
theorem mF_b {F : Int → Int} (h : zD F) : z_bd (mF F) 36 0 99999 := fun z a b => by
  have := h z a b
  unfold mF
  split <;> omega
/-- what the object at 78 holds: the text, THE DAY, where both are and what was done -/
def mI (I : zI) (tl st r c : Int) (n e : Nat) (T F W U K S : Int → Int) : Prop := (I 78 2 = iI tl ∧ I 78 4 = iI (n : Int) ∧ I 78 5 = iI st ∧ I 78 6 = iI r ∧ I 78 8 = iI (e : Int) ∧ I 78 21 = iI (S 2) ∧ I 78 22 = iI (S 3) ∧ I 78 23 = iI (S 4) ∧ I 78 24 = iI (S 5) ∧ I 78 27 = iI c) ∧ z_ar I 79 80 T ∧ z_ar I 80 36 (mF F) ∧ z_ar I 81 e W ∧ z_ar I 82 e U ∧ z_ar I 83 e K ∧ z_ar I 88 2 S ∧ z_ar I 89 8 (fun z => S (6 + z))
theorem mI_fr {I I1 : zI} {tl st r c : Int} {n e : Nat} {T F W U K S : Int → Int} (h : mI I tl st r c n e T F W U K S) (hq : ∀ q, q ≠ 78 → I1 q = I q) (hk : ∀ k, k ≠ 0 → I1 78 k = I 78 k) : mI I1 tl st r c n e T F W U K S := by
  obtain ⟨⟨i2, i4, i5, i6, i8, i21, i22, i23, i24, i27⟩, zT, zF, zW, zU, zK, zA, zN⟩ := h
  exact ⟨⟨(hk _ (by omega)).trans i2, (hk _ (by omega)).trans i4, (hk _ (by omega)).trans i5, (hk _ (by omega)).trans i6, (hk _ (by omega)).trans i8, (hk _ (by omega)).trans i21, (hk _ (by omega)).trans i22, (hk _ (by omega)).trans i23, (hk _ (by omega)).trans i24, (hk _ (by omega)).trans i27⟩, z_ar_fr zT (hq _ (by omega)), z_ar_fr zF (hq _ (by omega)), z_ar_fr zW (hq _ (by omega)), z_ar_fr zU (hq _ (by omega)), z_ar_fr zK (hq _ (by omega)), z_ar_fr zA (hq _ (by omega)), z_ar_fr zN (hq _ (by omega))⟩
/-- only the word of what was thrown is laid anew -/
def q_mno (I : zI) (J : zJ) (P : zP) (a : Int) (v : Option Value) (I1 : zI) (J1 : zJ) (P1 : zP) : Prop := v = some (.int (iI a)) ∧ J1 = J ∧ P1 = P ∧ (∀ q, q ≠ 78 → I1 q = I q) ∧ ∀ k, k ≠ 0 → I1 78 k = I 78 k
/-- the book's pages -/
def mB (I : zI) (c : Int) (H : Nat → Int → Int) : Prop := ∀ (i : Nat) (z : Int), (i : Int) < c → 0 ≤ z → z < 14 → I 90 (28 * (c - 1 - i) + z).toNat = iI (H i z)
def mL (I : zI) (FU : Int → Int) (SL : Int → Int → Int) : Prop := z_ar I 92 2 FU ∧ ∀ k z : Int, 0 ≤ k → k < 2 → FU k = 1 → 0 ≤ z → z < 14 → I 91 (28 * k + z).toNat = iI (SL k z)
set_option maxRecDepth 20000 in
theorem n_in (I : zI) (J : zJ) (P : zP) (v a b : Int) (hv : z_rgL v) (ha : z_rgL a) (hb : z_rgL b) : z_Fn 0 yX12_in cX12_in 6 (some .boolean) 108 108 I J P [.long (lI v), .long (lI a), .long (lI b)] (some (.int (iI (if a ≤ v ∧ v ≤ b then 1 else 0)))) (I) (J) (P) := by
  refine z_met false (by decide +kernel) (fun h => by cases h) (Nat.le_of_ble_eq_true rfl) (by first | decide | omega) (fun V hV => ?_)
  show V 108 I J P 0 [.long (lI v), .null, .long (lI a), .null, .long (lI b), .null] []
  refine r_lload_n hV dX12_in_0 rfl ?_
  refine r_lload_n hV dX12_in_1 rfl ?_
  refine s_lcmp hV dX12_in_2 (by assumption) (by assumption) ?_
  refine s_if_lt hV 17 dX12_in_3 (by decide) (z_cmp_rg _ _) (fun c3 => ?_) (fun c3 => ?_)
  · refine s_iconst hV dX12_in_17 (0) (by decide) ?_
    refine s_zret hV dX12_in_18 rfl (by omega) rfl ?_
    refine ⟨?_, rfl, rfl, rfl⟩
    have q1 := z_cmp3 v a
    have q2 := z_cmp3 v b
    (repeat' split) <;> first | rfl | (exfalso; omega)
  · refine r_lload_n hV dX12_in_6 rfl ?_
    refine r_lload hV dX12_in_7 rfl ?_
    refine s_lcmp hV dX12_in_9 (by assumption) (by assumption) ?_
    refine s_if_gt hV 17 dX12_in_10 (by decide) (z_cmp_rg _ _) (fun c10 => ?_) (fun c10 => ?_)
    · refine s_iconst hV dX12_in_17 (0) (by decide) ?_
      refine s_zret hV dX12_in_18 rfl (by omega) rfl ?_
      refine ⟨?_, rfl, rfl, rfl⟩
      have q1 := z_cmp3 v a
      have q2 := z_cmp3 v b
      (repeat' split) <;> first | rfl | (exfalso; omega)
    · refine s_iconst hV dX12_in_13 (1) (by decide) ?_
      refine r_goto hV 18 dX12_in_14 (by decide) ?_
      refine s_zret hV dX12_in_18 rfl (by omega) rfl ?_
      refine ⟨?_, rfl, rfl, rfl⟩
      have q1 := z_cmp3 v a
      have q2 := z_cmp3 v b
      (repeat' split) <;> first | rfl | (exfalso; omega)

set_option maxRecDepth 20000 in
theorem n_has (I : zI) (J : zJ) (P : zP) (s k : Nat) (hs : s < 64) (hk : k < 6) : z_Fn 0 yX12_has cX12_has 2 (some .boolean) 108 108 I J P [.int (iI (s : Int)), .int (iI (k : Int))] (some (.int (iI (if s.testBit k = true then 1 else 0)))) (I) (J) (P) := by
  refine z_met false (by decide +kernel) (fun h => by cases h) (Nat.le_of_ble_eq_true rfl) (by first | decide | omega) (fun V hV => ?_)
  show V 108 I J P 0 [.int (iI (s : Int)), .int (iI (k : Int))] []
  refine r_iload_n hV dX12_has_0 rfl ?_
  refine r_iload_n hV dX12_has_1 rfl ?_
  refine s_ishr hV dX12_has_2 (zb_shr hs (by omega)) ?_
  refine s_iconst hV dX12_has_3 (1) (by decide) ?_
  refine s_iand hV dX12_has_4 (zb_one hs (by omega)) ?_
  refine s_iconst hV dX12_has_5 (1) (by decide) ?_
  refine s_icmp_ne hV 13 dX12_has_6 (by decide) (by unfold z_rg; first | omega | (split <;> omega)) (by unfold z_rg; first | omega | (split <;> omega)) (fun c6 => ?_) (fun c6 => ?_)
  · have hb := z_bt0 c6
    refine s_iconst hV dX12_has_13 (0) (by decide) ?_
    refine s_zret hV dX12_has_14 rfl (by omega) rfl ?_
    refine ⟨?_, rfl, rfl, rfl⟩
    first | rw [if_pos hb] | rw [if_neg hb]
  · have hb := z_bt1 c6
    refine s_iconst hV dX12_has_9 (1) (by decide) ?_
    refine r_goto hV 14 dX12_has_10 (by decide) ?_
    refine s_zret hV dX12_has_14 rfl (by omega) rfl ?_
    refine ⟨?_, rfl, rfl, rfl⟩
    first | rw [if_pos hb] | rw [if_neg hb]

set_option maxRecDepth 20000 in
theorem n_noPlace (I : zI) (J : zJ) (P : zP) (n : Nat) (h : I 78 4 = iI (n : Int)) (hb : n ≤ 6) (x : Int) (hx : z_rg x) : z_Fn 1 yX12_noPlace cX12_noPlace 2 (some .boolean) 108 108 I J P [.ref 78, .int (iI x)] (some (.int (iI (if 0 ≤ x ∧ x < (n : Int) then 0 else 1)))) (I) (J) (P) := by
  have hx1 := hx.1
  have hx2 := hx.2
  refine z_met false (by decide +kernel) (fun h => by cases h) (Nat.le_of_ble_eq_true rfl) (by first | decide | omega) (fun V hV => ?_)
  show V 108 I J P 0 [.ref 78, .int (iI x)] []
  refine r_iload_n hV dX12_noPlace_0 rfl ?_
  refine s_i2l hV dX12_noPlace_1 (by unfold z_rg; first | omega | (split <;> omega)) ?_
  refine s_lconst hV dX12_noPlace_2 (0) (by decide) ?_
  refine r_aload_n hV dX12_noPlace_3 rfl rfl ?_
  refine r_getI hV dX12_noPlace_4 fl_X12_13 (by first | decide | omega) (by first | rfl | assumption) (by first | assumption | rfl) ?_
  refine s_iconst hV dX12_noPlace_7 (1) (by decide) ?_
  refine s_isub hV dX12_noPlace_8 ?_
  refine s_i2l hV dX12_noPlace_9 (by unfold z_rg; first | omega | (split <;> omega)) ?_
  refine q_is3v hV dX12_noPlace_10 ms_X12_107 (n_in I J P x 0 ((n : Int) - 1) (by unfold z_rgL; omega) (by unfold z_rgL; omega) (by unfold z_rgL; omega)) (by decide) (Nat.le_refl _) (Nat.le_of_ble_eq_true rfl) ?_
  refine s_if_ne hV 20 dX12_noPlace_13 (by decide) (by unfold z_rg; first | omega | (split <;> omega)) (fun c13 => ?_) (fun c13 => ?_)
  · refine s_iconst hV dX12_noPlace_20 (0) (by decide) ?_
    refine s_zret hV dX12_noPlace_21 rfl (by omega) rfl ?_
    refine ⟨?_, rfl, rfl, rfl⟩
    (repeat' split) <;> first | rfl | (exfalso; omega)
  · refine s_iconst hV dX12_noPlace_16 (1) (by decide) ?_
    refine r_goto hV 21 dX12_noPlace_17 (by decide) ?_
    refine s_zret hV dX12_noPlace_21 rfl (by omega) rfl ?_
    refine ⟨?_, rfl, rfl, rfl⟩
    (repeat' split) <;> first | rfl | (exfalso; omega)

set_option maxRecDepth 20000 in
theorem n_noErrand (I : zI) (J : zJ) (P : zP) (e : Nat) (h : I 78 8 = iI (e : Int)) (hb : e ≤ 6) (x : Int) (hx : z_rg x) : z_Fn 1 yX12_noErrand cX12_noErrand 2 (some .boolean) 108 108 I J P [.ref 78, .int (iI x)] (some (.int (iI (if 0 ≤ x ∧ x < (e : Int) then 0 else 1)))) (I) (J) (P) := by
  have hx1 := hx.1
  have hx2 := hx.2
  refine z_met false (by decide +kernel) (fun h => by cases h) (Nat.le_of_ble_eq_true rfl) (by first | decide | omega) (fun V hV => ?_)
  show V 108 I J P 0 [.ref 78, .int (iI x)] []
  refine r_iload_n hV dX12_noErrand_0 rfl ?_
  refine s_i2l hV dX12_noErrand_1 (by unfold z_rg; first | omega | (split <;> omega)) ?_
  refine s_lconst hV dX12_noErrand_2 (0) (by decide) ?_
  refine r_aload_n hV dX12_noErrand_3 rfl rfl ?_
  refine r_getI hV dX12_noErrand_4 fl_X12_111 (by first | decide | omega) (by first | rfl | assumption) (by first | assumption | rfl) ?_
  refine s_iconst hV dX12_noErrand_7 (1) (by decide) ?_
  refine s_isub hV dX12_noErrand_8 ?_
  refine s_i2l hV dX12_noErrand_9 (by unfold z_rg; first | omega | (split <;> omega)) ?_
  refine q_is3v hV dX12_noErrand_10 ms_X12_107 (n_in I J P x 0 ((e : Int) - 1) (by unfold z_rgL; omega) (by unfold z_rgL; omega) (by unfold z_rgL; omega)) (by decide) (Nat.le_refl _) (Nat.le_of_ble_eq_true rfl) ?_
  refine s_if_ne hV 20 dX12_noErrand_13 (by decide) (by unfold z_rg; first | omega | (split <;> omega)) (fun c13 => ?_) (fun c13 => ?_)
  · refine s_iconst hV dX12_noErrand_20 (0) (by decide) ?_
    refine s_zret hV dX12_noErrand_21 rfl (by omega) rfl ?_
    refine ⟨?_, rfl, rfl, rfl⟩
    (repeat' split) <;> first | rfl | (exfalso; omega)
  · refine s_iconst hV dX12_noErrand_16 (1) (by decide) ?_
    refine r_goto hV 21 dX12_noErrand_17 (by decide) ?_
    refine s_zret hV dX12_noErrand_21 rfl (by omega) rfl ?_
    refine ⟨?_, rfl, rfl, rfl⟩
    (repeat' split) <;> first | rfl | (exfalso; omega)

set_option maxRecDepth 20000 in
theorem n_noWalker (I : zI) (J : zJ) (P : zP) (x : Int) (hx : z_rg x) : z_Fn 1 yX12_noWalker cX12_noWalker 1 (some .boolean) 108 108 I J P [.int (iI x)] (some (.int (iI (if 0 ≤ x ∧ x < 2 then 0 else 1)))) (I) (J) (P) := by
  have hx1 := hx.1
  have hx2 := hx.2
  refine z_met false (by decide +kernel) (fun h => by cases h) (Nat.le_of_ble_eq_true rfl) (by first | decide | omega) (fun V hV => ?_)
  show V 108 I J P 0 [.int (iI x)] []
  refine r_iload_n hV dX12_noWalker_0 rfl ?_
  refine s_i2l hV dX12_noWalker_1 (by unfold z_rg; first | omega | (split <;> omega)) ?_
  refine s_lconst hV dX12_noWalker_2 (0) (by decide) ?_
  refine s_lconst hV dX12_noWalker_3 (1) (by decide) ?_
  refine q_is3v hV dX12_noWalker_4 ms_X12_107 (n_in I J P x 0 1 (by unfold z_rgL; omega) (by unfold z_rgL; omega) (by unfold z_rgL; omega)) (by decide) (Nat.le_refl _) (Nat.le_of_ble_eq_true rfl) ?_
  refine s_if_ne hV 14 dX12_noWalker_7 (by decide) (by unfold z_rg; first | omega | (split <;> omega)) (fun c7 => ?_) (fun c7 => ?_)
  · refine s_iconst hV dX12_noWalker_14 (0) (by decide) ?_
    refine s_zret hV dX12_noWalker_15 rfl (by omega) rfl ?_
    refine ⟨?_, rfl, rfl, rfl⟩
    (repeat' split) <;> first | rfl | (exfalso; omega)
  · refine s_iconst hV dX12_noWalker_10 (1) (by decide) ?_
    refine r_goto hV 15 dX12_noWalker_11 (by decide) ?_
    refine s_zret hV dX12_noWalker_15 rfl (by omega) rfl ?_
    refine ⟨?_, rfl, rfl, rfl⟩
    (repeat' split) <;> first | rfl | (exfalso; omega)

set_option maxRecDepth 20000 in
theorem n_owed (I : zI) (J : zJ) (P : zP) (x : Int) (hx : -99 ≤ x ∧ x ≤ 99) : z_Fn 0 yX12_owed cX12_owed 2 (some .int) 108 108 I J P [.int (iI x)] (some (.int (iI (zow x)))) (I) (J) (P) := by
  refine z_met false (by decide +kernel) (fun h => by cases h) (Nat.le_of_ble_eq_true rfl) (by first | decide | omega) (fun V hV => ?_)
  show V 108 I J P 0 [.int (iI x), .null] []
  refine r_iload_n hV dX12_owed_0 rfl ?_
  refine s_if_ge hV 9 dX12_owed_1 (by decide) (by unfold z_rg; first | omega | (split <;> omega)) (fun c1 => ?_) (fun c1 => ?_)
  · refine r_iload_n hV dX12_owed_9 rfl ?_
    refine r_istore_n hV dX12_owed_10 (Nat.le_of_ble_eq_true rfl) (z_st1_2_1 rfl) ?_
    refine r_iload_n hV dX12_owed_11 rfl ?_
    refine r_iload_n hV dX12_owed_12 rfl ?_
    refine s_bipush hV dX12_owed_13 (9) (by decide) ?_
    refine s_iadd hV dX12_owed_15 ?_
    refine s_bipush hV dX12_owed_16 (10) (by decide) ?_
    refine s_idiv hV dX12_owed_18 (by unfold z_rg; first | omega | (split <;> omega)) (by unfold z_rg; first | omega | (split <;> omega)) (by omega) (by omega) ?_
    refine s_iadd hV dX12_owed_19 ?_
    refine r_iret hV dX12_owed_20 rfl rfl ?_
    refine ⟨?_, rfl, rfl, rfl⟩
    unfold zow
    first | rw [if_pos (by omega)] | rw [if_neg (by omega)]
  · refine r_iload_n hV dX12_owed_4 rfl ?_
    refine s_ineg hV dX12_owed_5 ?_
    refine r_goto hV 10 dX12_owed_6 (by decide) ?_
    refine r_istore_n hV dX12_owed_10 (Nat.le_of_ble_eq_true rfl) (z_st1_2_1 rfl) ?_
    refine r_iload_n hV dX12_owed_11 rfl ?_
    refine r_iload_n hV dX12_owed_12 rfl ?_
    refine s_bipush hV dX12_owed_13 (9) (by decide) ?_
    refine s_iadd hV dX12_owed_15 ?_
    refine s_bipush hV dX12_owed_16 (10) (by decide) ?_
    refine s_idiv hV dX12_owed_18 (by unfold z_rg; first | omega | (split <;> omega)) (by unfold z_rg; first | omega | (split <;> omega)) (by omega) (by omega) ?_
    refine s_iadd hV dX12_owed_19 ?_
    refine r_iret hV dX12_owed_20 rfl rfl ?_
    refine ⟨?_, rfl, rfl, rfl⟩
    unfold zow
    first | rw [if_pos (by omega)] | rw [if_neg (by omega)]

set_option maxRecDepth 20000 in
theorem n_worthOf (I : zI) (J : zJ) (P : zP) (hM : mK P) (e : Nat) (he : I 78 8 = iI (e : Int)) (he6 : e ≤ 6) (U : Int → Int) (hU : z_ar I 82 e U) (s : Nat) (hs : s < 64) : z_Fn 1 yX12_worthOf cX12_worthOf 4 (some .int) 108 108 I J P [.ref 78, .int (iI (s : Int))] (some (.int (iI (zsum (f_wt s U) e)))) (I) (J) (P) := by
  obtain ⟨o1, o7, o9, o10, o11, o16, o17, o18, o19, o20, o25, o26, o28, o29, o30, o31, o36, o37, o38, o39, o40, o41, o42, o43, o44, o45, o46, o47, o48⟩ := id hM
  refine z_met false (by decide +kernel) (fun h => by cases h) (Nat.le_of_ble_eq_true rfl) (by first | decide | omega) (fun V hV => ?_)
  show V 108 I J P 0 [.ref 78, .int (iI (s : Int)), .null, .null] []
  refine s_iconst hV dX12_worthOf_0 (0) (by decide) ?_
  refine r_istore_n hV dX12_worthOf_1 (Nat.le_of_ble_eq_true rfl) (z_st1_4_2 rfl) ?_
  refine s_iconst hV dX12_worthOf_2 (0) (by decide) ?_
  refine r_istore_n hV dX12_worthOf_3 (Nat.le_of_ble_eq_true rfl) (z_st1_4_3 rfl) ?_
  have L4 : ∀ (k4 j : Nat), e - j < k4 → j ≤ e → V 108 I J P 4 [.ref 78, .int (iI (s : Int)), .int (iI (zsum (f_wt s U) j)), .int (iI (j : Int))] [] := by
    intro k4
    induction k4 with
    | zero => intro j  hk1 hk2; omega
    | succ k4 ih4 =>
      intro j  hk4 hl4 
      have hnx : ∀ s2 : Int, zsum (f_wt s U) (j + 1) = s2 → j < e → V 108 I J P 4 [.ref 78, .int (iI (s : Int)), .int (iI s2), .int (iI ((j : Int) + 1))] [] := fun s2 hs hj => by subst hs; exact ih4 (j + 1) (by omega) (by omega)
      refine r_iload_n hV dX12_worthOf_4 rfl ?_
      refine r_aload_n hV dX12_worthOf_5 rfl rfl ?_
      refine r_getI hV dX12_worthOf_6 fl_X12_111 (by first | decide | omega) (by first | rfl | assumption) (by first | assumption | rfl) ?_
      refine s_icmp_ge hV 39 dX12_worthOf_9 (by decide) (by unfold z_rg; first | omega | (split <;> omega)) (by unfold z_rg; first | omega | (split <;> omega)) (fun c9 => ?_) (fun c9 => ?_)
      · refine r_iload_n hV dX12_worthOf_39 rfl ?_
        refine r_iret hV dX12_worthOf_40 rfl rfl ?_
        rw [show j = e by omega]
        exact ⟨rfl, rfl, rfl, rfl⟩
      · refine r_iload_n hV dX12_worthOf_12 rfl ?_
        refine r_iload_n hV dX12_worthOf_13 rfl ?_
        refine r_iload_n hV dX12_worthOf_14 rfl ?_
        refine q_is2v hV dX12_worthOf_15 ms_X12_180 (n_has I J P s j hs (by omega)) (by decide) (Nat.le_refl _) (Nat.le_of_ble_eq_true rfl) ?_
        refine s_if_eq hV 30 dX12_worthOf_18 (by decide) (by unfold z_rg; first | omega | (split <;> omega)) (fun c18 => ?_) (fun c18 => ?_)
        · have hb := z_ite0 c18
          refine s_iconst hV dX12_worthOf_30 (0) (by decide) ?_
          refine s_iadd hV dX12_worthOf_31 ?_
          refine r_istore_n hV dX12_worthOf_32 (Nat.le_of_ble_eq_true rfl) (z_st1_4_2 rfl) ?_
          refine s_iinc hV dX12_worthOf_33 rfl (z_st1_4_3 rfl) ?_
          refine r_goto hV 4 dX12_worthOf_36 (by decide) ?_
          refine hnx _ (by first | rw [zsum, f_wt, if_pos hb] | rw [zsum, f_wt, if_neg hb]) (by omega)
        · have hb := z_ite1 c18
          refine r_aload_n hV dX12_worthOf_21 rfl rfl ?_
          refine r_getR hV dX12_worthOf_22 fl_X12_23 (by first | decide | omega) (by first | rfl | assumption) o10 ?_
          refine r_iload_n hV dX12_worthOf_25 rfl ?_
          refine s_iaload hV dX12_worthOf_26 (by first | decide | omega) (by first | rfl | assumption) (by decide) (by omega) (by omega) (hU (j : Int) (by omega) (by omega)) ?_
          refine r_goto hV 31 dX12_worthOf_27 (by decide) ?_
          refine s_iadd hV dX12_worthOf_31 ?_
          refine r_istore_n hV dX12_worthOf_32 (Nat.le_of_ble_eq_true rfl) (z_st1_4_2 rfl) ?_
          refine s_iinc hV dX12_worthOf_33 rfl (z_st1_4_3 rfl) ?_
          refine r_goto hV 4 dX12_worthOf_36 (by decide) ?_
          refine hnx _ (by first | rw [zsum, f_wt, if_pos hb] | rw [zsum, f_wt, if_neg hb]) (by omega)
  exact L4 (e + 1) 0 (by omega) (by omega)

set_option maxRecDepth 20000 in
theorem n_canDo (I : zI) (J : zJ) (P : zP) (hM : mK P) (e : Nat) (K : Int → Int) (hK : z_ar I 83 e K) (he6 : e ≤ 6) (hKb : z_bd K 6 0 2) (w x : Int) (hw : z_rg w) (hx : 0 ≤ x ∧ x < e) : z_Fn 0 yX12_canDo cX12_canDo 3 (some .boolean) 108 108 I J P [.ref 78, .int (iI w), .int (iI x)] (some (.int (iI (if K x = 2 ∨ K x = w then 1 else 0)))) (I) (J) (P) := by
  obtain ⟨o1, o7, o9, o10, o11, o16, o17, o18, o19, o20, o25, o26, o28, o29, o30, o31, o36, o37, o38, o39, o40, o41, o42, o43, o44, o45, o46, o47, o48⟩ := id hM
  have hw1 := hw.1
  have hw2 := hw.2
  have hkb := hKb x (by omega) (by omega)
  refine z_met false (by decide +kernel) (fun h => by cases h) (Nat.le_of_ble_eq_true rfl) (by first | decide | omega) (fun V hV => ?_)
  show V 108 I J P 0 [.ref 78, .int (iI w), .int (iI x)] []
  refine r_aload_n hV dX12_canDo_0 rfl rfl ?_
  refine r_getR hV dX12_canDo_1 fl_X12_26 (by first | decide | omega) (by first | rfl | assumption) o11 ?_
  refine r_iload_n hV dX12_canDo_4 rfl ?_
  refine s_iaload hV dX12_canDo_5 (by first | decide | omega) (by first | rfl | assumption) (by decide) (by omega) (by omega) (hK x (by omega) (by omega)) ?_
  refine s_iconst hV dX12_canDo_6 (2) (by decide) ?_
  refine s_icmp_eq hV 20 dX12_canDo_7 (by decide) (by unfold z_rg; first | omega | (split <;> omega)) (by unfold z_rg; first | omega | (split <;> omega)) (fun c7 => ?_) (fun c7 => ?_)
  · refine s_iconst hV dX12_canDo_20 (1) (by decide) ?_
    refine r_goto hV 25 dX12_canDo_21 (by decide) ?_
    refine s_zret hV dX12_canDo_25 rfl (by omega) rfl ?_
    refine ⟨?_, rfl, rfl, rfl⟩
    (repeat' split) <;> first | rfl | (exfalso; omega)
  · refine r_aload_n hV dX12_canDo_10 rfl rfl ?_
    refine r_getR hV dX12_canDo_11 fl_X12_26 (by first | decide | omega) (by first | rfl | assumption) o11 ?_
    refine r_iload_n hV dX12_canDo_14 rfl ?_
    refine s_iaload hV dX12_canDo_15 (by first | decide | omega) (by first | rfl | assumption) (by decide) (by omega) (by omega) (hK x (by omega) (by omega)) ?_
    refine r_iload_n hV dX12_canDo_16 rfl ?_
    refine s_icmp_ne hV 24 dX12_canDo_17 (by decide) (by unfold z_rg; first | omega | (split <;> omega)) (by unfold z_rg; first | omega | (split <;> omega)) (fun c17 => ?_) (fun c17 => ?_)
    · refine s_iconst hV dX12_canDo_24 (0) (by decide) ?_
      refine s_zret hV dX12_canDo_25 rfl (by omega) rfl ?_
      refine ⟨?_, rfl, rfl, rfl⟩
      (repeat' split) <;> first | rfl | (exfalso; omega)
    · refine s_iconst hV dX12_canDo_20 (1) (by decide) ?_
      refine r_goto hV 25 dX12_canDo_21 (by decide) ?_
      refine s_zret hV dX12_canDo_25 rfl (by omega) rfl ?_
      refine ⟨?_, rfl, rfl, rfl⟩
      (repeat' split) <;> first | rfl | (exfalso; omega)

set_option maxRecDepth 20000 in
theorem n_mayWalk (I : zI) (J : zJ) (P : zP) (hM : mK P) (n : Nat) (hnb : 2 ≤ n ∧ n ≤ 6) (F : Int → Int) (hF : z_ar I 80 36 (mF F)) (hFd : zD F) (a b k h : Int) (ha : 0 ≤ a ∧ a < n) (hb : 0 ≤ b ∧ b < n) (hk : k = 1 ∨ k = 2) (hh : 0 ≤ h ∧ h ≤ 90000) : z_Fn 0 yX12_mayWalk cX12_mayWalk 5 (some .boolean) 108 108 I J P [.ref 78, .int (iI a), .int (iI b), .int (iI k), .int (iI h)] (some (.int (iI (if k * f_wc n F a b ≤ h then 1 else 0)))) (I) (J) (P) := by
  obtain ⟨o1, o7, o9, o10, o11, o16, o17, o18, o19, o20, o25, o26, o28, o29, o30, o31, o36, o37, o38, o39, o40, o41, o42, o43, o44, o45, o46, o47, o48⟩ := id hM
  have hfb := hFd (6 * a + b) (by omega) (by omega)
  have hfe : F (a * 6 + b) = F (6 * a + b) := congrArg F (by omega)
  have hmf : mF F (6 * a + b) = if F (6 * a + b) < 1000000 then F (6 * a + b) else 99999 := rfl
  have hkm : k * mF F (6 * a + b) = mF F (6 * a + b) ∨ k * mF F (6 * a + b) = 2 * mF F (6 * a + b) := by rcases hk with rfl | rfl <;> omega
  refine z_met false (by decide +kernel) (fun h => by cases h) (Nat.le_of_ble_eq_true rfl) (by first | decide | omega) (fun V hV => ?_)
  show V 108 I J P 0 [.ref 78, .int (iI a), .int (iI b), .int (iI k), .int (iI h)] []
  refine r_iload_n hV dX12_mayWalk_0 rfl ?_
  refine r_iload_n hV dX12_mayWalk_1 rfl ?_
  refine s_icmp_eq hV 43 dX12_mayWalk_2 (by decide) (by unfold z_rg; first | omega | (split <;> omega)) (by unfold z_rg; first | omega | (split <;> omega)) (fun c2 => ?_) (fun c2 => ?_)
  · refine s_iconst hV dX12_mayWalk_43 (0) (by decide) ?_
    refine s_zret hV dX12_mayWalk_44 rfl (by omega) rfl ?_
    refine ⟨?_, rfl, rfl, rfl⟩
    unfold f_wc
    rcases hk with rfl | rfl <;> (repeat' split) <;> first | rfl | (exfalso; omega)
  · refine r_aload_n hV dX12_mayWalk_5 rfl rfl ?_
    refine r_getR hV dX12_mayWalk_6 fl_X12_17 (by first | decide | omega) (by first | rfl | assumption) o7 ?_
    refine s_bipush hV dX12_mayWalk_9 (6) (by decide) ?_
    refine r_iload_n hV dX12_mayWalk_11 rfl ?_
    refine s_imul hV dX12_mayWalk_12 ?_
    refine r_iload_n hV dX12_mayWalk_13 rfl ?_
    refine s_iadd hV dX12_mayWalk_14 ?_
    refine s_iaload hV dX12_mayWalk_15 (by first | decide | omega) (by first | rfl | assumption) (by decide) (by omega) (by omega) (hF (6 * a + b) (by omega) (by omega)) ?_
    refine s_ldc hV dX12_mayWalk_16 ct_X12_103 (99999) (by decide) ?_
    refine s_icmp_ge hV 43 dX12_mayWalk_18 (by decide) (by unfold z_rg; first | omega | (split <;> omega)) (by unfold z_rg; first | omega | (split <;> omega)) (fun c18 => ?_) (fun c18 => ?_)
    · refine s_iconst hV dX12_mayWalk_43 (0) (by decide) ?_
      refine s_zret hV dX12_mayWalk_44 rfl (by omega) rfl ?_
      refine ⟨?_, rfl, rfl, rfl⟩
      unfold f_wc
      rcases hk with rfl | rfl <;> (repeat' split) <;> first | rfl | (exfalso; omega)
    · refine r_iload_n hV dX12_mayWalk_21 rfl ?_
      refine r_aload_n hV dX12_mayWalk_22 rfl rfl ?_
      refine r_getR hV dX12_mayWalk_23 fl_X12_17 (by first | decide | omega) (by first | rfl | assumption) o7 ?_
      refine s_bipush hV dX12_mayWalk_26 (6) (by decide) ?_
      refine r_iload_n hV dX12_mayWalk_28 rfl ?_
      refine s_imul hV dX12_mayWalk_29 ?_
      refine r_iload_n hV dX12_mayWalk_30 rfl ?_
      refine s_iadd hV dX12_mayWalk_31 ?_
      refine s_iaload hV dX12_mayWalk_32 (by first | decide | omega) (by first | rfl | assumption) (by decide) (by omega) (by omega) (hF (6 * a + b) (by omega) (by omega)) ?_
      refine s_imul hV dX12_mayWalk_33 ?_
      refine r_iload hV dX12_mayWalk_34 rfl ?_
      refine s_icmp_gt hV 43 dX12_mayWalk_36 (by decide) (by unfold z_rg; first | omega | (split <;> omega)) (by unfold z_rg; first | omega | (split <;> omega)) (fun c36 => ?_) (fun c36 => ?_)
      · refine s_iconst hV dX12_mayWalk_43 (0) (by decide) ?_
        refine s_zret hV dX12_mayWalk_44 rfl (by omega) rfl ?_
        refine ⟨?_, rfl, rfl, rfl⟩
        unfold f_wc
        rcases hk with rfl | rfl <;> (repeat' split) <;> first | rfl | (exfalso; omega)
      · refine s_iconst hV dX12_mayWalk_39 (1) (by decide) ?_
        refine r_goto hV 44 dX12_mayWalk_40 (by decide) ?_
        refine s_zret hV dX12_mayWalk_44 rfl (by omega) rfl ?_
        refine ⟨?_, rfl, rfl, rfl⟩
        unfold f_wc
        rcases hk with rfl | rfl <;> (repeat' split) <;> first | rfl | (exfalso; omega)

