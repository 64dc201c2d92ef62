def zbM (v : Int64) (i : Int) : Int := ((v >>> ((iI (8 * i)).toInt64 &&& 63)).toInt32 &&& iI 255).toInt
theorem zb_255 (i : Nat) (h : 8 ≤ i) (hi : i < 32) : (255#32)[i] = false := by
  simp only [BitVec.getElem_eq_testBit_toNat]
  exact Nat.testBit_lt_two_pow (Nat.lt_of_lt_of_le (by decide : (255#32).toNat < 2 ^ 8) (Nat.pow_le_pow_right (by omega) h))
theorem zb_bv (x : BitVec 64) (k : Nat) (hk : k ≤ 56) : BitVec.signExtend 32 (x.sshiftRight k) &&& (255#32) = BitVec.signExtend 32 (x >>> k) &&& (255#32) := by
  rw [BitVec.signExtend_eq_setWidth_of_le _ (by decide), BitVec.signExtend_eq_setWidth_of_le _ (by decide)]
  ext i hi
  simp only [BitVec.getElem_and, BitVec.getElem_setWidth, BitVec.getLsbD_ushiftRight, BitVec.getLsbD_sshiftRight]
  rcases (show i < 8 ∨ 8 ≤ i by omega) with h | h
  · have h1 : decide (64 ≤ i) = false := by simp; omega
    have h2 : k + i < 64 := by omega
    simp [h1, h2]
  · rw [zb_255 i h hi, Bool.and_false, Bool.and_false]
theorem zb_bv2 (v : Int64) (c : Int64) (u : UInt64) (k : Nat) (hk : k ≤ 56) (hc : (c.toBitVec.smod 64).toNat = k) (hu : (u.toBitVec % 64).toNat = k) : ((v >>> c).toInt32 &&& iI 255).toInt = ((v.toUInt64 >>> u).toInt64.toInt32 &&& iI 255).toInt := by
  refine congrArg Int32.toInt ?_
  apply Int32.toBitVec_inj.mp
  simp only [Int32.toBitVec_and, Int64.toBitVec_toInt32, Int64.toBitVec_shiftRight, UInt64.toBitVec_toInt64, UInt64.toBitVec_shiftRight, Int64.toBitVec_toUInt64]
  have h1 : v.toBitVec.sshiftRight' (c.toBitVec.smod 64) = v.toBitVec.sshiftRight k := by rw [← hc]; rfl
  have h2 : v.toBitVec >>> (u.toBitVec % 64) = v.toBitVec >>> k := by rw [← hu]; rfl
  rw [h1, h2]
  exact zb_bv _ k hk
theorem zbM_C {v : Int64} {i : Int} (h0 : 0 ≤ i) (h : i < 8) : zbM v i = zbC v i := by
  unfold zbM zbC
  rcases (show i = 0 ∨ i = 1 ∨ i = 2 ∨ i = 3 ∨ i = 4 ∨ i = 5 ∨ i = 6 ∨ i = 7 by omega) with rfl | rfl | rfl | rfl | rfl | rfl | rfl | rfl
  · exact zb_bv2 v _ _ 0 (by decide) (by decide) (by decide)
  · exact zb_bv2 v _ _ 8 (by decide) (by decide) (by decide)
  · exact zb_bv2 v _ _ 16 (by decide) (by decide) (by decide)
  · exact zb_bv2 v _ _ 24 (by decide) (by decide) (by decide)
  · exact zb_bv2 v _ _ 32 (by decide) (by decide) (by decide)
  · exact zb_bv2 v _ _ 40 (by decide) (by decide) (by decide)
  · exact zb_bv2 v _ _ 48 (by decide) (by decide) (by decide)
  · exact zb_bv2 v _ _ 56 (by decide) (by decide) (by decide)
def q_mtx (I : zI) (J : zJ) (P : zP) (tl : Int) (T : Int → Int) (a : Int) (v : Option Value) (I1 : zI) (J1 : zJ) (P1 : zP) : Prop := v = some (.int (iI a)) ∧ J1 = J ∧ P1 = P ∧ I1 78 2 = iI tl ∧ z_ar I1 79 80 T ∧ (∀ q, q ≠ 78 → q ≠ 79 → I1 q = I q) ∧ ∀ k, k ≠ 0 → k ≠ 2 → I1 78 k = I 78 k
theorem zpw_S {S : Int → Int} {w : Int} (h : 0 ≤ w ∧ w < 2) : S w = zpw S w := by
  unfold zpw
  split
  · next q => rw [q]
  · rw [show w = 1 by omega]
set_option maxRecDepth 20000 in
theorem n_write (I : zI) (J : zJ) (P : zP) (hM : mK P) (tl st r c : Int) (n e : Nat) (T F W U K S : Int → Int) (hI : mI I tl st r c n e T F W U K S) (htb : 0 ≤ tl ∧ tl ≤ 80) (m : Int) (hm : z_rg m) (x : Int64) : z_Sp 1 yX12_write cX12_write 5 (some .int) 108 108 I J P [.ref 78, .int (iI m), .long x] (fun v I1 J1 P1 => if m < 1 ∨ 8 < m then q_mno I J P (-2) v I1 J1 P1 else if 80 < tl + m then q_mno I J P (-4) v I1 J1 P1 else q_mtx I J P (tl + m) (zit (f_app x m tl) m.toNat T) (tl + m) v I1 J1 P1) := by
  obtain ⟨o1, o7, o9, o10, o11, o16, o17, o18, o19, o20, o25, o26, o28, o29, o30, o31, o36, o37, o38, o39, o40, o41, o42, o43, o44, o45, o46, o47, o48⟩ := id hM
  have hm1 := hm.1
  have hm2 := hm.2
  refine z_met false (by decide +kernel) (fun h => by cases h) (Nat.le_of_ble_eq_true rfl) (by first | decide | omega) (fun V hV => ?_)
  show V 108 I J P 0 [.ref 78, .int (iI m), .long x, .null, .null] []
  refine r_aload_n hV dX12_write_0 rfl rfl ?_
  refine s_iconst hV dX12_write_1 (0) (by decide) ?_
  refine r_putI hV dX12_write_2 fl_X12_104 (pf_X12_104 _) (z_okI_int rfl _) (by first | decide | omega) (by first | rfl | assumption) ?_
  generalize hI0e : zu I 78 (zu (I 78) 0 (iI 0)) = I0
  have t0 : ∀ q, q ≠ 78 → I0 q = I q := fun q h => by rw [← hI0e, zu_n _ _ h]
  have t1 : ∀ k, k ≠ 0 → I0 78 k = I 78 k := fun k h => by rw [← hI0e, zu_s, zu_n _ _ h]
  clear hI0e
  have hI0 := mI_fr hI t0 t1
  obtain ⟨⟨i20, i40, i50, i60, i80, i210, i220, i230, i240, i270⟩, zT0, zF0, zW0, zU0, zK0, zA0, zN0⟩ := id hI0
  refine r_iload_n hV dX12_write_5 rfl ?_
  refine s_i2l hV dX12_write_6 (by unfold z_rg; first | omega | (split <;> omega)) ?_
  refine s_lconst hV dX12_write_7 (1) (by decide) ?_
  refine s_ldc2_w hV dX12_write_8 cl_X12_114 (8) (by decide) ?_
  refine q_is3v hV dX12_write_11 ms_X12_107 (n_in I0 J P (m) (1) (8) (by unfold z_rgL; omega) (by unfold z_rgL; omega) (by unfold z_rgL; omega)) (by decide) (Nat.le_refl _) (Nat.le_of_ble_eq_true rfl) ?_
  refine s_if_ne hV 20 dX12_write_14 (by decide) (by unfold z_rg; first | omega | (split <;> omega)) (fun c14 => ?_) (fun c14 => ?_)
  · refine r_aload_n hV dX12_write_20 rfl rfl ?_
    refine r_getI hV dX12_write_21 fl_X12_116 (by first | decide | omega) (by first | rfl | assumption) (by first | assumption | rfl) ?_
    refine r_iload_n hV dX12_write_24 rfl ?_
    refine s_iadd hV dX12_write_25 ?_
    refine s_bipush hV dX12_write_26 (80) (by decide) ?_
    refine s_icmp_le hV 34 dX12_write_28 (by decide) (by unfold z_rg; first | omega | (split <;> omega)) (by unfold z_rg; first | omega | (split <;> omega)) (fun c28 => ?_) (fun c28 => ?_)
    · refine r_iload_n hV dX12_write_34 rfl ?_
      refine s_iconst hV dX12_write_35 (1) (by decide) ?_
      refine s_isub hV dX12_write_36 ?_
      refine r_istore hV dX12_write_37 (Nat.le_of_ble_eq_true rfl) (z_st1_5_4 rfl) ?_
      have L39 : ∀ (k39 j : Nat) (I1 : zI), m.toNat - j < k39 → j ≤ m.toNat → (I1 78 2 = iI (tl + j)) → (z_ar I1 79 80 (zit (f_app x m tl) j T)) → (∀ q, q ≠ 78 → q ≠ 79 → I1 q = I0 q) → (∀ k, k ≠ 2 → I1 78 k = I0 78 k) → V 108 I1 J P 39 [.ref 78, .int (iI m), .long x, .null, .int (iI (m - 1 - (j : Int)))] [] := by
        intro k39
        induction k39 with
        | zero => intro j I1  hk1 hk2; omega
        | succ k39 ih39 =>
          intro j I1  hk39 hl39 hl1 hz hq hk
          refine r_iload hV dX12_write_39 rfl ?_
          refine s_if_lt hV 81 dX12_write_41 (by decide) (by unfold z_rg; first | omega | (split <;> omega)) (fun c41 => ?_) (fun c41 => ?_)
          · refine r_aload_n hV dX12_write_81 rfl rfl ?_
            refine r_getI hV dX12_write_82 fl_X12_116 (by first | decide | omega) (by first | rfl | assumption) hl1 ?_
            refine r_iret hV dX12_write_85 rfl rfl ?_
            rw [show j = m.toNat by omega] at hz hl1 ⊢
            show ite _ _ _
            rw [if_neg (by omega), if_neg (by omega), show tl + ((m.toNat : Nat) : Int) = tl + m by omega]
            rw [show tl + ((m.toNat : Nat) : Int) = tl + m by omega] at hl1
            exact ⟨rfl, rfl, rfl, hl1, hz, fun q a b => (hq q a b).trans (t0 q a), fun k a b => (hk k b).trans (t1 k a)⟩
          · refine r_aload_n hV dX12_write_44 rfl rfl ?_
            refine r_getR hV dX12_write_45 fl_X12_7 (by first | decide | omega) (by first | rfl | assumption) o1 ?_
            refine r_aload_n hV dX12_write_48 rfl rfl ?_
            refine r_getI hV dX12_write_49 fl_X12_116 (by first | decide | omega) (by first | rfl | assumption) hl1 ?_
            refine r_lload_n hV dX12_write_52 rfl ?_
            refine s_bipush hV dX12_write_53 (8) (by decide) ?_
            refine r_iload hV dX12_write_55 rfl ?_
            refine s_imul hV dX12_write_57 ?_
            refine s_lshr hV dX12_write_58 rfl ?_
            refine r_l2i hV dX12_write_59 ?_
            refine s_sipush hV dX12_write_60 (255) (by decide) ?_
            refine r_iand hV dX12_write_63 ?_
            rw [iI_of (_ &&& iI 255), show ((x >>> ((iI (8 * (m - 1 - (j : Int)))).toInt64 &&& 63)).toInt32 &&& iI 255).toInt = zbC x (m - 1 - (j : Int)) from zbM_C (by omega) (by omega)]
            refine s_iastore hV dX12_write_64 (by first | decide | omega) (by first | rfl | assumption) (by decide) (by omega) (by omega) ?_
            have hz2 := z_ar_set hz (z := tl + (j : Int)) (by omega) (zbC x (m - 1 - (j : Int)))
            generalize hI2 : zu I1 (79) (zu (I1 79) (tl + (j : Int)).toNat (iI (zbC x (m - 1 - (j : Int))))) = I2
            have hfI2 : ∀ q, q ≠ 79 → I2 q = I1 q := fun q h => by rw [← hI2]; exact zu_n _ _ h
            rw [hI2] at hz2
            clear hI2
            refine r_aload_n hV dX12_write_65 rfl rfl ?_
            refine r_dup hV dX12_write_66 rfl ?_
            refine r_getI hV dX12_write_67 fl_X12_116 (by first | decide | omega) (by first | rfl | assumption) ((congrFun (hfI2 _ (by omega)) 2).trans hl1) ?_
            refine s_iconst hV dX12_write_70 (1) (by decide) ?_
            refine s_iadd hV dX12_write_71 ?_
            refine r_putI hV dX12_write_72 fl_X12_116 (pf_X12_116 _) (z_okI_int rfl _) (by first | decide | omega) (by first | rfl | assumption) ?_
            refine s_iinc hV dX12_write_75 rfl (z_st1_5_4 rfl) ?_
            refine r_goto hV 39 dX12_write_78 (by decide) ?_
            rw [show m - 1 - (j : Int) + -1 = m - 1 - ((j + 1 : Nat) : Int) by omega]
            exact ih39 (j + 1) _ (by omega) (by omega) (by rw [zu_s, zu_s]; congr 1; omega) (z_ar_fr hz2 (zu_n _ _ (by omega))) (fun q a b => by rw [zu_n _ _ a]; exact (hfI2 q b).trans (hq q a b)) (fun k a => by rw [zu_s, zu_n _ _ a]; exact (congrFun (hfI2 78 (by omega)) k).trans (hk k a))
      rw [show m - 1 = m - 1 - ((0 : Nat) : Int) by omega]
      exact L39 (m.toNat + 1) 0 I0 (by omega) (by omega) (by rw [i20]; congr 1; omega) zT0 (fun q a b => rfl) (fun k a => rfl)
    · refine s_bipush hV dX12_write_31 (-4) (by decide) ?_
      refine r_iret hV dX12_write_33 rfl rfl ?_
      show ite _ _ _
      rw [if_neg (by omega), if_pos (by omega)]
      exact ⟨rfl, rfl, rfl, t0, t1⟩
  · refine s_bipush hV dX12_write_17 (-2) (by decide) ?_
    refine r_iret hV dX12_write_19 rfl rfl ?_
    show ite _ _ _
    rw [if_pos (by omega)]
    exact ⟨rfl, rfl, rfl, t0, t1⟩

set_option maxRecDepth 20000 in
theorem n_wipe (I : zI) (J : zJ) (P : zP) (hM : mK P) (tl st r c : Int) (n e : Nat) (T F W U K S : Int → Int) (hI : mI I tl st r c n e T F W U K S) : z_Sp 1 yX12_wipe cX12_wipe 2 (some .int) 108 108 I J P [.ref 78] (q_mtx I J P 0 T tl) := by
  obtain ⟨o1, o7, o9, o10, o11, o16, o17, o18, o19, o20, o25, o26, o28, o29, o30, o31, o36, o37, o38, o39, o40, o41, o42, o43, o44, o45, o46, o47, o48⟩ := id hM
  refine z_met false (by decide +kernel) (fun h => by cases h) (Nat.le_of_ble_eq_true rfl) (by first | decide | omega) (fun V hV => ?_)
  show V 108 I J P 0 [.ref 78, .null] []
  refine r_aload_n hV dX12_wipe_0 rfl rfl ?_
  refine s_iconst hV dX12_wipe_1 (0) (by decide) ?_
  refine r_putI hV dX12_wipe_2 fl_X12_104 (pf_X12_104 _) (z_okI_int rfl _) (by first | decide | omega) (by first | rfl | assumption) ?_
  generalize hI0e : zu I 78 (zu (I 78) 0 (iI 0)) = I0
  have t0 : ∀ q, q ≠ 78 → I0 q = I q := fun q h => by rw [← hI0e, zu_n _ _ h]
  have t1 : ∀ k, k ≠ 0 → I0 78 k = I 78 k := fun k h => by rw [← hI0e, zu_s, zu_n _ _ h]
  clear hI0e
  have hI0 := mI_fr hI t0 t1
  obtain ⟨⟨i20, i40, i50, i60, i80, i210, i220, i230, i240, i270⟩, zT0, zF0, zW0, zU0, zK0, zA0, zN0⟩ := id hI0
  refine r_aload_n hV dX12_wipe_5 rfl rfl ?_
  refine r_getI hV dX12_wipe_6 fl_X12_116 (by first | decide | omega) (by first | rfl | assumption) i20 ?_
  refine r_istore_n hV dX12_wipe_9 (Nat.le_of_ble_eq_true rfl) (z_st1_2_1 rfl) ?_
  refine r_aload_n hV dX12_wipe_10 rfl rfl ?_
  refine s_iconst hV dX12_wipe_11 (0) (by decide) ?_
  refine r_putI hV dX12_wipe_12 fl_X12_116 (pf_X12_116 _) (z_okI_int rfl _) (by first | decide | omega) (by first | rfl | assumption) ?_
  refine r_iload_n hV dX12_wipe_15 rfl ?_
  refine r_iret hV dX12_wipe_16 rfl rfl ?_
  exact ⟨rfl, rfl, rfl, by rw [zu_s, zu_s], z_ar_fr zT0 (zu_n _ _ (by omega)), fun q a b => by rw [zu_n _ _ a]; exact t0 q a, fun k a b => by rw [zu_s, zu_n _ _ b]; exact t1 k a⟩

set_option maxRecDepth 20000 in
theorem n_at (I : zI) (J : zJ) (P : zP) (hM : mK P) (tl st r c : Int) (n e : Nat) (T F W U K S : Int → Int) (hI : mI I tl st r c n e T F W U K S) (w : Int) (hw : z_rg w) : z_Sp 2 yX12_at cX12_at 2 (some .int) 108 108 I J P [.ref 78, .int (iI w)] (q_mno I J P (if 0 ≤ w ∧ w < 2 then zpw S w else -1)) := by
  obtain ⟨o1, o7, o9, o10, o11, o16, o17, o18, o19, o20, o25, o26, o28, o29, o30, o31, o36, o37, o38, o39, o40, o41, o42, o43, o44, o45, o46, o47, o48⟩ := id hM
  have hw1 := hw.1
  have hw2 := hw.2
  refine z_met false (by decide +kernel) (fun h => by cases h) (Nat.le_of_ble_eq_true rfl) (by first | decide | omega) (fun V hV => ?_)
  show V 108 I J P 0 [.ref 78, .int (iI w)] []
  refine r_aload_n hV dX12_at_0 rfl rfl ?_
  refine s_iconst hV dX12_at_1 (0) (by decide) ?_
  refine r_putI hV dX12_at_2 fl_X12_104 (pf_X12_104 _) (z_okI_int rfl _) (by first | decide | omega) (by first | rfl | assumption) ?_
  generalize hI0e : zu I 78 (zu (I 78) 0 (iI 0)) = I0
  have t0 : ∀ q, q ≠ 78 → I0 q = I q := fun q h => by rw [← hI0e, zu_n _ _ h]
  have t1 : ∀ k, k ≠ 0 → I0 78 k = I 78 k := fun k h => by rw [← hI0e, zu_s, zu_n _ _ h]
  clear hI0e
  have hI0 := mI_fr hI t0 t1
  obtain ⟨⟨i20, i40, i50, i60, i80, i210, i220, i230, i240, i270⟩, zT0, zF0, zW0, zU0, zK0, zA0, zN0⟩ := id hI0
  refine r_iload_n hV dX12_at_5 rfl ?_
  refine q_is1v hV dX12_at_6 ms_X12_191 (n_noWalker I0 J P (w) (by unfold z_rg; omega)) (by decide) (Nat.le_refl _) (Nat.le_of_ble_eq_true rfl) ?_
  refine s_if_eq hV 16 dX12_at_9 (by decide) (by unfold z_rg; first | omega | (split <;> omega)) (fun c9 => ?_) (fun c9 => ?_)
  · refine r_aload_n hV dX12_at_16 rfl rfl ?_
    refine r_getR hV dX12_at_17 fl_X12_41 (by first | decide | omega) (by first | rfl | assumption) o20 ?_
    refine r_iload_n hV dX12_at_20 rfl ?_
    refine s_iaload hV dX12_at_21 (by first | decide | omega) (by first | rfl | assumption) (by decide) (by omega) (by omega) ((zA0 w (by omega) (by omega)).trans (congrArg iI (zpw_S (S := S) (by omega)))) ?_
    refine r_iret hV dX12_at_22 rfl rfl ?_
    refine ⟨?_, rfl, rfl, t0, t1⟩
    (repeat' split) <;> first | rfl | (exfalso; omega)
  · refine s_iconst hV dX12_at_12 (-1) (by decide) ?_
    refine r_goto hV 22 dX12_at_13 (by decide) ?_
    refine r_iret hV dX12_at_22 rfl rfl ?_
    refine ⟨?_, rfl, rfl, t0, t1⟩
    (repeat' split) <;> first | rfl | (exfalso; omega)

set_option maxRecDepth 20000 in
theorem n_far (I : zI) (J : zJ) (P : zP) (hM : mK P) (tl st r c : Int) (n e : Nat) (T F W U K S : Int → Int) (hI : mI I tl st r c n e T F W U K S) (hnb : 2 ≤ n ∧ n ≤ 6) (hFd : zD F) (a : Int) (ha : z_rg a) (b : Int) (hb : z_rg b) : z_Sp 2 yX12_far cX12_far 3 (some .int) 108 108 I J P [.ref 78, .int (iI a), .int (iI b)] (q_mno I J P (if (0 ≤ a ∧ a < n) ∧ (0 ≤ b ∧ b < n) then if F (a * 6 + b) < 1000000 then F (a * 6 + b) else -9 else -1)) := by
  obtain ⟨o1, o7, o9, o10, o11, o16, o17, o18, o19, o20, o25, o26, o28, o29, o30, o31, o36, o37, o38, o39, o40, o41, o42, o43, o44, o45, o46, o47, o48⟩ := id hM
  have ha1 := ha.1
  have ha2 := ha.2
  have hb1 := hb.1
  have hb2 := hb.2
  refine z_met false (by decide +kernel) (fun h => by cases h) (Nat.le_of_ble_eq_true rfl) (by first | decide | omega) (fun V hV => ?_)
  show V 108 I J P 0 [.ref 78, .int (iI a), .int (iI b)] []
  refine r_aload_n hV dX12_far_0 rfl rfl ?_
  refine s_iconst hV dX12_far_1 (0) (by decide) ?_
  refine r_putI hV dX12_far_2 fl_X12_104 (pf_X12_104 _) (z_okI_int rfl _) (by first | decide | omega) (by first | rfl | assumption) ?_
  generalize hI0e : zu I 78 (zu (I 78) 0 (iI 0)) = I0
  have t0 : ∀ q, q ≠ 78 → I0 q = I q := fun q h => by rw [← hI0e, zu_n _ _ h]
  have t1 : ∀ k, k ≠ 0 → I0 78 k = I 78 k := fun k h => by rw [← hI0e, zu_s, zu_n _ _ h]
  clear hI0e
  have hI0 := mI_fr hI t0 t1
  obtain ⟨⟨i20, i40, i50, i60, i80, i210, i220, i230, i240, i270⟩, zT0, zF0, zW0, zU0, zK0, zA0, zN0⟩ := id hI0
  refine r_aload_n hV dX12_far_5 rfl rfl ?_
  refine r_iload_n hV dX12_far_6 rfl ?_
  refine q_iv1v hV dX12_far_7 mv_X12_194 (n_noPlace I0 J P n i40 (by omega) (a) (by unfold z_rg; omega)) (by first | decide | omega) (by first | rfl | assumption) (by decide) (Nat.le_refl _) (Nat.le_of_ble_eq_true rfl) ?_
  refine s_if_ne hV 21 dX12_far_10 (by decide) (by unfold z_rg; first | omega | (split <;> omega)) (fun c10 => ?_) (fun c10 => ?_)
  · refine s_iconst hV dX12_far_21 (-1) (by decide) ?_
    refine r_iret hV dX12_far_22 rfl rfl ?_
    refine ⟨?_, rfl, rfl, t0, t1⟩
    (repeat' split) <;> first | rfl | (exfalso; omega) | exact congrArg (fun z => some (Value.int (iI z))) (by rw [hmf]; (repeat' split) <;> omega)
  · refine r_aload_n hV dX12_far_13 rfl rfl ?_
    refine r_iload_n hV dX12_far_14 rfl ?_
    refine q_iv1v hV dX12_far_15 mv_X12_194 (n_noPlace I0 J P n i40 (by omega) (b) (by unfold z_rg; omega)) (by first | decide | omega) (by first | rfl | assumption) (by decide) (Nat.le_refl _) (Nat.le_of_ble_eq_true rfl) ?_
    refine s_if_eq hV 23 dX12_far_18 (by decide) (by unfold z_rg; first | omega | (split <;> omega)) (fun c18 => ?_) (fun c18 => ?_)
    · have hfb := hFd (6 * a + b) (by omega) (by omega)
      have hfe : F (a * 6 + b) = F (6 * a + b) := congrArg F (by omega)
      have hmf : mF F (6 * a + b) = if F (6 * a + b) < 1000000 then F (6 * a + b) else 99999 := rfl
      refine r_aload_n hV dX12_far_23 rfl rfl ?_
      refine r_getR hV dX12_far_24 fl_X12_17 (by first | decide | omega) (by first | rfl | assumption) o7 ?_
      refine s_bipush hV dX12_far_27 (6) (by decide) ?_
      refine r_iload_n hV dX12_far_29 rfl ?_
      refine s_imul hV dX12_far_30 ?_
      refine r_iload_n hV dX12_far_31 rfl ?_
      refine s_iadd hV dX12_far_32 ?_
      refine s_iaload hV dX12_far_33 (by first | decide | omega) (by first | rfl | assumption) (by decide) (by omega) (by omega) (zF0 (6 * a + b) (by omega) (by omega)) ?_
      refine s_ldc hV dX12_far_34 ct_X12_103 (99999) (by decide) ?_
      refine s_icmp_lt hV 44 dX12_far_36 (by decide) (by unfold z_rg; first | omega | (split <;> omega)) (by unfold z_rg; first | omega | (split <;> omega)) (fun c36 => ?_) (fun c36 => ?_)
      · refine r_aload_n hV dX12_far_44 rfl rfl ?_
        refine r_getR hV dX12_far_45 fl_X12_17 (by first | decide | omega) (by first | rfl | assumption) o7 ?_
        refine s_bipush hV dX12_far_48 (6) (by decide) ?_
        refine r_iload_n hV dX12_far_50 rfl ?_
        refine s_imul hV dX12_far_51 ?_
        refine r_iload_n hV dX12_far_52 rfl ?_
        refine s_iadd hV dX12_far_53 ?_
        refine s_iaload hV dX12_far_54 (by first | decide | omega) (by first | rfl | assumption) (by decide) (by omega) (by omega) (zF0 (6 * a + b) (by omega) (by omega)) ?_
        refine r_iret hV dX12_far_55 rfl rfl ?_
        refine ⟨?_, rfl, rfl, t0, t1⟩
        (repeat' split) <;> first | rfl | (exfalso; omega) | exact congrArg (fun z => some (Value.int (iI z))) (by rw [hmf]; (repeat' split) <;> omega)
      · refine s_bipush hV dX12_far_39 (-9) (by decide) ?_
        refine r_goto hV 55 dX12_far_41 (by decide) ?_
        refine r_iret hV dX12_far_55 rfl rfl ?_
        refine ⟨?_, rfl, rfl, t0, t1⟩
        (repeat' split) <;> first | rfl | (exfalso; omega) | exact congrArg (fun z => some (Value.int (iI z))) (by rw [hmf]; (repeat' split) <;> omega)
    · refine s_iconst hV dX12_far_21 (-1) (by decide) ?_
      refine r_iret hV dX12_far_22 rfl rfl ?_
      refine ⟨?_, rfl, rfl, t0, t1⟩
      (repeat' split) <;> first | rfl | (exfalso; omega) | exact congrArg (fun z => some (Value.int (iI z))) (by rw [hmf]; (repeat' split) <;> omega)

set_option maxRecDepth 20000 in
theorem n_errand (I : zI) (J : zJ) (P : zP) (hM : mK P) (tl st r c : Int) (n e : Nat) (T F W U K S : Int → Int) (hI : mI I tl st r c n e T F W U K S) (he6 : e ≤ 6) (dn dh : Nat) (hg : cG n S dn dh) (a : Int) (ha : z_rg a) (w : Int) (hw : z_rg w) : z_Sp 2 yX12_errand cX12_errand 3 (some .int) 108 108 I J P [.ref 78, .int (iI a), .int (iI w)] (q_mno I J P (f_errand e W U K dn dh a w)) := by
  obtain ⟨o1, o7, o9, o10, o11, o16, o17, o18, o19, o20, o25, o26, o28, o29, o30, o31, o36, o37, o38, o39, o40, o41, o42, o43, o44, o45, o46, o47, o48⟩ := id hM
  obtain ⟨g0, g1, g2, g3, g4, g5, g6, g7, g8⟩ := id hg
  have ha1 := ha.1
  have ha2 := ha.2
  have hw1 := hw.1
  have hw2 := hw.2
  refine z_met false (by decide +kernel) (fun h => by cases h) (Nat.le_of_ble_eq_true rfl) (by first | decide | omega) (fun V hV => ?_)
  show V 108 I J P 0 [.ref 78, .int (iI a), .int (iI w)] []
  refine r_aload_n hV dX12_errand_0 rfl rfl ?_
  refine s_iconst hV dX12_errand_1 (0) (by decide) ?_
  refine r_putI hV dX12_errand_2 fl_X12_104 (pf_X12_104 _) (z_okI_int rfl _) (by first | decide | omega) (by first | rfl | assumption) ?_
  generalize hI0e : zu I 78 (zu (I 78) 0 (iI 0)) = I0
  have t0 : ∀ q, q ≠ 78 → I0 q = I q := fun q h => by rw [← hI0e, zu_n _ _ h]
  have t1 : ∀ k, k ≠ 0 → I0 78 k = I 78 k := fun k h => by rw [← hI0e, zu_s, zu_n _ _ h]
  clear hI0e
  have hI0 := mI_fr hI t0 t1
  obtain ⟨⟨i20, i40, i50, i60, i80, i210, i220, i230, i240, i270⟩, zT0, zF0, zW0, zU0, zK0, zA0, zN0⟩ := id hI0
  refine r_aload_n hV dX12_errand_5 rfl rfl ?_
  refine r_iload_n hV dX12_errand_6 rfl ?_
  refine q_iv1v hV dX12_errand_7 mv_X12_197 (n_noErrand I0 J P e i80 (by omega) (a) (by unfold z_rg; omega)) (by first | decide | omega) (by first | rfl | assumption) (by decide) (Nat.le_refl _) (Nat.le_of_ble_eq_true rfl) ?_
  refine s_if_eq hV 15 dX12_errand_10 (by decide) (by unfold z_rg; first | omega | (split <;> omega)) (fun c10 => ?_) (fun c10 => ?_)
  · refine r_iload_n hV dX12_errand_15 rfl ?_
    refine s_tsw hV dX12_errand_16 (by unfold z_rg; first | omega | (split <;> omega)) (fun ho16 => ⟨123, by decide, ?_⟩) (fun hl16 hh16 => ?_)
    · refine s_bipush hV dX12_errand_123 (-2) (by decide) ?_
      refine r_iret hV dX12_errand_125 rfl rfl ?_
      refine ⟨?_, rfl, rfl, t0, t1⟩
      unfold f_errand
      try rw [Int.toNat_natCast]
      (repeat' split) <;> first | exact absurd ‹dn.testBit y = true› ‹¬ dn.testBit y = true› | exact absurd ‹dh.testBit y = true› ‹¬ dh.testBit y = true› | (exfalso; omega) | rfl
    · rcases (show w = 0 ∨ w = 1 ∨ w = 2 ∨ w = 3 ∨ w = 4 by omega) with w16 | w16 | w16 | w16 | w16
      · rw [w16]
        refine ⟨36, 52, rfl, by decide, ?_⟩
        refine r_aload_n hV dX12_errand_52 rfl rfl ?_
        refine r_getR hV dX12_errand_53 fl_X12_20 (by first | decide | omega) (by first | rfl | assumption) o9 ?_
        refine r_iload_n hV dX12_errand_56 rfl ?_
        refine s_iaload hV dX12_errand_57 (by first | decide | omega) (by first | rfl | assumption) (by decide) (by omega) (by omega) (zW0 a (by omega) (by omega)) ?_
        refine r_iret hV dX12_errand_58 rfl rfl ?_
        refine ⟨?_, rfl, rfl, t0, t1⟩
        unfold f_errand
        try rw [Int.toNat_natCast]
        (repeat' split) <;> first | exact absurd ‹dn.testBit y = true› ‹¬ dn.testBit y = true› | exact absurd ‹dh.testBit y = true› ‹¬ dh.testBit y = true› | (exfalso; omega) | rfl
      · rw [w16]
        refine ⟨43, 59, rfl, by decide, ?_⟩
        refine r_aload_n hV dX12_errand_59 rfl rfl ?_
        refine r_getR hV dX12_errand_60 fl_X12_23 (by first | decide | omega) (by first | rfl | assumption) o10 ?_
        refine r_iload_n hV dX12_errand_63 rfl ?_
        refine s_iaload hV dX12_errand_64 (by first | decide | omega) (by first | rfl | assumption) (by decide) (by omega) (by omega) (zU0 a (by omega) (by omega)) ?_
        refine r_iret hV dX12_errand_65 rfl rfl ?_
        refine ⟨?_, rfl, rfl, t0, t1⟩
        unfold f_errand
        try rw [Int.toNat_natCast]
        (repeat' split) <;> first | exact absurd ‹dn.testBit y = true› ‹¬ dn.testBit y = true› | exact absurd ‹dh.testBit y = true› ‹¬ dh.testBit y = true› | (exfalso; omega) | rfl
      · rw [w16]
        refine ⟨50, 66, rfl, by decide, ?_⟩
        refine r_aload_n hV dX12_errand_66 rfl rfl ?_
        refine r_getR hV dX12_errand_67 fl_X12_26 (by first | decide | omega) (by first | rfl | assumption) o11 ?_
        refine r_iload_n hV dX12_errand_70 rfl ?_
        refine s_iaload hV dX12_errand_71 (by first | decide | omega) (by first | rfl | assumption) (by decide) (by omega) (by omega) (zK0 a (by omega) (by omega)) ?_
        refine r_iret hV dX12_errand_72 rfl rfl ?_
        refine ⟨?_, rfl, rfl, t0, t1⟩
        unfold f_errand
        try rw [Int.toNat_natCast]
        (repeat' split) <;> first | exact absurd ‹dn.testBit y = true› ‹¬ dn.testBit y = true› | exact absurd ‹dh.testBit y = true› ‹¬ dh.testBit y = true› | (exfalso; omega) | rfl
      · rw [w16]
        refine ⟨57, 73, rfl, by decide, ?_⟩
        refine r_aload_n hV dX12_errand_73 rfl rfl ?_
        refine r_getI hV dX12_errand_74 fl_X12_168 (by first | decide | omega) (by first | rfl | assumption) (i220.trans (by rw [g3])) ?_
        refine r_iload_n hV dX12_errand_77 rfl ?_
        obtain ⟨y, rfl⟩ := Int.eq_ofNat_of_zero_le (show 0 ≤ a by omega)
        refine q_is2v hV dX12_errand_78 ms_X12_180 (n_has I0 J P dn y (by omega) (by omega)) (by decide) (Nat.le_refl _) (Nat.le_of_ble_eq_true rfl) ?_
        refine s_if_eq hV 88 dX12_errand_81 (by decide) (by unfold z_rg; first | omega | (split <;> omega)) (fun c81 => ?_) (fun c81 => ?_)
        · have hb := z_ite0 c81
          refine s_iconst hV dX12_errand_88 (0) (by decide) ?_
          refine r_iret hV dX12_errand_89 rfl rfl ?_
          refine ⟨?_, rfl, rfl, t0, t1⟩
          unfold f_errand
          try rw [Int.toNat_natCast]
          (repeat' split) <;> first | exact absurd ‹dn.testBit y = true› ‹¬ dn.testBit y = true› | exact absurd ‹dh.testBit y = true› ‹¬ dh.testBit y = true› | (exfalso; omega) | rfl
        · have hb := z_ite1 c81
          refine s_iconst hV dX12_errand_84 (1) (by decide) ?_
          refine r_goto hV 89 dX12_errand_85 (by decide) ?_
          refine r_iret hV dX12_errand_89 rfl rfl ?_
          refine ⟨?_, rfl, rfl, t0, t1⟩
          unfold f_errand
          try rw [Int.toNat_natCast]
          (repeat' split) <;> first | exact absurd ‹dn.testBit y = true› ‹¬ dn.testBit y = true› | exact absurd ‹dh.testBit y = true› ‹¬ dh.testBit y = true› | (exfalso; omega) | rfl
      · rw [w16]
        refine ⟨74, 90, rfl, by decide, ?_⟩
        refine r_aload_n hV dX12_errand_90 rfl rfl ?_
        refine r_getI hV dX12_errand_91 fl_X12_168 (by first | decide | omega) (by first | rfl | assumption) (i220.trans (by rw [g3])) ?_
        refine r_iload_n hV dX12_errand_94 rfl ?_
        obtain ⟨y, rfl⟩ := Int.eq_ofNat_of_zero_le (show 0 ≤ a by omega)
        refine q_is2v hV dX12_errand_95 ms_X12_180 (n_has I0 J P dn y (by omega) (by omega)) (by decide) (Nat.le_refl _) (Nat.le_of_ble_eq_true rfl) ?_
        refine s_if_ne hV 106 dX12_errand_98 (by decide) (by unfold z_rg; first | omega | (split <;> omega)) (fun c98 => ?_) (fun c98 => ?_)
        · have hb := z_ite1 c98
          refine r_aload_n hV dX12_errand_106 rfl rfl ?_
          refine r_getI hV dX12_errand_107 fl_X12_171 (by first | decide | omega) (by first | rfl | assumption) (i230.trans (by rw [g5])) ?_
          refine r_iload_n hV dX12_errand_110 rfl ?_
          refine q_is2v hV dX12_errand_111 ms_X12_180 (n_has I0 J P dh y (by omega) (by omega)) (by decide) (Nat.le_refl _) (Nat.le_of_ble_eq_true rfl) ?_
          refine s_if_eq hV 121 dX12_errand_114 (by decide) (by unfold z_rg; first | omega | (split <;> omega)) (fun c114 => ?_) (fun c114 => ?_)
          · have hb2 := z_ite0 c114
            refine s_iconst hV dX12_errand_121 (0) (by decide) ?_
            refine r_iret hV dX12_errand_122 rfl rfl ?_
            refine ⟨?_, rfl, rfl, t0, t1⟩
            unfold f_errand
            try rw [Int.toNat_natCast]
            (repeat' split) <;> first | exact absurd ‹dn.testBit y = true› ‹¬ dn.testBit y = true› | exact absurd ‹dh.testBit y = true› ‹¬ dh.testBit y = true› | (exfalso; omega) | rfl
          · have hb2 := z_ite1 c114
            refine s_iconst hV dX12_errand_117 (1) (by decide) ?_
            refine r_goto hV 122 dX12_errand_118 (by decide) ?_
            refine r_iret hV dX12_errand_122 rfl rfl ?_
            refine ⟨?_, rfl, rfl, t0, t1⟩
            unfold f_errand
            try rw [Int.toNat_natCast]
            (repeat' split) <;> first | exact absurd ‹dn.testBit y = true› ‹¬ dn.testBit y = true› | exact absurd ‹dh.testBit y = true› ‹¬ dh.testBit y = true› | (exfalso; omega) | rfl
        · have hb := z_ite0 (by first | exact c98 | exact Classical.not_not.mp c98)
          refine s_bipush hV dX12_errand_101 (-9) (by decide) ?_
          refine r_goto hV 122 dX12_errand_103 (by decide) ?_
          refine r_iret hV dX12_errand_122 rfl rfl ?_
          refine ⟨?_, rfl, rfl, t0, t1⟩
          unfold f_errand
          try rw [Int.toNat_natCast]
          (repeat' split) <;> first | exact absurd ‹dn.testBit y = true› ‹¬ dn.testBit y = true› | exact absurd ‹dh.testBit y = true› ‹¬ dh.testBit y = true› | (exfalso; omega) | rfl
  · refine s_iconst hV dX12_errand_13 (-1) (by decide) ?_
    refine r_iret hV dX12_errand_14 rfl rfl ?_
    refine ⟨?_, rfl, rfl, t0, t1⟩
    unfold f_errand
    try rw [Int.toNat_natCast]
    (repeat' split) <;> first | exact absurd ‹dn.testBit y = true› ‹¬ dn.testBit y = true› | exact absurd ‹dh.testBit y = true› ‹¬ dh.testBit y = true› | (exfalso; omega) | rfl

set_option maxRecDepth 20000 in
theorem n_about (I : zI) (J : zJ) (P : zP) (hM : mK P) (tl st r c : Int) (n e : Nat) (T F W U K S : Int → Int) (hI : mI I tl st r c n e T F W U K S) (he6 : e ≤ 6) (dn dh : Nat) (hg : cG n S dn dh) (hcb : 0 ≤ c ∧ c ≤ 16) (htb : 0 ≤ tl ∧ tl ≤ 80) (w : Int) (hw : z_rg w) : z_Sp 2 yX12_about cX12_about 4 (some .int) 108 108 I J P [.ref 78, .int (iI w)] (q_mno I J P (f_about n e r U S dn c tl w)) := by
  obtain ⟨o1, o7, o9, o10, o11, o16, o17, o18, o19, o20, o25, o26, o28, o29, o30, o31, o36, o37, o38, o39, o40, o41, o42, o43, o44, o45, o46, o47, o48⟩ := id hM
  obtain ⟨g0, g1, g2, g3, g4, g5, g6, g7, g8⟩ := id hg
  have hw1 := hw.1
  have hw2 := hw.2
  refine z_met false (by decide +kernel) (fun h => by cases h) (Nat.le_of_ble_eq_true rfl) (by first | decide | omega) (fun V hV => ?_)
  show V 108 I J P 0 [.ref 78, .int (iI w), .null, .null] []
  refine r_aload_n hV dX12_about_0 rfl rfl ?_
  refine s_iconst hV dX12_about_1 (0) (by decide) ?_
  refine r_putI hV dX12_about_2 fl_X12_104 (pf_X12_104 _) (z_okI_int rfl _) (by first | decide | omega) (by first | rfl | assumption) ?_
  generalize hI0e : zu I 78 (zu (I 78) 0 (iI 0)) = I0
  have t0 : ∀ q, q ≠ 78 → I0 q = I q := fun q h => by rw [← hI0e, zu_n _ _ h]
  have t1 : ∀ k, k ≠ 0 → I0 78 k = I 78 k := fun k h => by rw [← hI0e, zu_s, zu_n _ _ h]
  clear hI0e
  have hI0 := mI_fr hI t0 t1
  obtain ⟨⟨i20, i40, i50, i60, i80, i210, i220, i230, i240, i270⟩, zT0, zF0, zW0, zU0, zK0, zA0, zN0⟩ := id hI0
  refine s_sipush hV dX12_about_5 (10000) (by decide) ?_
  refine r_istore_n hV dX12_about_8 (Nat.le_of_ble_eq_true rfl) (z_st1_4_2 rfl) ?_
  refine s_iconst hV dX12_about_9 (0) (by decide) ?_
  refine r_istore_n hV dX12_about_10 (Nat.le_of_ble_eq_true rfl) (z_st1_4_3 rfl) ?_
  have L11 : ∀ (k11 j : Nat), (S 5).toNat - j < k11 → j ≤ (S 5).toNat → V 108 I0 J P 11 [.ref 78, .int (iI w), .int (iI (10000 + zsum (f_owe S) j)), .int (iI (j : Int))] [] := by
    intro k11
    induction k11 with
    | zero => intro j  hk1 hk2; omega
    | succ k11 ih11 =>
      intro j  hk11 hl11 
      have hnx : ∀ s2 : Int, 10000 + zsum (f_owe S) (j + 1) = s2 → j < (S 5).toNat → V 108 I0 J P 11 [.ref 78, .int (iI w), .int (iI s2), .int (iI ((j : Int) + 1))] [] := fun s2 hs hj => by subst hs; exact ih11 (j + 1) (by omega) (by omega)
      refine r_iload_n hV dX12_about_11 rfl ?_
      refine r_aload_n hV dX12_about_12 rfl rfl ?_
      refine r_getI hV dX12_about_13 fl_X12_174 (by first | decide | omega) (by first | rfl | assumption) i240 ?_
      refine s_icmp_ge hV 59 dX12_about_16 (by decide) (by unfold z_rg; first | omega | (split <;> omega)) (by unfold z_rg; first | omega | (split <;> omega)) (fun c16 => ?_) (fun c16 => ?_)
      · have hj : j = (S 5).toNat := by omega
        subst hj
        refine r_iload_n hV dX12_about_59 rfl ?_
        refine s_tsw hV dX12_about_60 (by unfold z_rg; first | omega | (split <;> omega)) (fun ho60 => ⟨167, by decide, ?_⟩) (fun hl60 hh60 => ?_)
        · refine s_bipush hV dX12_about_167 (-2) (by decide) ?_
          refine r_iret hV dX12_about_169 rfl rfl ?_
          refine ⟨?_, rfl, rfl, t0, t1⟩
          unfold f_about
          first | (rw [w60]; exact congrArg (fun z => some (Value.int (iI z))) (Int.add_comm _ _)) | (subst w60; simp) | (rw [w60]; rfl) | (rw [if_neg (by omega), if_neg (by omega), if_neg (by omega), if_neg (by omega), if_neg (by omega), if_neg (by omega), if_neg (by omega), if_neg (by omega), if_neg (by omega), if_neg (by omega)])
        · rcases (show w = 0 ∨ w = 1 ∨ w = 2 ∨ w = 3 ∨ w = 4 ∨ w = 5 ∨ w = 6 ∨ w = 7 ∨ w = 8 ∨ w = 9 by omega) with w60 | w60 | w60 | w60 | w60 | w60 | w60 | w60 | w60 | w60
          · rw [w60]
            refine ⟨56, 116, rfl, by decide, ?_⟩
            refine r_aload_n hV dX12_about_116 rfl rfl ?_
            refine r_getI hV dX12_about_117 fl_X12_13 (by first | decide | omega) (by first | rfl | assumption) (by first | assumption | rfl) ?_
            refine r_iret hV dX12_about_120 rfl rfl ?_
            refine ⟨?_, rfl, rfl, t0, t1⟩
            unfold f_about
            first | (rw [w60]; exact congrArg (fun z => some (Value.int (iI z))) (Int.add_comm _ _)) | (subst w60; simp) | (rw [w60]; rfl) | (rw [if_neg (by omega), if_neg (by omega), if_neg (by omega), if_neg (by omega), if_neg (by omega), if_neg (by omega), if_neg (by omega), if_neg (by omega), if_neg (by omega), if_neg (by omega)])
          · rw [w60]
            refine ⟨61, 121, rfl, by decide, ?_⟩
            refine r_aload_n hV dX12_about_121 rfl rfl ?_
            refine r_getI hV dX12_about_122 fl_X12_111 (by first | decide | omega) (by first | rfl | assumption) (by first | assumption | rfl) ?_
            refine r_iret hV dX12_about_125 rfl rfl ?_
            refine ⟨?_, rfl, rfl, t0, t1⟩
            unfold f_about
            first | (rw [w60]; exact congrArg (fun z => some (Value.int (iI z))) (Int.add_comm _ _)) | (subst w60; simp) | (rw [w60]; rfl) | (rw [if_neg (by omega), if_neg (by omega), if_neg (by omega), if_neg (by omega), if_neg (by omega), if_neg (by omega), if_neg (by omega), if_neg (by omega), if_neg (by omega), if_neg (by omega)])
          · rw [w60]
            refine ⟨66, 126, rfl, by decide, ?_⟩
            refine r_aload_n hV dX12_about_126 rfl rfl ?_
            refine r_getI hV dX12_about_127 fl_X12_162 (by first | decide | omega) (by first | rfl | assumption) (by first | assumption | rfl) ?_
            refine r_iret hV dX12_about_130 rfl rfl ?_
            refine ⟨?_, rfl, rfl, t0, t1⟩
            unfold f_about
            first | (rw [w60]; exact congrArg (fun z => some (Value.int (iI z))) (Int.add_comm _ _)) | (subst w60; simp) | (rw [w60]; rfl) | (rw [if_neg (by omega), if_neg (by omega), if_neg (by omega), if_neg (by omega), if_neg (by omega), if_neg (by omega), if_neg (by omega), if_neg (by omega), if_neg (by omega), if_neg (by omega)])
          · rw [w60]
            refine ⟨71, 131, rfl, by decide, ?_⟩
            refine r_aload_n hV dX12_about_131 rfl rfl ?_
            refine r_getI hV dX12_about_132 fl_X12_165 (by first | decide | omega) (by first | rfl | assumption) (by first | assumption | rfl) ?_
            refine r_iret hV dX12_about_135 rfl rfl ?_
            refine ⟨?_, rfl, rfl, t0, t1⟩
            unfold f_about
            first | (rw [w60]; exact congrArg (fun z => some (Value.int (iI z))) (Int.add_comm _ _)) | (subst w60; simp) | (rw [w60]; rfl) | (rw [if_neg (by omega), if_neg (by omega), if_neg (by omega), if_neg (by omega), if_neg (by omega), if_neg (by omega), if_neg (by omega), if_neg (by omega), if_neg (by omega), if_neg (by omega)])
          · rw [w60]
            refine ⟨76, 136, rfl, by decide, ?_⟩
            refine r_aload_n hV dX12_about_136 rfl rfl ?_
            refine r_getI hV dX12_about_137 fl_X12_168 (by first | decide | omega) (by first | rfl | assumption) (i220.trans (by rw [g3])) ?_
            refine r_iret hV dX12_about_140 rfl rfl ?_
            refine ⟨?_, rfl, rfl, t0, t1⟩
            unfold f_about
            first | (rw [w60]; exact congrArg (fun z => some (Value.int (iI z))) (Int.add_comm _ _)) | (subst w60; simp) | (rw [w60]; rfl) | (rw [if_neg (by omega), if_neg (by omega), if_neg (by omega), if_neg (by omega), if_neg (by omega), if_neg (by omega), if_neg (by omega), if_neg (by omega), if_neg (by omega), if_neg (by omega)])
          · rw [w60]
            refine ⟨81, 141, rfl, by decide, ?_⟩
            refine r_aload_n hV dX12_about_141 rfl rfl ?_
            refine r_aload_n hV dX12_about_142 rfl rfl ?_
            refine r_getI hV dX12_about_143 fl_X12_168 (by first | decide | omega) (by first | rfl | assumption) (i220.trans (by rw [g3])) ?_
            refine q_iv1v hV dX12_about_146 mv_X12_188 (n_worthOf I0 J P hM e i80 he6 U zU0 dn g4) (by first | decide | omega) (by first | rfl | assumption) (by decide) (Nat.le_refl _) (Nat.le_of_ble_eq_true rfl) ?_
            refine r_iret hV dX12_about_149 rfl rfl ?_
            refine ⟨?_, rfl, rfl, t0, t1⟩
            unfold f_about
            first | (rw [w60]; exact congrArg (fun z => some (Value.int (iI z))) (Int.add_comm _ _)) | (subst w60; simp) | (rw [w60]; rfl) | (rw [if_neg (by omega), if_neg (by omega), if_neg (by omega), if_neg (by omega), if_neg (by omega), if_neg (by omega), if_neg (by omega), if_neg (by omega), if_neg (by omega), if_neg (by omega)])
          · rw [w60]
            refine ⟨90, 150, rfl, by decide, ?_⟩
            refine r_aload_n hV dX12_about_150 rfl rfl ?_
            refine r_getI hV dX12_about_151 fl_X12_177 (by first | decide | omega) (by first | rfl | assumption) (by first | assumption | rfl) ?_
            refine r_iret hV dX12_about_154 rfl rfl ?_
            refine ⟨?_, rfl, rfl, t0, t1⟩
            unfold f_about
            first | (rw [w60]; exact congrArg (fun z => some (Value.int (iI z))) (Int.add_comm _ _)) | (subst w60; simp) | (rw [w60]; rfl) | (rw [if_neg (by omega), if_neg (by omega), if_neg (by omega), if_neg (by omega), if_neg (by omega), if_neg (by omega), if_neg (by omega), if_neg (by omega), if_neg (by omega), if_neg (by omega)])
          · rw [w60]
            refine ⟨95, 155, rfl, by decide, ?_⟩
            refine r_aload_n hV dX12_about_155 rfl rfl ?_
            refine r_getI hV dX12_about_156 fl_X12_174 (by first | decide | omega) (by first | rfl | assumption) (by first | assumption | rfl) ?_
            refine r_iret hV dX12_about_159 rfl rfl ?_
            refine ⟨?_, rfl, rfl, t0, t1⟩
            unfold f_about
            first | (rw [w60]; exact congrArg (fun z => some (Value.int (iI z))) (Int.add_comm _ _)) | (subst w60; simp) | (rw [w60]; rfl) | (rw [if_neg (by omega), if_neg (by omega), if_neg (by omega), if_neg (by omega), if_neg (by omega), if_neg (by omega), if_neg (by omega), if_neg (by omega), if_neg (by omega), if_neg (by omega)])
          · rw [w60]
            refine ⟨100, 160, rfl, by decide, ?_⟩
            refine r_iload_n hV dX12_about_160 rfl ?_
            refine r_iret hV dX12_about_161 rfl rfl ?_
            refine ⟨?_, rfl, rfl, t0, t1⟩
            unfold f_about
            first | (rw [w60]; exact congrArg (fun z => some (Value.int (iI z))) (Int.add_comm _ _)) | (subst w60; simp) | (rw [w60]; rfl) | (rw [if_neg (by omega), if_neg (by omega), if_neg (by omega), if_neg (by omega), if_neg (by omega), if_neg (by omega), if_neg (by omega), if_neg (by omega), if_neg (by omega), if_neg (by omega)])
          · rw [w60]
            refine ⟨102, 162, rfl, by decide, ?_⟩
            refine r_aload_n hV dX12_about_162 rfl rfl ?_
            refine r_getI hV dX12_about_163 fl_X12_116 (by first | decide | omega) (by first | rfl | assumption) (by first | assumption | rfl) ?_
            refine r_iret hV dX12_about_166 rfl rfl ?_
            refine ⟨?_, rfl, rfl, t0, t1⟩
            unfold f_about
            first | (rw [w60]; exact congrArg (fun z => some (Value.int (iI z))) (Int.add_comm _ _)) | (subst w60; simp) | (rw [w60]; rfl) | (rw [if_neg (by omega), if_neg (by omega), if_neg (by omega), if_neg (by omega), if_neg (by omega), if_neg (by omega), if_neg (by omega), if_neg (by omega), if_neg (by omega), if_neg (by omega)])
      · have hgj := g8 (j : Int) (by omega) (by omega)
        have hfo : f_owe S j = if 0 ≤ S (6 + (j : Int)) then zow (S (6 + (j : Int))) else -zow (S (6 + (j : Int))) := rfl
        have hz0 : S (6 + (j : Int)) = 0 → zow (S (6 + (j : Int))) = 0 := fun h => by rw [h]; rfl
        refine r_iload_n hV dX12_about_19 rfl ?_
        refine r_aload_n hV dX12_about_20 rfl rfl ?_
        refine r_getR hV dX12_about_21 fl_X12_44 (by first | decide | omega) (by first | rfl | assumption) o25 ?_
        refine r_iload_n hV dX12_about_24 rfl ?_
        refine s_iaload hV dX12_about_25 (by first | decide | omega) (by first | rfl | assumption) (by decide) (by omega) (by omega) (show I0 89 (j : Int).toNat = iI (S (6 + (j : Int))) from zN0 (j : Int) (by omega) (by omega)) ?_
        refine s_if_le hV 41 dX12_about_26 (by decide) (by unfold z_rg; first | omega | (split <;> omega)) (fun c26 => ?_) (fun c26 => ?_)
        · refine r_aload_n hV dX12_about_41 rfl rfl ?_
          refine r_getR hV dX12_about_42 fl_X12_44 (by first | decide | omega) (by first | rfl | assumption) o25 ?_
          refine r_iload_n hV dX12_about_45 rfl ?_
          refine s_iaload hV dX12_about_46 (by first | decide | omega) (by first | rfl | assumption) (by decide) (by omega) (by omega) (show I0 89 (j : Int).toNat = iI (S (6 + (j : Int))) from zN0 (j : Int) (by omega) (by omega)) ?_
          refine q_is1v hV dX12_about_47 ms_X12_184 (n_owed I0 J P (S (6 + (j : Int))) (g8 _ (by omega) (by omega))) (by decide) (Nat.le_refl _) (Nat.le_of_ble_eq_true rfl) ?_
          refine s_ineg hV dX12_about_50 ?_
          refine s_iadd hV dX12_about_51 ?_
          refine r_istore_n hV dX12_about_52 (Nat.le_of_ble_eq_true rfl) (z_st1_4_2 rfl) ?_
          refine s_iinc hV dX12_about_53 rfl (z_st1_4_3 rfl) ?_
          refine r_goto hV 11 dX12_about_56 (by decide) ?_
          refine hnx _ (by rw [zsum, hfo]; split <;> omega) (by omega)
        · refine r_aload_n hV dX12_about_29 rfl rfl ?_
          refine r_getR hV dX12_about_30 fl_X12_44 (by first | decide | omega) (by first | rfl | assumption) o25 ?_
          refine r_iload_n hV dX12_about_33 rfl ?_
          refine s_iaload hV dX12_about_34 (by first | decide | omega) (by first | rfl | assumption) (by decide) (by omega) (by omega) (show I0 89 (j : Int).toNat = iI (S (6 + (j : Int))) from zN0 (j : Int) (by omega) (by omega)) ?_
          refine q_is1v hV dX12_about_35 ms_X12_184 (n_owed I0 J P (S (6 + (j : Int))) (g8 _ (by omega) (by omega))) (by decide) (Nat.le_refl _) (Nat.le_of_ble_eq_true rfl) ?_
          refine r_goto hV 51 dX12_about_38 (by decide) ?_
          refine s_iadd hV dX12_about_51 ?_
          refine r_istore_n hV dX12_about_52 (Nat.le_of_ble_eq_true rfl) (z_st1_4_2 rfl) ?_
          refine s_iinc hV dX12_about_53 rfl (z_st1_4_3 rfl) ?_
          refine r_goto hV 11 dX12_about_56 (by decide) ?_
          refine hnx _ (by rw [zsum, hfo]; split <;> omega) (by omega)
  exact L11 ((S 5).toNat + 1) 0 (by omega) (by omega)

