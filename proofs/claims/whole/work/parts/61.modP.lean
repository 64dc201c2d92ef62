def q_mlg (I : zI) (P : zP) (a : Value) (v : Option Value) (I1 : zI) (J1 : zJ) (P1 : zP) : Prop := v = some a ∧ P1 = P ∧ (∀ q, q ≠ 78 → I1 q = I q) ∧ ∀ k, k ≠ 0 → I1 78 k = I 78 k
set_option maxRecDepth 20000 in
theorem n_ledger (I : zI) (J : zJ) (P : zP) (hM : mK P) (tl st r c : Int) (n e : Nat) (T F W U K S : Int → Int) (hI : mI I tl st r c n e T F W U K S) (hnb : 2 ≤ n ∧ n ≤ 6) (hFd : zD F) (pl : Int) (hpl : z_rg pl) (w : Int) (hw : z_rg w) (t : Int) (ht : z_rg t) : z_Sp 2 yX12_ledger cX12_ledger 7 (some .long) 108 108 I J P [.ref 78, .int (iI pl), .int (iI w), .int (iI t)] (q_mlg I P (.long (lI (f_ledger n F pl w t)))) := by
  obtain ⟨o1, o7, o9, o10, o11, o16, o17, o18, o19, o20, o25, o26, o28, o29, o30, o31, o36, o37, o38, o39, o40, o41, o42, o43, o44, o45, o46, o47, o48⟩ := id hM
  have hpl1 := hpl.1
  have hpl2 := hpl.2
  have hw1 := hw.1
  have hw2 := hw.2
  have ht1 := ht.1
  have ht2 := ht.2
  refine z_met false (by decide +kernel) (fun h => by cases h) (Nat.le_of_ble_eq_true rfl) (by first | decide | omega) (fun V hV => ?_)
  show V 108 I J P 0 [.ref 78, .int (iI pl), .int (iI w), .int (iI t), .null, .null, .null] []
  refine r_aload_n hV dX12_ledger_0 rfl rfl ?_
  refine s_iconst hV dX12_ledger_1 (0) (by decide) ?_
  refine r_putI hV dX12_ledger_2 fl_X12_104 (pf_X12_104 _) (z_okI_int rfl _) (by first | decide | omega) (by first | rfl | assumption) ?_
  generalize hI0e : zu I 78 (zu (I 78) 0 (iI 0)) = I0
  have t0 : ∀ q, q ≠ 78 → I0 q = I q := fun q h => by rw [← hI0e, zu_n _ _ h]
  have t1 : ∀ k, k ≠ 0 → I0 78 k = I 78 k := fun k h => by rw [← hI0e, zu_s, zu_n _ _ h]
  clear hI0e
  have hI0 := mI_fr hI t0 t1
  obtain ⟨⟨i20, i40, i50, i60, i80, i210, i220, i230, i240, i270⟩, zT0, zF0, zW0, zU0, zK0, zA0, zN0⟩ := id hI0
  refine r_aload_n hV dX12_ledger_5 rfl rfl ?_
  refine r_iload_n hV dX12_ledger_6 rfl ?_
  refine q_iv1v hV dX12_ledger_7 mv_X12_194 (n_noPlace I0 J P n i40 (by omega) (pl) (by unfold z_rg; omega)) (by first | decide | omega) (by first | rfl | assumption) (by decide) (Nat.le_refl _) (Nat.le_of_ble_eq_true rfl) ?_
  refine s_if_eq hV 17 dX12_ledger_10 (by decide) (by unfold z_rg; first | omega | (split <;> omega)) (fun c10 => ?_) (fun c10 => ?_)
  · refine r_iload_n hV dX12_ledger_17 rfl ?_
    refine s_i2l hV dX12_ledger_18 (by unfold z_rg; first | omega | (split <;> omega)) ?_
    refine s_lconst hV dX12_ledger_19 (0) (by decide) ?_
    refine s_ldc2_w hV dX12_ledger_20 cl_X12_114 (8) (by decide) ?_
    refine q_is3v hV dX12_ledger_23 ms_X12_107 (n_in I0 J P (w) (0) (8) (by unfold z_rgL; omega) (by unfold z_rgL; omega) (by unfold z_rgL; omega)) (by decide) (Nat.le_refl _) (Nat.le_of_ble_eq_true rfl) ?_
    refine s_if_eq hV 41 dX12_ledger_26 (by decide) (by unfold z_rg; first | omega | (split <;> omega)) (fun c26 => ?_) (fun c26 => ?_)
    · refine s_ldc2_w hV dX12_ledger_41 cl_X12_254 (-2) (by decide) ?_
      refine r_lret hV dX12_ledger_44 rfl rfl ?_
      refine ⟨?_, rfl, t0, t1⟩
      unfold f_ledger
      rw [if_neg (by omega), if_pos (by omega)]
    · refine r_iload_n hV dX12_ledger_29 rfl ?_
      refine s_i2l hV dX12_ledger_30 (by unfold z_rg; first | omega | (split <;> omega)) ?_
      refine s_lconst hV dX12_ledger_31 (0) (by decide) ?_
      refine s_ldc2_w hV dX12_ledger_32 cl_X12_252 (999) (by decide) ?_
      refine q_is3v hV dX12_ledger_35 ms_X12_107 (n_in I0 J P (t) (0) (999) (by unfold z_rgL; omega) (by unfold z_rgL; omega) (by unfold z_rgL; omega)) (by decide) (Nat.le_refl _) (Nat.le_of_ble_eq_true rfl) ?_
      refine s_if_ne hV 45 dX12_ledger_38 (by decide) (by unfold z_rg; first | omega | (split <;> omega)) (fun c38 => ?_) (fun c38 => ?_)
      · obtain ⟨m, rfl⟩ := Int.eq_ofNat_of_zero_le (show 0 ≤ w by omega)
        refine r_aload_n hV dX12_ledger_45 rfl rfl ?_
        refine r_iload_n hV dX12_ledger_46 rfl ?_
        refine r_iload_n hV dX12_ledger_47 rfl ?_
        refine r_iload_n hV dX12_ledger_48 rfl ?_
        refine r_iv3 hV dX12_ledger_49 mv_X12_256 (n_layWays I0 J P hM n i40 hnb F zF0 hFd pl (by omega) m (by omega) t (by omega)) (by first | decide | omega) (by first | rfl | assumption) (by decide) (Nat.le_refl _) (Nat.le_of_ble_eq_true rfl) (fun v2 I2 J2 P2 hq => ?_)
        obtain ⟨rfl, ei, ep, hC⟩ := hq
        rw [ei, ep]
        show V 108 I0 J2 P _ _ []
        have hcv := f_mws_wy (t := t) hFd hnb.2 (by omega) (show 0 ≤ pl ∧ pl < n by omega) m
        have hval : ∀ k : Nat, k < n → J2 106 (1000 * (k : Int) + t).toNat = lI (f_wy F n pl m ((k : Int) * 1000 + t)) := fun k hk => by
          rw [hC _ (by omega) (by omega), hcv _ (by omega) (by omega), if_pos (by omega), show 1000 * (k : Int) + t = (k : Int) * 1000 + t by omega]
        have hwb : ∀ k : Nat, 0 ≤ f_wy F n pl m ((k : Int) * 1000 + t) ∧ f_wy F n pl m ((k : Int) * 1000 + t) ≤ 1679616 := fun k => by
          have h1 := f_wy_b (F := F) (pl := pl) hnb.2 m ((k : Int) * 1000 + t)
          have h2 : ((6 ^ m : Nat) : Int) ≤ ((1679616 : Nat) : Int) := Int.ofNat_le.mpr (Nat.le_trans (Nat.pow_le_pow_right (n := 6) (by decide) (show m ≤ 8 by omega)) (by decide))
          rw [show ((6 ^ m : Nat) : Int) = 6 ^ m by simp] at h2
          omega
        refine s_lconst hV dX12_ledger_52 (0) (by decide) ?_
        refine r_lstore hV dX12_ledger_53 (Nat.le_of_ble_eq_true rfl) (z_st2_7_4 rfl) ?_
        refine s_iconst hV dX12_ledger_55 (0) (by decide) ?_
        refine r_istore hV dX12_ledger_56 (Nat.le_of_ble_eq_true rfl) (z_st1_7_6 rfl) ?_
        have L58 : ∀ (k58 j : Nat), n - j < k58 → j ≤ n → V 108 I0 J2 P 58 [.ref 78, .int (iI pl), .int (iI (m : Int)), .int (iI t), .long (lI (zsum (fun k => f_wy F n pl m ((k : Int) * 1000 + t)) j)), .null, .int (iI (j : Int))] [] := by
          intro k58
          induction k58 with
          | zero => intro j  hk1 hk2; omega
          | succ k58 ih58 =>
            intro j  hk58 hl58 
            refine r_iload hV dX12_ledger_58 rfl ?_
            refine r_aload_n hV dX12_ledger_60 rfl rfl ?_
            refine r_getI hV dX12_ledger_61 fl_X12_13 (by first | decide | omega) (by first | rfl | assumption) i40 ?_
            refine s_icmp_ge hV 91 dX12_ledger_64 (by decide) (by unfold z_rg; first | omega | (split <;> omega)) (by unfold z_rg; first | omega | (split <;> omega)) (fun c64 => ?_) (fun c64 => ?_)
            · refine r_lload hV dX12_ledger_91 rfl ?_
              refine r_lret hV dX12_ledger_93 rfl rfl ?_
              rw [show j = n by omega]
              refine ⟨?_, rfl, t0, t1⟩
              unfold f_ledger
              rw [if_neg (by omega), if_neg (by omega), Int.toNat_natCast]
            · refine r_lload hV dX12_ledger_67 rfl ?_
              refine r_aload_n hV dX12_ledger_69 rfl rfl ?_
              refine r_getR hV dX12_ledger_70 fl_X12_96 (by first | decide | omega) (by first | rfl | assumption) o47 ?_
              refine s_sipush hV dX12_ledger_73 (1000) (by decide) ?_
              refine r_iload hV dX12_ledger_76 rfl ?_
              refine s_imul hV dX12_ledger_78 ?_
              refine r_iload_n hV dX12_ledger_79 rfl ?_
              refine s_iadd hV dX12_ledger_80 ?_
              refine s_laload hV dX12_ledger_81 (by first | decide | omega) (by first | rfl | assumption) (by decide) (by omega) (by omega) (hval j (by omega)) ?_
              refine s_ladd hV dX12_ledger_82 ?_
              refine r_lstore hV dX12_ledger_83 (Nat.le_of_ble_eq_true rfl) (z_st2_7_4 rfl) ?_
              refine s_iinc hV dX12_ledger_85 rfl (z_st1_7_6 rfl) ?_
              refine r_goto hV 58 dX12_ledger_88 (by decide) ?_
              exact ih58 (j + 1) (by omega) (by omega)
        exact L58 (n + 1) 0 (by omega) (by omega)
      · refine s_ldc2_w hV dX12_ledger_41 cl_X12_254 (-2) (by decide) ?_
        refine r_lret hV dX12_ledger_44 rfl rfl ?_
        refine ⟨?_, rfl, t0, t1⟩
        unfold f_ledger
        rw [if_neg (by omega), if_pos (by omega)]
  · refine s_ldc2_w hV dX12_ledger_13 cl_X12_250 (-1) (by decide) ?_
    refine r_lret hV dX12_ledger_16 rfl rfl ?_
    refine ⟨?_, rfl, t0, t1⟩
    unfold f_ledger
    rw [if_pos (by omega)]

set_option maxRecDepth 20000 in
theorem n_ends (I : zI) (J : zJ) (P : zP) (hM : mK P) (tl st r c : Int) (n e : Nat) (T F W U K S : Int → Int) (hI : mI I tl st r c n e T F W U K S) (hnb : 2 ≤ n ∧ n ≤ 6) (hFd : zD F) (pl : Int) (hpl : z_rg pl) (w : Int) (hw : z_rg w) (t : Int) (ht : z_rg t) : z_Sp 2 yX12_ends cX12_ends 6 (some .int) 108 108 I J P [.ref 78, .int (iI pl), .int (iI w), .int (iI t)] (q_mlg I P (.int (iI (f_ends n F pl w t)))) := by
  obtain ⟨o1, o7, o9, o10, o11, o16, o17, o18, o19, o20, o25, o26, o28, o29, o30, o31, o36, o37, o38, o39, o40, o41, o42, o43, o44, o45, o46, o47, o48⟩ := id hM
  have hpl1 := hpl.1
  have hpl2 := hpl.2
  have hw1 := hw.1
  have hw2 := hw.2
  have ht1 := ht.1
  have ht2 := ht.2
  refine z_met false (by decide +kernel) (fun h => by cases h) (Nat.le_of_ble_eq_true rfl) (by first | decide | omega) (fun V hV => ?_)
  show V 108 I J P 0 [.ref 78, .int (iI pl), .int (iI w), .int (iI t), .null, .null] []
  refine r_aload_n hV dX12_ends_0 rfl rfl ?_
  refine s_iconst hV dX12_ends_1 (0) (by decide) ?_
  refine r_putI hV dX12_ends_2 fl_X12_104 (pf_X12_104 _) (z_okI_int rfl _) (by first | decide | omega) (by first | rfl | assumption) ?_
  generalize hI0e : zu I 78 (zu (I 78) 0 (iI 0)) = I0
  have t0 : ∀ q, q ≠ 78 → I0 q = I q := fun q h => by rw [← hI0e, zu_n _ _ h]
  have t1 : ∀ k, k ≠ 0 → I0 78 k = I 78 k := fun k h => by rw [← hI0e, zu_s, zu_n _ _ h]
  clear hI0e
  have hI0 := mI_fr hI t0 t1
  obtain ⟨⟨i20, i40, i50, i60, i80, i210, i220, i230, i240, i270⟩, zT0, zF0, zW0, zU0, zK0, zA0, zN0⟩ := id hI0
  refine r_aload_n hV dX12_ends_5 rfl rfl ?_
  refine r_iload_n hV dX12_ends_6 rfl ?_
  refine q_iv1v hV dX12_ends_7 mv_X12_194 (n_noPlace I0 J P n i40 (by omega) (pl) (by unfold z_rg; omega)) (by first | decide | omega) (by first | rfl | assumption) (by decide) (Nat.le_refl _) (Nat.le_of_ble_eq_true rfl) ?_
  refine s_if_eq hV 15 dX12_ends_10 (by decide) (by unfold z_rg; first | omega | (split <;> omega)) (fun c10 => ?_) (fun c10 => ?_)
  · refine r_iload_n hV dX12_ends_15 rfl ?_
    refine s_i2l hV dX12_ends_16 (by unfold z_rg; first | omega | (split <;> omega)) ?_
    refine s_lconst hV dX12_ends_17 (0) (by decide) ?_
    refine s_ldc2_w hV dX12_ends_18 cl_X12_114 (8) (by decide) ?_
    refine q_is3v hV dX12_ends_21 ms_X12_107 (n_in I0 J P (w) (0) (8) (by unfold z_rgL; omega) (by unfold z_rgL; omega) (by unfold z_rgL; omega)) (by decide) (Nat.le_refl _) (Nat.le_of_ble_eq_true rfl) ?_
    refine s_if_eq hV 39 dX12_ends_24 (by decide) (by unfold z_rg; first | omega | (split <;> omega)) (fun c24 => ?_) (fun c24 => ?_)
    · refine s_bipush hV dX12_ends_39 (-2) (by decide) ?_
      refine r_iret hV dX12_ends_41 rfl rfl ?_
      refine ⟨?_, rfl, t0, t1⟩
      unfold f_ends
      rw [if_neg (by omega), if_pos (by omega)]
    · refine r_iload_n hV dX12_ends_27 rfl ?_
      refine s_i2l hV dX12_ends_28 (by unfold z_rg; first | omega | (split <;> omega)) ?_
      refine s_lconst hV dX12_ends_29 (0) (by decide) ?_
      refine s_ldc2_w hV dX12_ends_30 cl_X12_252 (999) (by decide) ?_
      refine q_is3v hV dX12_ends_33 ms_X12_107 (n_in I0 J P (t) (0) (999) (by unfold z_rgL; omega) (by unfold z_rgL; omega) (by unfold z_rgL; omega)) (by decide) (Nat.le_refl _) (Nat.le_of_ble_eq_true rfl) ?_
      refine s_if_ne hV 42 dX12_ends_36 (by decide) (by unfold z_rg; first | omega | (split <;> omega)) (fun c36 => ?_) (fun c36 => ?_)
      · obtain ⟨m, rfl⟩ := Int.eq_ofNat_of_zero_le (show 0 ≤ w by omega)
        refine r_aload_n hV dX12_ends_42 rfl rfl ?_
        refine r_iload_n hV dX12_ends_43 rfl ?_
        refine r_iload_n hV dX12_ends_44 rfl ?_
        refine r_iload_n hV dX12_ends_45 rfl ?_
        refine r_iv3 hV dX12_ends_46 mv_X12_256 (n_layWays I0 J P hM n i40 hnb F zF0 hFd pl (by omega) m (by omega) t (by omega)) (by first | decide | omega) (by first | rfl | assumption) (by decide) (Nat.le_refl _) (Nat.le_of_ble_eq_true rfl) (fun v2 I2 J2 P2 hq => ?_)
        obtain ⟨rfl, ei, ep, hC⟩ := hq
        rw [ei, ep]
        show V 108 I0 J2 P _ _ []
        have hcv := f_mws_wy (t := t) hFd hnb.2 (by omega) (show 0 ≤ pl ∧ pl < n by omega) m
        have hval : ∀ k : Nat, k < n → J2 106 (1000 * (k : Int) + t).toNat = lI (f_wy F n pl m ((k : Int) * 1000 + t)) := fun k hk => by
          rw [hC _ (by omega) (by omega), hcv _ (by omega) (by omega), if_pos (by omega), show 1000 * (k : Int) + t = (k : Int) * 1000 + t by omega]
        have hwb : ∀ k : Nat, 0 ≤ f_wy F n pl m ((k : Int) * 1000 + t) ∧ f_wy F n pl m ((k : Int) * 1000 + t) ≤ 1679616 := fun k => by
          have h1 := f_wy_b (F := F) (pl := pl) hnb.2 m ((k : Int) * 1000 + t)
          have h2 : ((6 ^ m : Nat) : Int) ≤ ((1679616 : Nat) : Int) := Int.ofNat_le.mpr (Nat.le_trans (Nat.pow_le_pow_right (n := 6) (by decide) (show m ≤ 8 by omega)) (by decide))
          rw [show ((6 ^ m : Nat) : Int) = 6 ^ m by simp] at h2
          omega
        refine s_iconst hV dX12_ends_49 (0) (by decide) ?_
        refine r_istore hV dX12_ends_50 (Nat.le_of_ble_eq_true rfl) (z_st1_6_4 rfl) ?_
        refine s_iconst hV dX12_ends_52 (0) (by decide) ?_
        refine r_istore hV dX12_ends_53 (Nat.le_of_ble_eq_true rfl) (z_st1_6_5 rfl) ?_
        have L55 : ∀ (k55 j : Nat), n - j < k55 → j ≤ n → V 108 I0 J2 P 55 [.ref 78, .int (iI pl), .int (iI (m : Int)), .int (iI t), .int (iI ((zset (f_endb n F pl (m : Int) t) j : Nat) : Int)), .int (iI (j : Int))] [] := by
          intro k55
          induction k55 with
          | zero => intro j  hk1 hk2; omega
          | succ k55 ih55 =>
            intro j  hk55 hl55 
            have hlt2 : zset (f_endb n F pl (m : Int) t) j < 64 := Nat.lt_of_lt_of_le zset_lt (Nat.pow_le_pow_right (n := 2) (by omega) (show j ≤ 6 by omega))
            have hnx : ∀ s : Nat, zset (f_endb n F pl (m : Int) t) (j + 1) = s → j < n → V 108 I0 J2 P 55 [.ref 78, .int (iI pl), .int (iI (m : Int)), .int (iI t), .int (iI (s : Int)), .int (iI ((j : Int) + 1))] [] := fun s hs hj => by subst hs; exact ih55 (j + 1) (by omega) (by omega)
            have hwj := hwb j
            refine r_iload hV dX12_ends_55 rfl ?_
            refine r_aload_n hV dX12_ends_57 rfl rfl ?_
            refine r_getI hV dX12_ends_58 fl_X12_13 (by first | decide | omega) (by first | rfl | assumption) i40 ?_
            refine s_icmp_ge hV 101 dX12_ends_61 (by decide) (by unfold z_rg; first | omega | (split <;> omega)) (by unfold z_rg; first | omega | (split <;> omega)) (fun c61 => ?_) (fun c61 => ?_)
            · refine r_iload hV dX12_ends_101 rfl ?_
              refine r_iret hV dX12_ends_103 rfl rfl ?_
              rw [show j = n by omega]
              refine ⟨?_, rfl, t0, t1⟩
              unfold f_ends
              rw [if_neg (by omega), if_neg (by omega)]
            · refine r_iload hV dX12_ends_64 rfl ?_
              refine r_aload_n hV dX12_ends_66 rfl rfl ?_
              refine r_getR hV dX12_ends_67 fl_X12_96 (by first | decide | omega) (by first | rfl | assumption) o47 ?_
              refine s_sipush hV dX12_ends_70 (1000) (by decide) ?_
              refine r_iload hV dX12_ends_73 rfl ?_
              refine s_imul hV dX12_ends_75 ?_
              refine r_iload_n hV dX12_ends_76 rfl ?_
              refine s_iadd hV dX12_ends_77 ?_
              refine s_laload hV dX12_ends_78 (by first | decide | omega) (by first | rfl | assumption) (by decide) (by omega) (by omega) (hval j (by omega)) ?_
              refine s_lconst hV dX12_ends_79 (0) (by decide) ?_
              refine s_lcmp hV dX12_ends_80 (by unfold z_rgL; omega) (by unfold z_rgL; omega) ?_
              refine s_if_le hV 91 dX12_ends_81 (by decide) (z_cmp_rg _ _) (fun c81 => ?_) (fun c81 => ?_)
              · have hc81 := z_cmp_le.mp c81
                have hor : iI ((zset (f_endb n F pl (m : Int) t) j : Nat) : Int) ||| iI 0 = iI ((zset (f_endb n F pl (m : Int) t) j : Nat) : Int) := by have h0 := zb_or (b := 0) hlt2 (by omega); rw [Nat.or_zero] at h0; exact h0
                refine s_iconst hV dX12_ends_91 (0) (by decide) ?_
                refine s_ior hV dX12_ends_92 hor ?_
                refine r_istore hV dX12_ends_93 (Nat.le_of_ble_eq_true rfl) (z_st1_6_4 rfl) ?_
                refine s_iinc hV dX12_ends_95 rfl (z_st1_6_5 rfl) ?_
                refine r_goto hV 55 dX12_ends_98 (by decide) ?_
                refine hnx _ (by rw [zset]; unfold f_endb; rw [Int.toNat_natCast]; first | rw [if_pos (by simp only [decide_eq_true_eq]; omega)] | rw [if_neg (by simp only [decide_eq_true_eq]; omega)]) (by omega)
              · have hc81 : ¬ f_wy F n pl m ((j : Int) * 1000 + t) ≤ 0 := fun h => c81 (z_cmp_le.mpr h)
                have hpw := z_pw (k := j) (by omega)
                have hor := zb_or hlt2 hpw
                refine s_iconst hV dX12_ends_84 (1) (by decide) ?_
                refine r_iload hV dX12_ends_85 rfl ?_
                refine s_ishl hV dX12_ends_87 (zb_shl (by omega)) ?_
                refine r_goto hV 92 dX12_ends_88 (by decide) ?_
                refine s_ior hV dX12_ends_92 hor ?_
                refine r_istore hV dX12_ends_93 (Nat.le_of_ble_eq_true rfl) (z_st1_6_4 rfl) ?_
                refine s_iinc hV dX12_ends_95 rfl (z_st1_6_5 rfl) ?_
                refine r_goto hV 55 dX12_ends_98 (by decide) ?_
                refine hnx _ (by rw [zset]; unfold f_endb; rw [Int.toNat_natCast]; first | rw [if_pos (by simp only [decide_eq_true_eq]; omega)] | rw [if_neg (by simp only [decide_eq_true_eq]; omega)]) (by omega)
        exact L55 (n + 1) 0 (by omega) (by omega)
      · refine s_bipush hV dX12_ends_39 (-2) (by decide) ?_
        refine r_iret hV dX12_ends_41 rfl rfl ?_
        refine ⟨?_, rfl, t0, t1⟩
        unfold f_ends
        rw [if_neg (by omega), if_pos (by omega)]
  · refine s_iconst hV dX12_ends_13 (-1) (by decide) ?_
    refine r_iret hV dX12_ends_14 rfl rfl ?_
    refine ⟨?_, rfl, t0, t1⟩
    unfold f_ends
    rw [if_pos (by omega)]

def q_all (I : zI) (J : zJ) (P : zP) (e : Nat) (F W K : Int → Int) (v : Option Value) (I1 : zI) (J1 : zJ) (P1 : zP) : Prop := v = none ∧ J1 = J ∧ P1 = P ∧ z_ar I1 83 e K ∧ (∀ s : Nat, s < 64 → I1 93 s = iI (f_mt (mF F) W (fun _ => 2) 0 0 0 e s)) ∧ ∀ q, q ≠ 83 → q ≠ 87 → q ≠ 93 → q ≠ 94 → I1 q = I q
def f_sw (j : Int) (f g : Int → Int) (z : Int) : Int := if z < j then f z else g z
theorem f_sw_s {f g : Int → Int} {j : Int} (z : Int) : zup (f_sw j f g) j (f j) z = f_sw (j + 1) f g z := by
  unfold zup f_sw
  by_cases q : z = j
  · rw [if_pos q, if_pos (by omega), q]
  · rw [if_neg q]
    by_cases q2 : z < j
    · rw [if_pos q2, if_pos (by omega)]
    · rw [if_neg q2, if_neg (by omega)]
set_option maxRecDepth 20000 in
theorem n_layAll (I : zI) (J : zJ) (P : zP) (hM : mK P) (n e : Nat) (h8 : I 78 8 = iI (e : Int)) (he6 : e ≤ 6) (hnb : 2 ≤ n ∧ n ≤ 6) (F W K : Int → Int) (zF : z_ar I 80 36 (mF F)) (hFd : zD F) (zW : z_ar I 81 e W) (hWb : z_bd W e 0 (n - 1)) (zK : z_ar I 83 e K) : z_Sp 3 yX12_layAll cX12_layAll 2 none 108 108 I J P [.ref 78] (q_all I J P e F W K) := by
  obtain ⟨o1, o7, o9, o10, o11, o16, o17, o18, o19, o20, o25, o26, o28, o29, o30, o31, o36, o37, o38, o39, o40, o41, o42, o43, o44, o45, o46, o47, o48⟩ := id hM
  have hMb := mF_b hFd
  refine z_met false (by decide +kernel) (fun h => by cases h) (Nat.le_of_ble_eq_true rfl) (by first | decide | omega) (fun V hV => ?_)
  show V 108 I J P 0 [.ref 78, .null] []
  refine s_iconst hV dX12_layAll_0 (0) (by decide) ?_
  refine r_istore_n hV dX12_layAll_1 (Nat.le_of_ble_eq_true rfl) (z_st1_2_1 rfl) ?_
  have L2 : ∀ (k2 j : Nat) (I1 : zI), e - j < k2 → j ≤ e → (z_ar I1 87 (j : Int) K) → (z_ar I1 83 e (f_sw j (fun _ => (2 : Int)) K)) → (∀ q, q ≠ 83 → q ≠ 87 → I1 q = I q) → V 108 I1 J P 2 [.ref 78, .int (iI (j : Int))] [] := by
    intro k2
    induction k2 with
    | zero => intro j I1  hk1 hk2; omega
    | succ k2 ih2 =>
      intro j I1  hk2 hl2 hp hz hfr
      refine r_iload_n hV dX12_layAll_2 rfl ?_
      refine r_aload_n hV dX12_layAll_3 rfl rfl ?_
      refine r_getI hV dX12_layAll_4 fl_X12_111 (by first | decide | omega) (by first | rfl | assumption) ((congrFun (hfr 78 (by omega) (by omega)) 8).trans h8) ?_
      refine s_icmp_ge hV 35 dX12_layAll_7 (by decide) (by unfold z_rg; first | omega | (split <;> omega)) (by unfold z_rg; first | omega | (split <;> omega)) (fun c7 => ?_) (fun c7 => ?_)
      · rw [show j = e by omega] at hp hz
        have hK2 : z_ar I1 83 e (fun _ => (2 : Int)) := z_ar_eq hz (fun z a b => by unfold f_sw; rw [if_pos (by omega)])
        refine r_aload_n hV dX12_layAll_35 rfl rfl ?_
        refine s_iconst hV dX12_layAll_36 (0) (by decide) ?_
        refine s_iconst hV dX12_layAll_37 (0) (by decide) ?_
        refine s_iconst hV dX12_layAll_38 (0) (by decide) ?_
        refine r_iv3 hV dX12_layAll_39 mv_X12_219 (n_layTours I1 J P hM (mF F) W (fun _ => 2) (z_ar_fr zF (hfr 80 (by omega) (by omega))) hMb n e ((congrFun (hfr 78 (by omega) (by omega)) 8).trans h8) he6 hnb.2 (z_ar_fr zW (hfr 81 (by omega) (by omega))) hWb hK2 (fun z _ _ => ⟨(by decide : (0 : Int) ≤ 2), Int.le_refl 2⟩) 0 0 0 (by omega) (by omega) (by omega)) (by first | decide | omega) (by first | rfl | assumption) (by decide) (Nat.le_refl _) (Nat.le_of_ble_eq_true rfl) (fun v5 I5 J5 P5 hq => ?_)
        obtain ⟨rfl, ej, ep, z1, z2, zf⟩ := hq
        rw [ej, ep]
        show V 108 I5 J P _ _ []
        clear ej ep
        refine s_iconst hV dX12_layAll_42 (0) (by decide) ?_
        refine r_istore_n hV dX12_layAll_43 (Nat.le_of_ble_eq_true rfl) (z_st1_2_1 rfl) ?_
        have L44 : ∀ (k44 j2 : Nat) (I6 : zI), e - j2 < k44 → j2 ≤ e → (z_ar I6 83 e (f_sw j2 K (fun _ => (2 : Int)))) → (∀ q, q ≠ 83 → I6 q = I5 q) → V 108 I6 J P 44 [.ref 78, .int (iI (j2 : Int))] [] := by
          intro k44
          induction k44 with
          | zero => intro j2 I6  hk1 hk2; omega
          | succ k44 ih44 =>
            intro j2 I6  hk44 hl44 hz6 hf6
            refine r_iload_n hV dX12_layAll_44 rfl ?_
            refine r_aload_n hV dX12_layAll_45 rfl rfl ?_
            refine r_getI hV dX12_layAll_46 fl_X12_111 (by first | decide | omega) (by first | rfl | assumption) ((congrFun ((hf6 78 (by omega)).trans ((zf 78 (by omega) (by omega)).trans (hfr 78 (by omega) (by omega)))) 8).trans h8) ?_
            refine s_icmp_ge hV 70 dX12_layAll_49 (by decide) (by unfold z_rg; first | omega | (split <;> omega)) (by unfold z_rg; first | omega | (split <;> omega)) (fun c49 => ?_) (fun c49 => ?_)
            · refine r_vret hV dX12_layAll_70 rfl rfl ?_
              refine ⟨rfl, rfl, rfl, z_ar_eq hz6 (fun z a b => by unfold f_sw; rw [if_pos (by omega)]), fun s hs => ?_, fun q a b c g => (hf6 q a).trans ((zf q c g).trans (hfr q a b))⟩
              have h2 := z2 (s : Int) (by omega) (by omega)
              rw [Int.toNat_natCast] at h2
              have h3 := q_lts_mt (M := mF F) (W := W) (K := fun _ => 2) (w := 0) (fr := 0) (to := 0) (A := f_w0 I1 94) (B := f_w0 I1 93) he6 hs
              rw [show 64 * (0 : Int) + (s : Int) = (s : Int) by omega] at h3
              rw [congrFun (hf6 93 (by omega)) s, h2, h3]
            · refine r_aload_n hV dX12_layAll_52 rfl rfl ?_
              refine r_getR hV dX12_layAll_53 fl_X12_26 (by first | decide | omega) (by first | rfl | assumption) o11 ?_
              refine r_iload_n hV dX12_layAll_56 rfl ?_
              refine r_aload_n hV dX12_layAll_57 rfl rfl ?_
              refine r_getR hV dX12_layAll_58 fl_X12_38 (by first | decide | omega) (by first | rfl | assumption) o19 ?_
              refine r_iload_n hV dX12_layAll_61 rfl ?_
              refine s_iaload hV dX12_layAll_62 (by first | decide | omega) (by first | rfl | assumption) (by decide) (by omega) (by omega) ((congrFun ((hf6 87 (by omega)).trans (zf 87 (by omega) (by omega))) _).trans (hp (j2 : Int) (by omega) (by omega))) ?_
              refine s_iastore hV dX12_layAll_63 (by first | decide | omega) (by first | rfl | assumption) (by decide) (by omega) (by omega) ?_
              have hz7 := z_ar_set hz6 (z := (j2 : Int)) (by omega) (K (j2 : Int))
              generalize hI7 : zu I6 (83) (zu (I6 83) ((j2 : Int)).toNat (iI (K (j2 : Int)))) = I7
              have hfI7 : ∀ q, q ≠ 83 → I7 q = I6 q := fun q h => by rw [← hI7]; exact zu_n _ _ h
              rw [hI7] at hz7
              clear hI7
              refine s_iinc hV dX12_layAll_64 rfl (z_st1_2_1 rfl) ?_
              refine r_goto hV 44 dX12_layAll_67 (by decide) ?_
              exact ih44 (j2 + 1) I7 (by omega) (by omega) (z_ar_eq hz7 (fun z _ _ => f_sw_s z)) (fun q a => (hfI7 q a).trans (hf6 q a))
        exact L44 (e + 1) 0 I5 (by omega) (by omega) (z_ar_eq (z_ar_fr hz (zf 83 (by omega) (by omega))) (fun z a b => by unfold f_sw; rw [if_pos (by omega), if_neg (by omega)])) (fun q a => rfl)
      · refine r_aload_n hV dX12_layAll_10 rfl rfl ?_
        refine r_getR hV dX12_layAll_11 fl_X12_38 (by first | decide | omega) (by first | rfl | assumption) o19 ?_
        refine r_iload_n hV dX12_layAll_14 rfl ?_
        refine r_aload_n hV dX12_layAll_15 rfl rfl ?_
        refine r_getR hV dX12_layAll_16 fl_X12_26 (by first | decide | omega) (by first | rfl | assumption) o11 ?_
        refine r_iload_n hV dX12_layAll_19 rfl ?_
        refine s_iaload hV dX12_layAll_20 (by first | decide | omega) (by first | rfl | assumption) (by decide) (by omega) (by omega) (show I1 83 (j : Int).toNat = iI (K (j : Int)) from (hz (j : Int) (by omega) (by omega)).trans (by unfold f_sw; rw [if_neg (by omega)])) ?_
        refine s_iastore hV dX12_layAll_21 (by first | decide | omega) (by first | rfl | assumption) (by decide) (by omega) (by omega) ?_
        have hp2 := z_ar_push hp
        generalize hI2 : zu I1 (87) (zu (I1 87) (j : Int).toNat (iI (K (j : Int)))) = I2
        have hfI2 : ∀ q, q ≠ 87 → I2 q = I1 q := fun q h => by rw [← hI2]; exact zu_n _ _ h
        rw [hI2] at hp2
        clear hI2
        have hz2 := z_ar_fr hz (hfI2 83 (by omega))
        refine r_aload_n hV dX12_layAll_22 rfl rfl ?_
        refine r_getR hV dX12_layAll_23 fl_X12_26 (by first | decide | omega) (by first | rfl | assumption) o11 ?_
        refine r_iload_n hV dX12_layAll_26 rfl ?_
        refine s_iconst hV dX12_layAll_27 (2) (by decide) ?_
        refine s_iastore hV dX12_layAll_28 (by first | decide | omega) (by first | rfl | assumption) (by decide) (by omega) (by omega) ?_
        have hz3 := z_ar_set hz2 (z := (j : Int)) (by omega) (2)
        generalize hI3 : zu I2 (83) (zu (I2 83) ((j : Int)).toNat (iI (2))) = I3
        have hfI3 : ∀ q, q ≠ 83 → I3 q = I2 q := fun q h => by rw [← hI3]; exact zu_n _ _ h
        rw [hI3] at hz3
        clear hI3
        refine s_iinc hV dX12_layAll_29 rfl (z_st1_2_1 rfl) ?_
        refine r_goto hV 2 dX12_layAll_32 (by decide) ?_
        exact ih2 (j + 1) I3 (by omega) (by omega) (z_ar_fr hp2 (hfI3 87 (by omega))) (z_ar_eq hz3 (fun z _ _ => f_sw_s z)) (fun q a b => (hfI3 q a).trans ((hfI2 q b).trans (hfr q a b)))
  exact L2 (e + 1) 0 I (by omega) (by omega) z_ar_0 (z_ar_eq zK (fun z a b => by unfold f_sw; rw [if_neg (by omega)])) (fun q a b => rfl)

def f_mww (H : Nat → Int) (x : Int) (e : Nat) (t : Int) (m : Nat) : Int := zsum (fun i => if H i ≤ t then f_gW x e (i : Int) else 0) m
theorem f_wg_0 {x : Int} {s : Nat} : ∀ k, zit (f_wg x s) k 0 = 0 := by
  intro k
  induction k with
  | zero => rfl
  | succ k ih => rw [zit, ih, f_wg, Int.zero_mul]
theorem f_mww_b {H : Nat → Int} {x t : Int} {e : Nat} (hx : 0 ≤ x ∧ x ≤ 10) (he : e ≤ 6) (m : Nat) (hm : m ≤ 64) : 0 ≤ f_mww H x e t m ∧ f_mww H x e t m ≤ 64000000 := by
  have h10 := z_p10 he
  have := zsum_b (f := fun i => if H i ≤ t then f_gW x e (i : Int) else 0) (n := m) (b := 1000000) (fun k hk => by
    have := f_wg_b (s := ((k : Int)).toNat) hx e
    unfold f_gW
    split <;> omega)
  unfold f_mww
  omega
set_option maxRecDepth 20000 in
theorem n_within (I : zI) (J : zJ) (P : zP) (hM : mK P) (e : Nat) (h8 : I 78 8 = iI (e : Int)) (he6 : e ≤ 6) (H : Nat → Int) (hT : ∀ s : Nat, s < 64 → I 93 s = iI (H s)) (hH : ∀ s, s < 64 → 0 ≤ H s ∧ H s ≤ 99999) (x t : Int) (hx : 0 ≤ x ∧ x ≤ 10) (ht : 0 ≤ t ∧ t ≤ 999) : z_Fn 1 yX12_within cX12_within 9 (some .long) 108 108 I J P [.ref 78, .int (iI x), .int (iI t)] (some (.long (lI (f_mww H x e t (2 ^ e))))) (I) (J) (P) := by
  obtain ⟨o1, o7, o9, o10, o11, o16, o17, o18, o19, o20, o25, o26, o28, o29, o30, o31, o36, o37, o38, o39, o40, o41, o42, o43, o44, o45, o46, o47, o48⟩ := id hM
  have h2e := z_pn he6
  have h2p : 1 ≤ 2 ^ e := Nat.one_le_two_pow
  refine z_met false (by decide +kernel) (fun h => by cases h) (Nat.le_of_ble_eq_true rfl) (by first | decide | omega) (fun V hV => ?_)
  show V 108 I J P 0 [.ref 78, .int (iI x), .int (iI t), .null, .null, .null, .null, .null, .null] []
  refine s_lconst hV dX12_within_0 (0) (by decide) ?_
  refine r_lstore_n hV dX12_within_1 (Nat.le_of_ble_eq_true rfl) (z_st2_9_3 rfl) ?_
  refine s_iconst hV dX12_within_2 (0) (by decide) ?_
  refine r_istore hV dX12_within_3 (Nat.le_of_ble_eq_true rfl) (z_st1_9_5 rfl) ?_
  have L5 : ∀ (k5 s : Nat), 2 ^ e - s < k5 → s ≤ 2 ^ e → V 108 I J P 5 [.ref 78, .int (iI x), .int (iI t), .long (lI (f_mww H x e t s)), .null, .int (iI (s : Int)), .null, .null, .null] [] := by
    intro k5
    induction k5 with
    | zero => intro s  hk1 hk2; omega
    | succ k5 ih5 =>
      intro s  hk5 hl5 
      refine r_iload hV dX12_within_5 rfl ?_
      refine s_iconst hV dX12_within_7 (1) (by decide) ?_
      refine r_aload_n hV dX12_within_8 rfl rfl ?_
      refine r_getI hV dX12_within_9 fl_X12_111 (by first | decide | omega) (by first | rfl | assumption) (by first | assumption | rfl) ?_
      refine s_ishl hV dX12_within_12 (zb_shl (by omega)) ?_
      refine s_icmp_ge hV 88 dX12_within_13 (by decide) (by unfold z_rg; first | omega | (split <;> omega)) (by unfold z_rg; first | omega | (split <;> omega)) (fun c13 => ?_) (fun c13 => ?_)
      · refine r_lload_n hV dX12_within_88 rfl ?_
        refine r_lret hV dX12_within_89 rfl rfl ?_
        rw [show s = 2 ^ e by omega]
        exact ⟨rfl, rfl, rfl, rfl⟩
      · have J32 : V 108 I J P 32 [.ref 78, .int (iI x), .int (iI t), .long (lI (f_mww H x e t s)), .null, .int (iI (s : Int)), .null, .null, .null] [.long (lI (if H s ≤ t then (1 : Int) else 0))] := by
          skip
          refine r_lstore hV dX12_within_32 (Nat.le_of_ble_eq_true rfl) (z_st2_9_6 rfl) ?_
          refine s_iconst hV dX12_within_34 (0) (by decide) ?_
          refine r_istore hV dX12_within_35 (Nat.le_of_ble_eq_true rfl) (z_st1_9_8 rfl) ?_
          have L37 : ∀ (k37 k : Nat), e - k < k37 → k ≤ e → V 108 I J P 37 [.ref 78, .int (iI x), .int (iI t), .long (lI (f_mww H x e t s)), .null, .int (iI (s : Int)), .long (lI (zit (f_wg x s) k (if H s ≤ t then (1 : Int) else 0))), .null, .int (iI (k : Int))] [] := by
            intro k37
            induction k37 with
            | zero => intro k  hk1 hk2; omega
            | succ k37 ih37 =>
              intro k  hk37 hl37 
              have hnx : ∀ b2 : Int, zit (f_wg x s) (k + 1) (if H s ≤ t then (1 : Int) else 0) = b2 → k < e → V 108 I J P 37 [.ref 78, .int (iI x), .int (iI t), .long (lI (f_mww H x e t s)), .null, .int (iI (s : Int)), .long (lI b2), .null, .int (iI ((k : Int) + 1))] [] := fun b2 hs hj => by subst hs; exact ih37 (k + 1) (by omega) (by omega)
              refine r_iload hV dX12_within_37 rfl ?_
              refine r_aload_n hV dX12_within_39 rfl rfl ?_
              refine r_getI hV dX12_within_40 fl_X12_111 (by first | decide | omega) (by first | rfl | assumption) (by first | assumption | rfl) ?_
              refine s_icmp_ge hV 77 dX12_within_43 (by decide) (by unfold z_rg; first | omega | (split <;> omega)) (by unfold z_rg; first | omega | (split <;> omega)) (fun c43 => ?_) (fun c43 => ?_)
              · rw [show k = e by omega]
                have hst : f_mww H x e t s + zit (f_wg x s) e (if H s ≤ t then (1 : Int) else 0) = f_mww H x e t (s + 1) := by
                  unfold f_mww
                  rw [zsum]
                  unfold f_gW
                  rw [Int.toNat_natCast]
                  by_cases q : H s ≤ t
                  · rw [if_pos q, if_pos q]
                  · rw [if_neg q, if_neg q, f_wg_0]
                refine r_lload_n hV dX12_within_77 rfl ?_
                refine r_lload hV dX12_within_78 rfl ?_
                refine s_ladd hV dX12_within_80 ?_
                rw [hst]
                refine r_lstore_n hV dX12_within_81 (Nat.le_of_ble_eq_true rfl) (z_st2_9_3 rfl) ?_
                refine s_iinc hV dX12_within_82 rfl (z_st1_9_5 rfl) ?_
                refine r_goto hV 5 dX12_within_85 (by decide) ?_
                refine r_kill hV 6 z_stk_9_6 ?_
                refine r_kill hV 8 z_stk_9_8 ?_
                exact ih5 (s + 1) (by omega) (by omega)
              · refine r_lload hV dX12_within_46 rfl ?_
                refine r_iload hV dX12_within_48 rfl ?_
                refine r_iload hV dX12_within_50 rfl ?_
                refine q_is2v hV dX12_within_52 ms_X12_180 (n_has I J P s k (by omega) (by omega)) (by decide) (Nat.le_refl _) (Nat.le_of_ble_eq_true rfl) ?_
                refine s_if_eq hV 63 dX12_within_55 (by decide) (by unfold z_rg; first | omega | (split <;> omega)) (fun c55 => ?_) (fun c55 => ?_)
                · have hb55 := z_ite0 c55
                  refine s_bipush hV dX12_within_63 (10) (by decide) ?_
                  refine r_iload_n hV dX12_within_65 rfl ?_
                  refine s_isub hV dX12_within_66 ?_
                  refine s_i2l hV dX12_within_67 (by unfold z_rg; first | omega | (split <;> omega)) ?_
                  refine s_lmul hV dX12_within_68 ?_
                  refine r_lstore hV dX12_within_69 (Nat.le_of_ble_eq_true rfl) (z_st2_9_6 rfl) ?_
                  refine s_iinc hV dX12_within_71 rfl (z_st1_9_8 rfl) ?_
                  refine r_goto hV 37 dX12_within_74 (by decide) ?_
                  refine hnx _ (by rw [zit, f_wg]; first | rw [if_pos hb55] | rw [if_neg hb55]) (by omega)
                · have hb55 := z_ite1 c55
                  refine r_iload_n hV dX12_within_58 rfl ?_
                  refine s_i2l hV dX12_within_59 (by unfold z_rg; first | omega | (split <;> omega)) ?_
                  refine r_goto hV 68 dX12_within_60 (by decide) ?_
                  refine s_lmul hV dX12_within_68 ?_
                  refine r_lstore hV dX12_within_69 (Nat.le_of_ble_eq_true rfl) (z_st2_9_6 rfl) ?_
                  refine s_iinc hV dX12_within_71 rfl (z_st1_9_8 rfl) ?_
                  refine r_goto hV 37 dX12_within_74 (by decide) ?_
                  refine hnx _ (by rw [zit, f_wg]; first | rw [if_pos hb55] | rw [if_neg hb55]) (by omega)
          exact L37 (e + 1) 0 (by omega) (by omega)
        refine r_aload_n hV dX12_within_16 rfl rfl ?_
        refine r_getR hV dX12_within_17 fl_X12_57 (by first | decide | omega) (by first | rfl | assumption) o30 ?_
        refine r_iload hV dX12_within_20 rfl ?_
        refine s_iaload hV dX12_within_22 (by first | decide | omega) (by first | rfl | assumption) (by decide) (by omega) (by omega) (show I 93 ((s : Int)).toNat = iI (H s) from by rw [Int.toNat_natCast]; exact hT s (by omega)) ?_
        have hHs := hH s (by omega)
        refine r_iload_n hV dX12_within_23 rfl ?_
        refine s_icmp_gt hV 31 dX12_within_24 (by decide) (by unfold z_rg; first | omega | (split <;> omega)) (by unfold z_rg; first | omega | (split <;> omega)) (fun c24 => ?_) (fun c24 => ?_)
        · refine s_lconst hV dX12_within_31 (0) (by decide) ?_
          first
            | (rw [if_pos (by omega)] at J32; exact J32)
            | (rw [if_neg (by omega)] at J32; exact J32)
        · refine s_lconst hV dX12_within_27 (1) (by decide) ?_
          refine r_goto hV 32 dX12_within_28 (by decide) ?_
          first
            | (rw [if_pos (by omega)] at J32; exact J32)
            | (rw [if_neg (by omega)] at J32; exact J32)
  exact L5 (2 ^ e + 1) 0 (by omega) (by omega)

set_option maxRecDepth 20000 in
theorem n_whole (I : zI) (J : zJ) (P : zP) (hM : mK P) (e : Nat) (h8 : I 78 8 = iI (e : Int)) (he6 : e ≤ 6) : z_Fn 0 yX12_whole cX12_whole 4 (some .long) 108 108 I J P [.ref 78] (some (.long (lI (10 ^ e)))) (I) (J) (P) := by
  obtain ⟨o1, o7, o9, o10, o11, o16, o17, o18, o19, o20, o25, o26, o28, o29, o30, o31, o36, o37, o38, o39, o40, o41, o42, o43, o44, o45, o46, o47, o48⟩ := id hM
  refine z_met false (by decide +kernel) (fun h => by cases h) (Nat.le_of_ble_eq_true rfl) (by first | decide | omega) (fun V hV => ?_)
  show V 108 I J P 0 [.ref 78, .null, .null, .null] []
  refine s_lconst hV dX12_whole_0 (1) (by decide) ?_
  refine r_lstore_n hV dX12_whole_1 (Nat.le_of_ble_eq_true rfl) (z_st2_4_1 rfl) ?_
  refine s_iconst hV dX12_whole_2 (0) (by decide) ?_
  refine r_istore_n hV dX12_whole_3 (Nat.le_of_ble_eq_true rfl) (z_st1_4_3 rfl) ?_
  have L4 : ∀ (k4 j : Nat), e - j < k4 → j ≤ e → V 108 I J P 4 [.ref 78, .long (lI (10 ^ j)), .null, .int (iI (j : Int))] [] := by
    intro k4
    induction k4 with
    | zero => intro j  hk1 hk2; omega
    | succ k4 ih4 =>
      intro j  hk4 hl4 
      refine r_iload_n hV dX12_whole_4 rfl ?_
      refine r_aload_n hV dX12_whole_5 rfl rfl ?_
      refine r_getI hV dX12_whole_6 fl_X12_111 (by first | decide | omega) (by first | rfl | assumption) (by first | assumption | rfl) ?_
      refine s_icmp_ge hV 24 dX12_whole_9 (by decide) (by unfold z_rg; first | omega | (split <;> omega)) (by unfold z_rg; first | omega | (split <;> omega)) (fun c9 => ?_) (fun c9 => ?_)
      · refine r_lload_n hV dX12_whole_24 rfl ?_
        refine r_lret hV dX12_whole_25 rfl rfl ?_
        rw [show j = e by omega]
        exact ⟨rfl, rfl, rfl, rfl⟩
      · refine r_lload_n hV dX12_whole_12 rfl ?_
        refine s_ldc2_w hV dX12_whole_13 cl_X12_259 (10) (by decide) ?_
        refine s_lmul hV dX12_whole_16 ?_
        refine r_lstore_n hV dX12_whole_17 (Nat.le_of_ble_eq_true rfl) (z_st2_4_1 rfl) ?_
        refine s_iinc hV dX12_whole_18 rfl (z_st1_4_3 rfl) ?_
        refine r_goto hV 4 dX12_whole_21 (by decide) ?_
        rw [← Int.pow_succ]
        exact ih4 (j + 1) (by omega) (by omega)
  exact L4 (e + 1) 0 (by omega) (by omega)

set_option maxRecDepth 20000 in
theorem n_divisor (I : zI) (J : zJ) (P : zP) (a b : Nat) (ha : a ≤ 100000000) (hb : b ≤ 100000000) : z_Fn 0 yX12_divisor cX12_divisor 10 (some .long) 108 108 I J P [.long (lI (a : Int)), .long (lI (b : Int))] (some (.long (lI ((Nat.gcd a b : Nat) : Int)))) (I) (J) (P) := by
  refine z_met false (by decide +kernel) (fun h => by cases h) (Nat.le_of_ble_eq_true rfl) (by first | decide | omega) (fun V hV => ?_)
  show V 108 I J P 0 [.long (lI (a : Int)), .null, .long (lI (b : Int)), .null, .null, .null, .null, .null, .null, .null] []
  refine r_lload_n hV dX12_divisor_0 rfl ?_
  refine r_lstore hV dX12_divisor_1 (Nat.le_of_ble_eq_true rfl) (z_st2_10_4 rfl) ?_
  refine r_lload_n hV dX12_divisor_3 rfl ?_
  refine r_lstore hV dX12_divisor_4 (Nat.le_of_ble_eq_true rfl) (z_st2_10_6 rfl) ?_
  have L6 : ∀ (k : Nat) (p q : Nat), q < k → p ≤ 100000000 → q ≤ 100000000 → Nat.gcd p q = Nat.gcd a b → V 108 I J P 6 [.long (lI (a : Int)), .null, .long (lI (b : Int)), .null, .long (lI (p : Int)), .null, .long (lI (q : Int)), .null, .null, .null] [] := by
    intro k
    induction k with
    | zero => intro p q h; omega
    | succ k ih6 =>
      intro p q hk hp hq hg
      refine r_lload hV dX12_divisor_6 rfl ?_
      refine s_lconst hV dX12_divisor_8 (0) (by decide) ?_
      refine s_lcmp hV dX12_divisor_9 (by unfold z_rgL; omega) (by unfold z_rgL; omega) ?_
      refine s_if_eq hV 31 dX12_divisor_10 (by decide) (z_cmp_rg _ _) (fun c10 => ?_) (fun c10 => ?_)
      · have hq0 := z_cmp_eq.mp c10
        refine r_lload hV dX12_divisor_31 rfl ?_
        refine r_lret hV dX12_divisor_33 rfl rfl ?_
        refine ⟨?_, rfl, rfl, rfl⟩
        rw [← hg, show q = 0 by omega, Nat.gcd_zero_right]
      · have hq0 : ¬ (q : Int) = 0 := fun h => c10 (z_cmp_eq.mpr h)
        refine r_lload hV dX12_divisor_13 rfl ?_
        refine r_lload hV dX12_divisor_15 rfl ?_
        refine s_lrem hV dX12_divisor_17 (by unfold z_rgL; omega) (by unfold z_rgL; omega) (by omega) (by omega) ?_
        rw [show (p : Int) % (q : Int) = ((p % q : Nat) : Int) from rfl]
        refine r_lstore hV dX12_divisor_18 (Nat.le_of_ble_eq_true rfl) (z_st2_10_8 rfl) ?_
        refine r_lload hV dX12_divisor_20 rfl ?_
        refine r_lstore hV dX12_divisor_22 (Nat.le_of_ble_eq_true rfl) (z_st2_10_4 rfl) ?_
        refine r_lload hV dX12_divisor_24 rfl ?_
        refine r_lstore hV dX12_divisor_26 (Nat.le_of_ble_eq_true rfl) (z_st2_10_6 rfl) ?_
        refine r_goto hV 6 dX12_divisor_28 (by decide) ?_
        refine r_kill hV 8 z_stk_10_8 ?_
        exact ih6 q (p % q) (by have := Nat.mod_lt p (show 0 < q by omega); omega) hq (by have := Nat.mod_lt p (show 0 < q by omega); omega) (by rw [← hg, Nat.gcd_comm q (p % q), ← Nat.gcd_rec, Nat.gcd_comm q p])
  exact L6 (b + 1) a b (by omega) ha hb rfl

/-- of the ERRANDS that come, how often they cost t at most -/
def f_mwi (e : Nat) (F W : Int → Int) (x t : Int) : Int := f_mww (f_mt (mF F) W (fun _ => 2) 0 0 0 e) x e t (2 ^ e)
def f_mch (e : Nat) (F W : Int → Int) (x t u : Int) : Int := if x < 0 ∨ 10 < x ∨ t < 0 ∨ 999 < t then -2 else if u = 0 then 10 ^ e / ((Nat.gcd (f_mwi e F W x t).toNat (10 ^ e) : Nat) : Int) else f_mwi e F W x t / ((Nat.gcd (f_mwi e F W x t).toNat (10 ^ e) : Nat) : Int)
def q_mgs (I : zI) (J : zJ) (P : zP) (tl st r c : Int) (n e : Nat) (T F W U K S : Int → Int) (a : Value) (v : Option Value) (I1 : zI) (J1 : zJ) (P1 : zP) : Prop := v = some a ∧ J1 = J ∧ P1 = P ∧ mI I1 tl st r c n e T F W U K S ∧ (∀ q, q ≠ 78 → q ≠ 83 → q ≠ 87 → q ≠ 93 → q ≠ 94 → I1 q = I q) ∧ ∀ k, k ≠ 0 → I1 78 k = I 78 k
/-- the least steps: none below does, and they do -/
def f_msok (e : Nat) (F W : Int → Int) (x y t : Int) : Prop := y * 10 ^ e ≤ 100 * f_mwi e F W x t
def q_msp (I : zI) (J : zJ) (P : zP) (tl st r c : Int) (n e : Nat) (T F W U K S : Int → Int) (x y : Int) (v : Option Value) (I1 : zI) (J1 : zJ) (P1 : zP) : Prop := ∃ a : Int, q_mgs I J P tl st r c n e T F W U K S (.int (iI a)) v I1 J1 P1 ∧ if x < 0 ∨ 10 < x ∨ y < 0 ∨ 100 < y then a = -2 else ((0 ≤ a ∧ a < 1000 ∧ f_msok e F W x y a ∧ ∀ t, 0 ≤ t → t < a → ¬ f_msok e F W x y t) ∨ (a = -9 ∧ ∀ t, 0 ≤ t → t < 1000 → ¬ f_msok e F W x y t))
set_option maxRecDepth 20000 in
theorem n_chance (I : zI) (J : zJ) (P : zP) (hM : mK P) (tl st r c : Int) (n e : Nat) (T F W U K S : Int → Int) (hI : mI I tl st r c n e T F W U K S) (hnb : 2 ≤ n ∧ n ≤ 6) (he6 : e ≤ 6) (hFd : zD F) (hWb : z_bd W e 0 (n - 1)) (x : Int) (hx : z_rg x) (t : Int) (ht : z_rg t) (u : Int) (hu : z_rg u) : z_Sp 4 yX12_chance cX12_chance 8 (some .long) 108 108 I J P [.ref 78, .int (iI x), .int (iI t), .int (iI u)] (q_mgs I J P tl st r c n e T F W U K S (.long (lI (f_mch e F W x t u)))) := by
  obtain ⟨o1, o7, o9, o10, o11, o16, o17, o18, o19, o20, o25, o26, o28, o29, o30, o31, o36, o37, o38, o39, o40, o41, o42, o43, o44, o45, o46, o47, o48⟩ := id hM
  have hx1 := hx.1
  have hx2 := hx.2
  have ht1 := ht.1
  have ht2 := ht.2
  have hu1 := hu.1
  have hu2 := hu.2
  refine z_met false (by decide +kernel) (fun h => by cases h) (Nat.le_of_ble_eq_true rfl) (by first | decide | omega) (fun V hV => ?_)
  show V 108 I J P 0 [.ref 78, .int (iI x), .int (iI t), .int (iI u), .null, .null, .null, .null] []
  refine r_aload_n hV dX12_chance_0 rfl rfl ?_
  refine s_iconst hV dX12_chance_1 (0) (by decide) ?_
  refine r_putI hV dX12_chance_2 fl_X12_104 (pf_X12_104 _) (z_okI_int rfl _) (by first | decide | omega) (by first | rfl | assumption) ?_
  generalize hI0e : zu I 78 (zu (I 78) 0 (iI 0)) = I0
  have t0 : ∀ q, q ≠ 78 → I0 q = I q := fun q h => by rw [← hI0e, zu_n _ _ h]
  have t1 : ∀ k, k ≠ 0 → I0 78 k = I 78 k := fun k h => by rw [← hI0e, zu_s, zu_n _ _ h]
  clear hI0e
  have hI0 := mI_fr hI t0 t1
  obtain ⟨⟨i20, i40, i50, i60, i80, i210, i220, i230, i240, i270⟩, zT0, zF0, zW0, zU0, zK0, zA0, zN0⟩ := id hI0
  refine r_iload_n hV dX12_chance_5 rfl ?_
  refine s_i2l hV dX12_chance_6 (by unfold z_rg; first | omega | (split <;> omega)) ?_
  refine s_lconst hV dX12_chance_7 (0) (by decide) ?_
  refine s_ldc2_w hV dX12_chance_8 cl_X12_259 (10) (by decide) ?_
  refine q_is3v hV dX12_chance_11 ms_X12_107 (n_in I0 J P (x) (0) (10) (by unfold z_rgL; omega) (by unfold z_rgL; omega) (by unfold z_rgL; omega)) (by decide) (Nat.le_refl _) (Nat.le_of_ble_eq_true rfl) ?_
  refine s_if_eq hV 29 dX12_chance_14 (by decide) (by unfold z_rg; first | omega | (split <;> omega)) (fun c14 => ?_) (fun c14 => ?_)
  · refine s_ldc2_w hV dX12_chance_29 cl_X12_254 (-2) (by decide) ?_
    refine r_lret hV dX12_chance_32 rfl rfl ?_
    refine ⟨?_, rfl, rfl, hI0, fun q a _ _ _ _ => t0 q a, t1⟩
    unfold f_mch
    rw [if_pos (by omega)]
  · refine r_iload_n hV dX12_chance_17 rfl ?_
    refine s_i2l hV dX12_chance_18 (by unfold z_rg; first | omega | (split <;> omega)) ?_
    refine s_lconst hV dX12_chance_19 (0) (by decide) ?_
    refine s_ldc2_w hV dX12_chance_20 cl_X12_252 (999) (by decide) ?_
    refine q_is3v hV dX12_chance_23 ms_X12_107 (n_in I0 J P (t) (0) (999) (by unfold z_rgL; omega) (by unfold z_rgL; omega) (by unfold z_rgL; omega)) (by decide) (Nat.le_refl _) (Nat.le_of_ble_eq_true rfl) ?_
    refine s_if_ne hV 33 dX12_chance_26 (by decide) (by unfold z_rg; first | omega | (split <;> omega)) (fun c26 => ?_) (fun c26 => ?_)
    · refine r_aload_n hV dX12_chance_33 rfl rfl ?_
      refine r_iv0 hV dX12_chance_34 mv_X12_261 (n_layAll I0 J P hM n e i80 he6 hnb F W K zF0 hFd zW0 hWb zK0) (by first | decide | omega) (by first | rfl | assumption) (by decide) (Nat.le_refl _) (Nat.le_of_ble_eq_true rfl) (fun v2 I2 J2 P2 hq => ?_)
      obtain ⟨rfl, ej, ep, zK2, hT, zf⟩ := hq
      rw [ej, ep]
      show V 108 I2 J P _ _ []
      clear ej ep
      have g78 : I2 78 = I0 78 := zf 78 (by omega) (by omega) (by omega) (by omega)
      have hH : ∀ s, s < 64 → 0 ≤ f_mt (mF F) W (fun _ => 2) 0 0 0 e s ∧ f_mt (mF F) W (fun _ => 2) 0 0 0 e s ≤ 99999 := fun s hs => f_mt_b (mF_b hFd) hWb hnb.2 he6 (by omega) (by omega) hs
      have i82 : I2 78 8 = iI (e : Int) := by rw [g78]; exact i80
      have hI2 : mI I2 tl st r c n e T F W U K S := by
        obtain ⟨p1, p2, p3, p4, p5, p6, p7, p8⟩ := hI0
        rw [← g78] at p1
        exact ⟨p1, z_ar_fr p2 (zf _ (by omega) (by omega) (by omega) (by omega)), z_ar_fr p3 (zf _ (by omega) (by omega) (by omega) (by omega)), z_ar_fr p4 (zf _ (by omega) (by omega) (by omega) (by omega)), z_ar_fr p5 (zf _ (by omega) (by omega) (by omega) (by omega)), zK2, z_ar_fr p7 (zf _ (by omega) (by omega) (by omega) (by omega)), z_ar_fr p8 (zf _ (by omega) (by omega) (by omega) (by omega))⟩
      have hfr : ∀ q, q ≠ 78 → q ≠ 83 → q ≠ 87 → q ≠ 93 → q ≠ 94 → I2 q = I q := fun q a b c g h => (zf q b c g h).trans (t0 q a)
      have hkr : ∀ k, k ≠ 0 → I2 78 k = I 78 k := fun k a => (congrFun g78 k).trans (t1 k a)
      have h10 := z_p10 he6
      refine r_aload_n hV dX12_chance_37 rfl rfl ?_
      refine r_iload_n hV dX12_chance_38 rfl ?_
      refine r_iload_n hV dX12_chance_39 rfl ?_
      refine q_iv2v hV dX12_chance_40 mv_X12_264 (n_within I2 J P hM e i82 he6 (f_mt (mF F) W (fun _ => 2) 0 0 0 e) hT hH x (t) (by omega) (by omega)) (by first | decide | omega) (by first | rfl | assumption) (by decide) (Nat.le_refl _) (Nat.le_of_ble_eq_true rfl) ?_
      rw [show f_mww (f_mt (mF F) W (fun _ => 2) 0 0 0 e) x e (t) (2 ^ e) = f_mwi e F W x (t) from rfl]
      have hwb : 0 ≤ f_mwi e F W x (t) ∧ f_mwi e F W x (t) ≤ 64000000 := f_mww_b (by omega) he6 _ (z_pn he6)
      refine r_lstore hV dX12_chance_43 (Nat.le_of_ble_eq_true rfl) (z_st2_8_4 rfl) ?_
      refine r_lload hV dX12_chance_45 rfl ?_
      refine r_aload_n hV dX12_chance_47 rfl rfl ?_
      refine q_iv0v hV dX12_chance_48 mv_X12_268 (n_whole I2 J P hM e i82 he6) (by first | decide | omega) (by first | rfl | assumption) (by decide) (Nat.le_refl _) (Nat.le_of_ble_eq_true rfl) ?_
      obtain ⟨up, hup⟩ := Int.eq_ofNat_of_zero_le hwb.1
      have h10n : ((10 ^ e : Nat) : Int) = 10 ^ e := by simp
      rw [← h10n, hup]
      have hgp : 0 < Nat.gcd up (10 ^ e) := Nat.gcd_pos_of_pos_right _ (Nat.pow_pos (by decide))
      have hgl : Nat.gcd up (10 ^ e) ≤ 10 ^ e := Nat.le_of_dvd (Nat.pow_pos (by decide)) (Nat.gcd_dvd_right _ _)
      refine q_is2v hV dX12_chance_51 ms_X12_272 (n_divisor I2 J P up (10 ^ e) (by omega) (by omega)) (by decide) (Nat.le_refl _) (Nat.le_of_ble_eq_true rfl) ?_
      refine r_lstore hV dX12_chance_54 (Nat.le_of_ble_eq_true rfl) (z_st2_8_6 rfl) ?_
      refine r_iload_n hV dX12_chance_56 rfl ?_
      refine s_if_eq hV 68 dX12_chance_57 (by decide) (by unfold z_rg; first | omega | (split <;> omega)) (fun c57 => ?_) (fun c57 => ?_)
      · refine r_aload_n hV dX12_chance_68 rfl rfl ?_
        refine q_iv0v hV dX12_chance_69 mv_X12_268 (n_whole I2 J P hM e i82 he6) (by first | decide | omega) (by first | rfl | assumption) (by decide) (Nat.le_refl _) (Nat.le_of_ble_eq_true rfl) ?_
        rw [← h10n]
        refine r_lload hV dX12_chance_72 rfl ?_
        refine s_ldiv hV dX12_chance_74 (by unfold z_rgL; omega) (by unfold z_rgL; omega) (by omega) (by omega) ?_
        refine r_lret hV dX12_chance_75 rfl rfl ?_
        refine ⟨?_, rfl, rfl, hI2, hfr, hkr⟩
        unfold f_mch
        rw [if_neg (by omega), hup, Int.toNat_natCast, ← h10n]
        first | rw [if_pos (by omega)] | rw [if_neg (by omega)]
      · refine r_lload hV dX12_chance_60 rfl ?_
        refine r_lload hV dX12_chance_62 rfl ?_
        refine s_ldiv hV dX12_chance_64 (by unfold z_rgL; omega) (by unfold z_rgL; omega) (by omega) (by omega) ?_
        refine r_goto hV 75 dX12_chance_65 (by decide) ?_
        refine r_lret hV dX12_chance_75 rfl rfl ?_
        refine ⟨?_, rfl, rfl, hI2, hfr, hkr⟩
        unfold f_mch
        rw [if_neg (by omega), hup, Int.toNat_natCast, ← h10n]
        first | rw [if_pos (by omega)] | rw [if_neg (by omega)]
    · refine s_ldc2_w hV dX12_chance_29 cl_X12_254 (-2) (by decide) ?_
      refine r_lret hV dX12_chance_32 rfl rfl ?_
      refine ⟨?_, rfl, rfl, hI0, fun q a _ _ _ _ => t0 q a, t1⟩
      unfold f_mch
      rw [if_pos (by omega)]

set_option maxRecDepth 20000 in
theorem n_spare (I : zI) (J : zJ) (P : zP) (hM : mK P) (tl st r c : Int) (n e : Nat) (T F W U K S : Int → Int) (hI : mI I tl st r c n e T F W U K S) (hnb : 2 ≤ n ∧ n ≤ 6) (he6 : e ≤ 6) (hFd : zD F) (hWb : z_bd W e 0 (n - 1)) (x : Int) (hx : z_rg x) (y : Int) (hy : z_rg y) : z_Sp 4 yX12_spare cX12_spare 4 (some .int) 108 108 I J P [.ref 78, .int (iI x), .int (iI y)] (q_msp I J P tl st r c n e T F W U K S x y) := by
  obtain ⟨o1, o7, o9, o10, o11, o16, o17, o18, o19, o20, o25, o26, o28, o29, o30, o31, o36, o37, o38, o39, o40, o41, o42, o43, o44, o45, o46, o47, o48⟩ := id hM
  have hx1 := hx.1
  have hx2 := hx.2
  have hy1 := hy.1
  have hy2 := hy.2
  refine z_met false (by decide +kernel) (fun h => by cases h) (Nat.le_of_ble_eq_true rfl) (by first | decide | omega) (fun V hV => ?_)
  show V 108 I J P 0 [.ref 78, .int (iI x), .int (iI y), .null] []
  refine r_aload_n hV dX12_spare_0 rfl rfl ?_
  refine s_iconst hV dX12_spare_1 (0) (by decide) ?_
  refine r_putI hV dX12_spare_2 fl_X12_104 (pf_X12_104 _) (z_okI_int rfl _) (by first | decide | omega) (by first | rfl | assumption) ?_
  generalize hI0e : zu I 78 (zu (I 78) 0 (iI 0)) = I0
  have t0 : ∀ q, q ≠ 78 → I0 q = I q := fun q h => by rw [← hI0e, zu_n _ _ h]
  have t1 : ∀ k, k ≠ 0 → I0 78 k = I 78 k := fun k h => by rw [← hI0e, zu_s, zu_n _ _ h]
  clear hI0e
  have hI0 := mI_fr hI t0 t1
  obtain ⟨⟨i20, i40, i50, i60, i80, i210, i220, i230, i240, i270⟩, zT0, zF0, zW0, zU0, zK0, zA0, zN0⟩ := id hI0
  refine r_iload_n hV dX12_spare_5 rfl ?_
  refine s_i2l hV dX12_spare_6 (by unfold z_rg; first | omega | (split <;> omega)) ?_
  refine s_lconst hV dX12_spare_7 (0) (by decide) ?_
  refine s_ldc2_w hV dX12_spare_8 cl_X12_259 (10) (by decide) ?_
  refine q_is3v hV dX12_spare_11 ms_X12_107 (n_in I0 J P (x) (0) (10) (by unfold z_rgL; omega) (by unfold z_rgL; omega) (by unfold z_rgL; omega)) (by decide) (Nat.le_refl _) (Nat.le_of_ble_eq_true rfl) ?_
  refine s_if_eq hV 29 dX12_spare_14 (by decide) (by unfold z_rg; first | omega | (split <;> omega)) (fun c14 => ?_) (fun c14 => ?_)
  · refine s_bipush hV dX12_spare_29 (-2) (by decide) ?_
    refine r_iret hV dX12_spare_31 rfl rfl ?_
    exact ⟨-2, ⟨rfl, rfl, rfl, hI0, fun q a _ _ _ _ => t0 q a, t1⟩, by rw [if_pos (by omega)]⟩
  · refine r_iload_n hV dX12_spare_17 rfl ?_
    refine s_i2l hV dX12_spare_18 (by unfold z_rg; first | omega | (split <;> omega)) ?_
    refine s_lconst hV dX12_spare_19 (0) (by decide) ?_
    refine s_ldc2_w hV dX12_spare_20 cl_X12_276 (100) (by decide) ?_
    refine q_is3v hV dX12_spare_23 ms_X12_107 (n_in I0 J P (y) (0) (100) (by unfold z_rgL; omega) (by unfold z_rgL; omega) (by unfold z_rgL; omega)) (by decide) (Nat.le_refl _) (Nat.le_of_ble_eq_true rfl) ?_
    refine s_if_ne hV 32 dX12_spare_26 (by decide) (by unfold z_rg; first | omega | (split <;> omega)) (fun c26 => ?_) (fun c26 => ?_)
    · refine r_aload_n hV dX12_spare_32 rfl rfl ?_
      refine r_iv0 hV dX12_spare_33 mv_X12_261 (n_layAll I0 J P hM n e i80 he6 hnb F W K zF0 hFd zW0 hWb zK0) (by first | decide | omega) (by first | rfl | assumption) (by decide) (Nat.le_refl _) (Nat.le_of_ble_eq_true rfl) (fun v2 I2 J2 P2 hq => ?_)
      obtain ⟨rfl, ej, ep, zK2, hT, zf⟩ := hq
      rw [ej, ep]
      show V 108 I2 J P _ _ []
      clear ej ep
      have g78 : I2 78 = I0 78 := zf 78 (by omega) (by omega) (by omega) (by omega)
      have hH : ∀ s, s < 64 → 0 ≤ f_mt (mF F) W (fun _ => 2) 0 0 0 e s ∧ f_mt (mF F) W (fun _ => 2) 0 0 0 e s ≤ 99999 := fun s hs => f_mt_b (mF_b hFd) hWb hnb.2 he6 (by omega) (by omega) hs
      have i82 : I2 78 8 = iI (e : Int) := by rw [g78]; exact i80
      have hI2 : mI I2 tl st r c n e T F W U K S := by
        obtain ⟨p1, p2, p3, p4, p5, p6, p7, p8⟩ := hI0
        rw [← g78] at p1
        exact ⟨p1, z_ar_fr p2 (zf _ (by omega) (by omega) (by omega) (by omega)), z_ar_fr p3 (zf _ (by omega) (by omega) (by omega) (by omega)), z_ar_fr p4 (zf _ (by omega) (by omega) (by omega) (by omega)), z_ar_fr p5 (zf _ (by omega) (by omega) (by omega) (by omega)), zK2, z_ar_fr p7 (zf _ (by omega) (by omega) (by omega) (by omega)), z_ar_fr p8 (zf _ (by omega) (by omega) (by omega) (by omega))⟩
      have hfr : ∀ q, q ≠ 78 → q ≠ 83 → q ≠ 87 → q ≠ 93 → q ≠ 94 → I2 q = I q := fun q a b c g h => (zf q b c g h).trans (t0 q a)
      have hkr : ∀ k, k ≠ 0 → I2 78 k = I 78 k := fun k a => (congrFun g78 k).trans (t1 k a)
      have h10 := z_p10 he6
      refine s_iconst hV dX12_spare_36 (0) (by decide) ?_
      refine r_istore_n hV dX12_spare_37 (Nat.le_of_ble_eq_true rfl) (z_st1_4_3 rfl) ?_
      have L38 : ∀ (k38 j : Nat), 1000 - j < k38 → j ≤ 1000 → (∀ t : Int, 0 ≤ t → t < (j : Int) → ¬ f_msok e F W x y t) → V 108 I2 J P 38 [.ref 78, .int (iI x), .int (iI y), .int (iI (j : Int))] [] := by
        intro k38
        induction k38 with
        | zero => intro j  hk1 hk2; omega
        | succ k38 ih38 =>
          intro j  hk38 hl38 hno
          refine r_iload_n hV dX12_spare_38 rfl ?_
          refine s_sipush hV dX12_spare_39 (1000) (by decide) ?_
          refine s_icmp_ge hV 74 dX12_spare_42 (by decide) (by unfold z_rg; first | omega | (split <;> omega)) (by unfold z_rg; first | omega | (split <;> omega)) (fun c42 => ?_) (fun c42 => ?_)
          · refine s_bipush hV dX12_spare_74 (-9) (by decide) ?_
            refine r_iret hV dX12_spare_76 rfl rfl ?_
            refine ⟨-9, ⟨rfl, rfl, rfl, hI2, hfr, hkr⟩, ?_⟩
            rw [if_neg (by omega)]
            exact Or.inr ⟨rfl, fun t a b => hno t a (by omega)⟩
          · refine s_ldc2_w hV dX12_spare_45 cl_X12_276 (100) (by decide) ?_
            refine r_aload_n hV dX12_spare_48 rfl rfl ?_
            refine r_iload_n hV dX12_spare_49 rfl ?_
            refine r_iload_n hV dX12_spare_50 rfl ?_
            refine q_iv2v hV dX12_spare_51 mv_X12_264 (n_within I2 J P hM e i82 he6 (f_mt (mF F) W (fun _ => 2) 0 0 0 e) hT hH x ((j : Int)) (by omega) (by omega)) (by first | decide | omega) (by first | rfl | assumption) (by decide) (Nat.le_refl _) (Nat.le_of_ble_eq_true rfl) ?_
            rw [show f_mww (f_mt (mF F) W (fun _ => 2) 0 0 0 e) x e ((j : Int)) (2 ^ e) = f_mwi e F W x ((j : Int)) from rfl]
            have hwb : 0 ≤ f_mwi e F W x ((j : Int)) ∧ f_mwi e F W x ((j : Int)) ≤ 64000000 := f_mww_b (by omega) he6 _ (z_pn he6)
            refine s_lmul hV dX12_spare_54 ?_
            refine r_iload_n hV dX12_spare_55 rfl ?_
            refine s_i2l hV dX12_spare_56 (by unfold z_rg; first | omega | (split <;> omega)) ?_
            refine r_aload_n hV dX12_spare_57 rfl rfl ?_
            refine q_iv0v hV dX12_spare_58 mv_X12_268 (n_whole I2 J P hM e i82 he6) (by first | decide | omega) (by first | rfl | assumption) (by decide) (Nat.le_refl _) (Nat.le_of_ble_eq_true rfl) ?_
            refine s_lmul hV dX12_spare_61 ?_
            have hyb : 0 ≤ y * 10 ^ e ∧ y * 10 ^ e ≤ 100 * 1000000 := ⟨Int.mul_nonneg (by omega) (by omega), Int.mul_le_mul (by omega) h10.2 (by omega) (by omega)⟩
            refine s_lcmp hV dX12_spare_62 (by unfold z_rgL; omega) (by unfold z_rgL; omega) ?_
            refine s_if_lt hV 68 dX12_spare_63 (by decide) (z_cmp_rg _ _) (fun c63 => ?_) (fun c63 => ?_)
            · have hlt := z_cmp_lt.mp c63
              refine s_iinc hV dX12_spare_68 rfl (z_st1_4_3 rfl) ?_
              refine r_goto hV 38 dX12_spare_71 (by decide) ?_
              exact ih38 (j + 1) (by omega) (by omega) (fun t a b => by rcases (show t < (j : Int) ∨ t = (j : Int) by omega) with q | q; exact hno t a q; rw [q]; unfold f_msok; omega)
            · have hge : ¬ 100 * f_mwi e F W x (j : Int) < y * 10 ^ e := fun h => c63 (z_cmp_lt.mpr h)
              refine r_iload_n hV dX12_spare_66 rfl ?_
              refine r_iret hV dX12_spare_67 rfl rfl ?_
              refine ⟨(j : Int), ⟨rfl, rfl, rfl, hI2, hfr, hkr⟩, ?_⟩
              rw [if_neg (by omega)]
              exact Or.inl ⟨by omega, by omega, by unfold f_msok; omega, hno⟩
      exact L38 1001 0 (by omega) (by omega) (fun t a b => by omega)
    · refine s_bipush hV dX12_spare_29 (-2) (by decide) ?_
      refine r_iret hV dX12_spare_31 rfl rfl ?_
      exact ⟨-2, ⟨rfl, rfl, rfl, hI0, fun q a _ _ _ _ => t0 q a, t1⟩, by rw [if_pos (by omega)]⟩

