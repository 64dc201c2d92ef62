def f_p10 (k : Nat) : Nat := 10 ^ k
theorem f_p10_s {k : Nat} : f_p10 (k + 1) = f_p10 k * 10 := Nat.pow_succ ..
theorem f_p10_b {k : Nat} (h : k ≤ 8) : 1 ≤ f_p10 k ∧ f_p10 k ≤ 100000000 := by revert k; decide
theorem f_sh_p {R k : Nat} : f_sh R k = R / f_p10 k := rfl
theorem f_sh_z {R k : Nat} (h : k ≤ 8) : f_sh R k = 0 ↔ R < f_p10 k := by
  rw [f_sh_p]
  have := f_p10_b h
  exact Nat.div_eq_zero_iff_lt (by omega)
set_option maxRecDepth 20000 in
theorem n_judge (I : zI) (J : zJ) (P : zP) (hM : mK P) (tl st r c : Int) (n e : Nat) (T F W U K S : Int → Int) (hI : mI I tl st r c n e T F W U K S) (hnb : 2 ≤ n ∧ n ≤ 6) (hFd : zD F) (dn dh : Nat) (hg : cG n S dn dh) (w : Int) (hw : z_rg w) (N : Int) (hN : z_rg N) (x : Int) (hx : z_rg x) : z_Sp 3 yX12_judge cX12_judge 9 (some .int) 108 108 I J P [.ref 78, .int (iI w), .int (iI N), .int (iI x)] (q_mno I J P (f_judge n F S w N x)) := by
  obtain ⟨o1, o7, o9, o10, o11, o16, o17, o18, o19, o20, o25, o26, o28, o29, o30, o31, o36, o37, o38, o39, o40, o41, o42, o43, o44, o45, o46, o47, o48⟩ := id hM
  obtain ⟨g0, g1, g2, g3, g4, g5, g6, g7, g8⟩ := id hg
  have hw1 := hw.1
  have hw2 := hw.2
  have hN1 := hN.1
  have hN2 := hN.2
  have hx1 := hx.1
  have hx2 := hx.2
  have hpw := zpw_b w hg
  have hF6 := zD_bd hFd
  refine z_met false (by decide +kernel) (fun h => by cases h) (Nat.le_of_ble_eq_true rfl) (by first | decide | omega) (fun V hV => ?_)
  show V 108 I J P 0 [.ref 78, .int (iI w), .int (iI N), .int (iI x), .null, .null, .null, .null, .null] []
  refine r_aload_n hV dX12_judge_0 rfl rfl ?_
  refine s_iconst hV dX12_judge_1 (0) (by decide) ?_
  refine r_putI hV dX12_judge_2 fl_X12_104 (pf_X12_104 _) (z_okI_int rfl _) (by first | decide | omega) (by first | rfl | assumption) ?_
  generalize hI0e : zu I 78 (zu (I 78) 0 (iI 0)) = I0
  have t0 : ∀ q, q ≠ 78 → I0 q = I q := fun q h => by rw [← hI0e, zu_n _ _ h]
  have t1 : ∀ k, k ≠ 0 → I0 78 k = I 78 k := fun k h => by rw [← hI0e, zu_s, zu_n _ _ h]
  clear hI0e
  have hI0 := mI_fr hI t0 t1
  obtain ⟨⟨i20, i40, i50, i60, i80, i210, i220, i230, i240, i270⟩, zT0, zF0, zW0, zU0, zK0, zA0, zN0⟩ := id hI0
  refine r_iload_n hV dX12_judge_5 rfl ?_
  refine q_is1v hV dX12_judge_6 ms_X12_191 (n_noWalker I0 J P (w) (by unfold z_rg; omega)) (by decide) (Nat.le_refl _) (Nat.le_of_ble_eq_true rfl) ?_
  refine s_if_eq hV 14 dX12_judge_9 (by decide) (by unfold z_rg; first | omega | (split <;> omega)) (fun c9 => ?_) (fun c9 => ?_)
  · refine r_iload_n hV dX12_judge_14 rfl ?_
    refine s_i2l hV dX12_judge_15 (by unfold z_rg; first | omega | (split <;> omega)) ?_
    refine s_lconst hV dX12_judge_16 (1) (by decide) ?_
    refine s_ldc2_w hV dX12_judge_17 cl_X12_114 (8) (by decide) ?_
    refine q_is3v hV dX12_judge_20 ms_X12_107 (n_in I0 J P (N) (1) (8) (by unfold z_rgL; omega) (by unfold z_rgL; omega) (by unfold z_rgL; omega)) (by decide) (Nat.le_refl _) (Nat.le_of_ble_eq_true rfl) ?_
    refine s_if_ne hV 29 dX12_judge_23 (by decide) (by unfold z_rg; first | omega | (split <;> omega)) (fun c23 => ?_) (fun c23 => ?_)
    · obtain ⟨m, rfl⟩ := Int.eq_ofNat_of_zero_le (show 0 ≤ N by omega)
      refine s_iconst hV dX12_judge_29 (1) (by decide) ?_
      refine r_istore hV dX12_judge_30 (Nat.le_of_ble_eq_true rfl) (z_st1_9_4 rfl) ?_
      refine s_iconst hV dX12_judge_32 (0) (by decide) ?_
      refine r_istore hV dX12_judge_33 (Nat.le_of_ble_eq_true rfl) (z_st1_9_5 rfl) ?_
      have L35 : ∀ (k35 j : Nat), m - j < k35 → j ≤ m → V 108 I0 J P 35 [.ref 78, .int (iI w), .int (iI (m : Int)), .int (iI x), .int (iI ((f_p10 j : Nat) : Int)), .int (iI (j : Int)), .null, .null, .null] [] := by
        intro k35
        induction k35 with
        | zero => intro j  hk1 hk2; omega
        | succ k35 ih35 =>
          intro j  hk35 hl35 
          have h10 := f_p10_b (k := j) (by omega)
          refine r_iload hV dX12_judge_35 rfl ?_
          refine r_iload_n hV dX12_judge_37 rfl ?_
          refine s_icmp_ge hV 54 dX12_judge_38 (by decide) (by unfold z_rg; first | omega | (split <;> omega)) (by unfold z_rg; first | omega | (split <;> omega)) (fun c38 => ?_) (fun c38 => ?_)
          · have hjm : j = m := by omega
            subst hjm
            refine r_iload_n hV dX12_judge_54 rfl ?_
            refine s_i2l hV dX12_judge_55 (by unfold z_rg; first | omega | (split <;> omega)) ?_
            refine s_lconst hV dX12_judge_56 (0) (by decide) ?_
            refine r_iload hV dX12_judge_57 rfl ?_
            refine s_iconst hV dX12_judge_59 (1) (by decide) ?_
            refine s_isub hV dX12_judge_60 ?_
            refine s_i2l hV dX12_judge_61 (by unfold z_rg; first | omega | (split <;> omega)) ?_
            refine q_is3v hV dX12_judge_62 ms_X12_107 (n_in I0 J P x 0 (((f_p10 j : Nat) : Int) - 1) (by unfold z_rgL; omega) (by unfold z_rgL; omega) (by unfold z_rgL; omega)) (by decide) (Nat.le_refl _) (Nat.le_of_ble_eq_true rfl) ?_
            refine s_if_ne hV 71 dX12_judge_65 (by decide) (by unfold z_rg; first | omega | (split <;> omega)) (fun c65 => ?_) (fun c65 => ?_)
            · obtain ⟨R, rfl⟩ := Int.eq_ofNat_of_zero_le (show 0 ≤ x by omega)
              have hz0 := (f_sh_z (R := R) (k := j) (by omega)).mpr (by omega)
              obtain ⟨m, hm⟩ : ∃ m, m = j := ⟨j, rfl⟩
              subst hm
              refine r_aload_n hV dX12_judge_71 rfl rfl ?_
              refine r_getR hV dX12_judge_72 fl_X12_41 (by first | decide | omega) (by first | rfl | assumption) o20 ?_
              refine r_iload_n hV dX12_judge_75 rfl ?_
              refine s_iaload hV dX12_judge_76 (by first | decide | omega) (by first | rfl | assumption) (by decide) (by omega) (by omega) (show I0 88 w.toNat = iI (zpw S w) from (zA0 w (by omega) (by omega)).trans (congrArg iI (zpw_S (S := S) (by omega)))) ?_
              refine r_istore hV dX12_judge_77 (Nat.le_of_ble_eq_true rfl) (z_st1_9_5 rfl) ?_
              refine r_aload_n hV dX12_judge_79 rfl rfl ?_
              refine r_getI hV dX12_judge_80 fl_X12_165 (by first | decide | omega) (by first | rfl | assumption) i210 ?_
              refine r_istore hV dX12_judge_83 (Nat.le_of_ble_eq_true rfl) (z_st1_9_6 rfl) ?_
              refine s_iconst hV dX12_judge_85 (0) (by decide) ?_
              refine r_istore hV dX12_judge_86 (Nat.le_of_ble_eq_true rfl) (z_st1_9_7 rfl) ?_
              have L88 : ∀ (k88 j2 : Nat) (pl lf : Int), m - j2 < k88 → j2 ≤ m → (0 ≤ pl ∧ pl < n) → (0 ≤ lf ∧ lf ≤ 90000) → (f_jd n F (f_dg10 m R) m 0 (zpw S w) (S 2) = f_jd n F (f_dg10 m R) (m - j2) j2 pl lf) → V 108 I0 J P 88 [.ref 78, .int (iI w), .int (iI (m : Int)), .int (iI (R : Int)), .int (iI ((f_p10 (m - j2) : Nat) : Int)), .int (iI pl), .int (iI lf), .int (iI (j2 : Int)), .null] [] := by
                intro k88
                induction k88 with
                | zero => intro j2 pl lf  hk1 hk2; omega
                | succ k88 ih88 =>
                  intro j2 pl lf  hk88 hl88 hpl hlf hB
                  have h10 := f_p10_b (k := m - j2) (by omega)
                  refine r_iload hV dX12_judge_88 rfl ?_
                  refine r_iload_n hV dX12_judge_90 rfl ?_
                  refine s_icmp_ge hV 164 dX12_judge_91 (by decide) (by unfold z_rg; first | omega | (split <;> omega)) (by unfold z_rg; first | omega | (split <;> omega)) (fun c91 => ?_) (fun c91 => ?_)
                  · refine s_bipush hV dX12_judge_164 (-9) (by decide) ?_
                    refine r_iret hV dX12_judge_166 rfl rfl ?_
                    unfold f_judge
                    refine ⟨?_, rfl, rfl, t0, t1⟩
                    rw [if_neg (by omega), if_neg (by omega), Int.toNat_natCast, Int.toNat_natCast, if_neg (by omega), hB, show m - j2 = 0 by omega]
                    rfl
                  · refine r_iload hV dX12_judge_94 rfl ?_
                    refine s_bipush hV dX12_judge_96 (10) (by decide) ?_
                    refine s_idiv hV dX12_judge_98 (by unfold z_rg; first | omega | (split <;> omega)) (by unfold z_rg; first | omega | (split <;> omega)) (by omega) (by omega) ?_
                    have h1 : f_p10 (m - j2) = f_p10 (m - j2 - 1) * 10 := by rw [← f_p10_s, show m - j2 - 1 + 1 = m - j2 by omega]
                    have h2 := f_p10_b (k := m - j2 - 1) (by omega)
                    rw [show ((f_p10 (m - j2) : Nat) : Int) / 10 = ((f_p10 (m - j2 - 1) : Nat) : Int) by omega]
                    refine r_istore hV dX12_judge_99 (Nat.le_of_ble_eq_true rfl) (z_st1_9_4 rfl) ?_
                    refine r_iload_n hV dX12_judge_101 rfl ?_
                    refine r_iload hV dX12_judge_102 rfl ?_
                    refine s_idiv hV dX12_judge_104 (by unfold z_rg; first | omega | (split <;> omega)) (by unfold z_rg; first | omega | (split <;> omega)) (by omega) (by omega) ?_
                    have hdb := f_dg10_b (n := m) (R := R) (j2 : Int)
                    have hq : (R : Int) / ((f_p10 (m - j2 - 1) : Nat) : Int) = ((f_sh R (m - 1 - j2) : Nat) : Int) := by rw [f_sh_p, show m - 1 - j2 = m - j2 - 1 by omega]; rfl
                    have hql := f_sh_le (R := R) (j := m - 1 - j2)
                    rw [hq]
                    refine s_bipush hV dX12_judge_105 (10) (by decide) ?_
                    refine s_irem hV dX12_judge_107 (by unfold z_rg; first | omega | (split <;> omega)) (by unfold z_rg; first | omega | (split <;> omega)) (by omega) (by omega) ?_
                    have hdg : ((f_sh R (m - 1 - j2) : Nat) : Int) % 10 = f_dg10 m R (j2 : Int) := by unfold f_dg10; rw [Int.toNat_natCast]; rfl
                    rw [hdg]
                    refine r_istore hV dX12_judge_108 (Nat.le_of_ble_eq_true rfl) (z_st1_9_8 rfl) ?_
                    refine r_aload_n hV dX12_judge_110 rfl rfl ?_
                    refine r_iload hV dX12_judge_111 rfl ?_
                    refine q_iv1v hV dX12_judge_113 mv_X12_194 (n_noPlace I0 J P n i40 (by omega) (f_dg10 m R (j2 : Int)) (by unfold z_rg; omega)) (by first | decide | omega) (by first | rfl | assumption) (by decide) (Nat.le_refl _) (Nat.le_of_ble_eq_true rfl) ?_
                    refine s_if_ne hV 133 dX12_judge_116 (by decide) (by unfold z_rg; first | omega | (split <;> omega)) (fun c116 => ?_) (fun c116 => ?_)
                    · have hno : f_wc n F pl (f_dg10 m R (j2 : Int)) = 1000000 := by unfold f_wc; split; rfl; rw [if_neg (by omega)]
                      refine r_iload hV dX12_judge_133 rfl ?_
                      refine r_iret hV dX12_judge_135 rfl rfl ?_
                      unfold f_judge
                      refine ⟨?_, rfl, rfl, t0, t1⟩
                      rw [if_neg (by omega), if_neg (by omega), Int.toNat_natCast, Int.toNat_natCast, if_neg (by omega), hB, show m - j2 = (m - (j2 + 1)) + 1 by omega, f_jd, if_pos (by omega)]
                    · refine r_aload_n hV dX12_judge_119 rfl rfl ?_
                      refine r_iload hV dX12_judge_120 rfl ?_
                      refine r_iload hV dX12_judge_122 rfl ?_
                      refine s_iconst hV dX12_judge_124 (1) (by decide) ?_
                      refine r_iload hV dX12_judge_125 rfl ?_
                      refine q_iv4v hV dX12_judge_127 mv_X12_204 (n_mayWalk I0 J P hM n hnb F zF0 hFd pl (f_dg10 m R (j2 : Int)) 1 lf hpl (by omega) (by omega) (by omega)) (by first | decide | omega) (by first | rfl | assumption) (by decide) (Nat.le_refl _) (Nat.le_of_ble_eq_true rfl) ?_
                      refine s_if_ne hV 136 dX12_judge_130 (by decide) (by unfold z_rg; first | omega | (split <;> omega)) (fun c130 => ?_) (fun c130 => ?_)
                      · have hcb := f_wc_b (n := n) (a := pl) (b := f_dg10 m R (j2 : Int)) hnb.2 hF6
                        have hcb := f_wc_b (n := n) (a := pl) (b := f_dg10 m R (j2 : Int)) hnb.2 hF6
                        have hfe : F (pl * 6 + f_dg10 m R (j2 : Int)) = F (6 * pl + f_dg10 m R (j2 : Int)) := congrArg F (by omega)
                        have hcost : mF F (6 * pl + f_dg10 m R (j2 : Int)) = f_wc n F pl (f_dg10 m R (j2 : Int)) := by
                          unfold mF f_wc
                          have hcc : f_wc n F pl (f_dg10 m R (j2 : Int)) ≤ lf := by omega
                          unfold f_wc at hcc
                          rw [hfe] at hcc ⊢
                          split at hcc
                          · omega
                          · next q =>
                            rw [if_pos (by omega)] at hcc
                            rw [if_neg q, if_pos (by omega), if_pos (by omega)]
                        refine r_iload hV dX12_judge_136 rfl ?_
                        refine r_aload_n hV dX12_judge_138 rfl rfl ?_
                        refine r_getR hV dX12_judge_139 fl_X12_17 (by first | decide | omega) (by first | rfl | assumption) o7 ?_
                        refine s_bipush hV dX12_judge_142 (6) (by decide) ?_
                        refine r_iload hV dX12_judge_144 rfl ?_
                        refine s_imul hV dX12_judge_146 ?_
                        refine r_iload hV dX12_judge_147 rfl ?_
                        refine s_iadd hV dX12_judge_149 ?_
                        refine s_iaload hV dX12_judge_150 (by first | decide | omega) (by first | rfl | assumption) (by decide) (by omega) (by omega) ((zF0 (6 * pl + f_dg10 m R (j2 : Int)) (by omega) (by omega)).trans (congrArg iI hcost)) ?_
                        refine s_isub hV dX12_judge_151 ?_
                        refine r_istore hV dX12_judge_152 (Nat.le_of_ble_eq_true rfl) (z_st1_9_6 rfl) ?_
                        refine r_iload hV dX12_judge_154 rfl ?_
                        refine r_istore hV dX12_judge_156 (Nat.le_of_ble_eq_true rfl) (z_st1_9_5 rfl) ?_
                        refine s_iinc hV dX12_judge_158 rfl (z_st1_9_7 rfl) ?_
                        refine r_goto hV 88 dX12_judge_161 (by decide) ?_
                        refine r_kill hV 8 z_stk_9_8 ?_
                        have hh := (ih88 (j2 + 1) (f_dg10 m R (j2 : Int)) (lf - f_wc n F pl (f_dg10 m R (j2 : Int))) (by omega) (by omega) (by omega) (by omega) (by rw [hB, show m - j2 = (m - (j2 + 1)) + 1 by omega, f_jd, if_neg (by omega)]))
                        rw [show m - (j2 + 1) = m - j2 - 1 by omega] at hh
                        exact hh
                      · refine r_iload hV dX12_judge_133 rfl ?_
                        refine r_iret hV dX12_judge_135 rfl rfl ?_
                        unfold f_judge
                        refine ⟨?_, rfl, rfl, t0, t1⟩
                        rw [if_neg (by omega), if_neg (by omega), Int.toNat_natCast, Int.toNat_natCast, if_neg (by omega), hB, show m - j2 = (m - (j2 + 1)) + 1 by omega, f_jd, if_pos (by omega)]
              exact L88 (m + 1) 0 (zpw S w) (S 2) (by omega) (by omega) hpw (by omega) rfl
            · refine s_bipush hV dX12_judge_68 (-2) (by decide) ?_
              refine r_iret hV dX12_judge_70 rfl rfl ?_
              unfold f_judge
              refine ⟨?_, rfl, rfl, t0, t1⟩
              by_cases hx0 : x < 0
              · rw [if_neg (by omega), if_pos (by omega)]
              · obtain ⟨R, rfl⟩ := Int.eq_ofNat_of_zero_le (show 0 ≤ x by omega)
                have hz := f_sh_z (R := R) (k := j) (by omega)
                rw [if_neg (by omega), if_neg (by omega), Int.toNat_natCast, Int.toNat_natCast, if_pos (fun h => by have := hz.mp h; omega)]
          · refine r_iload hV dX12_judge_41 rfl ?_
            refine s_bipush hV dX12_judge_43 (10) (by decide) ?_
            refine s_imul hV dX12_judge_45 ?_
            refine r_istore hV dX12_judge_46 (Nat.le_of_ble_eq_true rfl) (z_st1_9_4 rfl) ?_
            refine s_iinc hV dX12_judge_48 rfl (z_st1_9_5 rfl) ?_
            refine r_goto hV 35 dX12_judge_51 (by decide) ?_
            rw [show ((f_p10 j : Nat) : Int) * 10 = ((f_p10 (j + 1) : Nat) : Int) by rw [f_p10_s]; omega]
            exact ih35 (j + 1) (by omega) (by omega)
      exact L35 (m + 1) 0 (by omega) (by omega)
    · refine s_bipush hV dX12_judge_26 (-2) (by decide) ?_
      refine r_iret hV dX12_judge_28 rfl rfl ?_
      unfold f_judge
      refine ⟨?_, rfl, rfl, t0, t1⟩
      rw [if_neg (by omega), if_pos (by omega)]
  · refine s_iconst hV dX12_judge_12 (-1) (by decide) ?_
    refine r_iret hV dX12_judge_13 rfl rfl ?_
    unfold f_judge
    refine ⟨?_, rfl, rfl, t0, t1⟩
    rw [if_pos (by omega)]

