def q_lw (I : zI) (P : zP) (C : Int → Int) (v : Option Value) (I1 : zI) (J1 : zJ) (P1 : zP) : Prop := v = none ∧ I1 = I ∧ P1 = P ∧ zL J1 106 6000 C
set_option maxRecDepth 20000 in
theorem n_layWays (I : zI) (J : zJ) (P : zP) (hM : mK P) (n : Nat) (h4 : I 78 4 = iI (n : Int)) (hnb : 2 ≤ n ∧ n ≤ 6) (F : Int → Int) (zF : z_ar I 80 36 (mF F)) (hFd : zD F) (pl : Int) (hpl : 0 ≤ pl ∧ pl < n) (w : Nat) (hw : w ≤ 8) (t : Int) (ht : 0 ≤ t ∧ t ≤ 999) : z_Sp 1 yX12_layWays cX12_layWays 8 none 108 108 I J P [.ref 78, .int (iI pl), .int (iI (w : Int)), .int (iI t)] (q_lw I P (zit (f_mws (mF F) n t) w (f_mw0 pl))) := by
  obtain ⟨o1, o7, o9, o10, o11, o16, o17, o18, o19, o20, o25, o26, o28, o29, o30, o31, o36, o37, o38, o39, o40, o41, o42, o43, o44, o45, o46, o47, o48⟩ := id hM
  refine z_met false (by decide +kernel) (fun h => by cases h) (Nat.le_of_ble_eq_true rfl) (by first | decide | omega) (fun V hV => ?_)
  show V 108 I J P 0 [.ref 78, .int (iI pl), .int (iI (w : Int)), .int (iI t), .null, .null, .null, .null] []
  refine s_iconst hV dX12_layWays_0 (0) (by decide) ?_
  refine r_istore hV dX12_layWays_1 (Nat.le_of_ble_eq_true rfl) (z_st1_8_4 rfl) ?_
  have L3 : ∀ (k3 k : Nat) (J1 : zJ), 6000 - k < k3 → k ≤ 6000 → (zL J1 106 (k : Int) (f_mw0 pl)) → V 108 I J1 P 3 [.ref 78, .int (iI pl), .int (iI (w : Int)), .int (iI t), .int (iI (k : Int)), .null, .null, .null] [] := by
    intro k3
    induction k3 with
    | zero => intro k J1  hk1 hk2; omega
    | succ k3 ih3 =>
      intro k J1  hk3 hl3 hz
      refine r_iload hV dX12_layWays_3 rfl ?_
      refine s_sipush hV dX12_layWays_5 (6000) (by decide) ?_
      refine s_icmp_ge hV 39 dX12_layWays_8 (by decide) (by unfold z_rg; first | omega | (split <;> omega)) (by unfold z_rg; first | omega | (split <;> omega)) (fun c8 => ?_) (fun c8 => ?_)
      · rw [show k = 6000 by omega] at hz
        refine s_iconst hV dX12_layWays_39 (0) (by decide) ?_
        refine r_istore hV dX12_layWays_40 (Nat.le_of_ble_eq_true rfl) (z_st1_8_4 rfl) ?_
        have L42 : ∀ (k42 s : Nat) (J2 : zJ), w - s < k42 → s ≤ w → (zL J2 106 6000 (zit (f_mws (mF F) n t) s (f_mw0 pl))) → V 108 I J2 P 42 [.ref 78, .int (iI pl), .int (iI (w : Int)), .int (iI t), .int (iI (s : Int)), .null, .null, .null] [] := by
          intro k42
          induction k42 with
          | zero => intro s J2  hk1 hk2; omega
          | succ k42 ih42 =>
            intro s J2  hk42 hl42 hC
            have hcv := f_mws_wy hFd hnb.2 ht hpl s
            have hcb : ∀ z : Int, 0 ≤ z → z < 6000 → 0 ≤ (zit (f_mws (mF F) n t) s (f_mw0 pl)) z ∧ (zit (f_mws (mF F) n t) s (f_mw0 pl)) z ≤ 1679616 := fun z a b => by
              rw [hcv z a b]
              have h1 := f_wy_b (F := F) (pl := pl) hnb.2 s z
              have h2 : ((6 ^ s : Nat) : Int) ≤ ((1679616 : Nat) : Int) := Int.ofNat_le.mpr (Nat.le_trans (Nat.pow_le_pow_right (n := 6) (by decide) (show s ≤ 8 by omega)) (by decide))
              rw [show ((6 ^ s : Nat) : Int) = 6 ^ s by simp] at h2
              split <;> omega
            have hcs : zit (f_mws (mF F) n t) (s + 1) (f_mw0 pl) = f_mws (mF F) n t s (zit (f_mws (mF F) n t) s (f_mw0 pl)) := rfl
            generalize hCe : zit (f_mws (mF F) n t) s (f_mw0 pl) = C at hC hcb hcs
            refine r_iload hV dX12_layWays_42 rfl ?_
            refine r_iload_n hV dX12_layWays_44 rfl ?_
            refine s_icmp_ge hV 224 dX12_layWays_45 (by decide) (by unfold z_rg; first | omega | (split <;> omega)) (by unfold z_rg; first | omega | (split <;> omega)) (fun c45 => ?_) (fun c45 => ?_)
            · refine r_vret hV dX12_layWays_224 rfl rfl ?_
              rw [show s = w by omega] at hCe
              rw [hCe]
              exact ⟨rfl, rfl, rfl, hC⟩
            · refine s_iconst hV dX12_layWays_48 (0) (by decide) ?_
              refine r_istore hV dX12_layWays_49 (Nat.le_of_ble_eq_true rfl) (z_st1_8_5 rfl) ?_
              have L51 : ∀ (k51 k : Nat) (J3 : zJ), 6000 - k < k51 → k ≤ 6000 → (zL J3 107 (k : Int) (fun _ => 0)) → (zL J3 106 6000 C) → V 108 I J3 P 51 [.ref 78, .int (iI pl), .int (iI (w : Int)), .int (iI t), .int (iI (s : Int)), .int (iI (k : Int)), .null, .null] [] := by
                intro k51
                induction k51 with
                | zero => intro k J3  hk1 hk2; omega
                | succ k51 ih51 =>
                  intro k J3  hk51 hl51 hz3 hC3
                  refine r_iload hV dX12_layWays_51 rfl ?_
                  refine s_sipush hV dX12_layWays_53 (6000) (by decide) ?_
                  refine s_icmp_ge hV 73 dX12_layWays_56 (by decide) (by unfold z_rg; first | omega | (split <;> omega)) (by unfold z_rg; first | omega | (split <;> omega)) (fun c56 => ?_) (fun c56 => ?_)
                  · rw [show k = 6000 by omega] at hz3
                    refine s_iconst hV dX12_layWays_73 (0) (by decide) ?_
                    refine r_istore hV dX12_layWays_74 (Nat.le_of_ble_eq_true rfl) (z_st1_8_5 rfl) ?_
                    have L76 : ∀ (k76 k : Nat) (J4 : zJ), 6000 - k < k76 → k ≤ 6000 → (zL J4 107 6000 (zit (f_mwk (mF F) n t C) k (fun _ => 0))) → (zL J4 106 6000 C) → V 108 I J4 P 76 [.ref 78, .int (iI pl), .int (iI (w : Int)), .int (iI t), .int (iI (s : Int)), .int (iI (k : Int)), .null, .null] [] := by
                      intro k76
                      induction k76 with
                      | zero => intro k J4  hk1 hk2; omega
                      | succ k76 ih76 =>
                        intro k J4  hk76 hl76 hL hC4
                        refine r_iload hV dX12_layWays_76 rfl ?_
                        refine s_sipush hV dX12_layWays_78 (6000) (by decide) ?_
                        refine s_icmp_ge hV 187 dX12_layWays_81 (by decide) (by unfold z_rg; first | omega | (split <;> omega)) (by unfold z_rg; first | omega | (split <;> omega)) (fun c81 => ?_) (fun c81 => ?_)
                        · rw [show k = 6000 by omega] at hL
                          refine s_iconst hV dX12_layWays_187 (0) (by decide) ?_
                          refine r_istore hV dX12_layWays_188 (Nat.le_of_ble_eq_true rfl) (z_st1_8_5 rfl) ?_
                          have L190 : ∀ (k190 k2 : Nat) (J6 : zJ), 6000 - k2 < k190 → k2 ≤ 6000 → (zL J6 107 6000 (zit (f_mwk (mF F) n t C) 6000 (fun _ => 0))) → (zL J6 106 (k2 : Int) (zit (f_mwk (mF F) n t C) 6000 (fun _ => 0))) → V 108 I J6 P 190 [.ref 78, .int (iI pl), .int (iI (w : Int)), .int (iI t), .int (iI (s : Int)), .int (iI (k2 : Int)), .null, .null] [] := by
                            intro k190
                            induction k190 with
                            | zero => intro k2 J6  hk1 hk2; omega
                            | succ k190 ih190 =>
                              intro k2 J6  hk190 hl190 hL6 hz6
                              refine r_iload hV dX12_layWays_190 rfl ?_
                              refine s_sipush hV dX12_layWays_192 (6000) (by decide) ?_
                              refine s_icmp_ge hV 218 dX12_layWays_195 (by decide) (by unfold z_rg; first | omega | (split <;> omega)) (by unfold z_rg; first | omega | (split <;> omega)) (fun c195 => ?_) (fun c195 => ?_)
                              · have hz9 : zL J6 106 6000 (zit (f_mws (mF F) n t) (s + 1) (f_mw0 pl)) := by rw [hcs]; rw [show k2 = 6000 by omega] at hz6; exact hz6
                                refine s_iinc hV dX12_layWays_218 rfl (z_st1_8_4 rfl) ?_
                                refine r_goto hV 42 dX12_layWays_221 (by decide) ?_
                                refine r_kill hV 5 z_stk_8_5 ?_
                                exact ih42 (s + 1) J6 (by omega) (by omega) hz9
                              · refine r_aload_n hV dX12_layWays_198 rfl rfl ?_
                                refine r_getR hV dX12_layWays_199 fl_X12_96 (by first | decide | omega) (by first | rfl | assumption) o47 ?_
                                refine r_iload hV dX12_layWays_202 rfl ?_
                                refine r_aload_n hV dX12_layWays_204 rfl rfl ?_
                                refine r_getR hV dX12_layWays_205 fl_X12_100 (by first | decide | omega) (by first | rfl | assumption) o48 ?_
                                refine r_iload hV dX12_layWays_208 rfl ?_
                                refine s_laload hV dX12_layWays_210 (by first | decide | omega) (by first | rfl | assumption) (by decide) (by omega) (by omega) (hL6 (k2 : Int) (by omega) (by omega)) ?_
                                refine s_lastore hV dX12_layWays_211 (by first | decide | omega) (by first | rfl | assumption) (by decide) (by omega) (by omega) ?_
                                have hz7 := zL_push hz6
                                generalize hJ7 : zu J6 106 (zu (J6 106) (k2 : Int).toNat (lI ((zit (f_mwk (mF F) n t C) 6000 (fun _ => 0)) (k2 : Int)))) = J7 at hz7 ⊢
                                have hfJ7 : ∀ q, q ≠ 106 → J7 q = J6 q := fun q h => by rw [← hJ7]; exact zu_n _ _ h
                                clear hJ7
                                refine s_iinc hV dX12_layWays_212 rfl (z_st1_8_5 rfl) ?_
                                refine r_goto hV 190 dX12_layWays_215 (by decide) ?_
                                exact ih190 (k2 + 1) J7 (by omega) (by omega) (zL_fr hL6 (hfJ7 107 (by omega))) hz7
                          exact L190 6001 0 J4 (by omega) (by omega) hL zL_0
                        · refine s_iconst hV dX12_layWays_84 (0) (by decide) ?_
                          refine r_istore hV dX12_layWays_85 (Nat.le_of_ble_eq_true rfl) (z_st1_8_6 rfl) ?_
                          have L87 : ∀ (k87 m : Nat) (J5 : zJ), n - m < k87 → m ≤ n → (zL J5 107 6000 (zit (f_mwt (mF F) t C k) m (zit (f_mwk (mF F) n t C) k (fun _ => 0)))) → (zL J5 106 6000 C) → V 108 I J5 P 87 [.ref 78, .int (iI pl), .int (iI (w : Int)), .int (iI t), .int (iI (s : Int)), .int (iI (k : Int)), .int (iI (m : Int)), .null] [] := by
                            intro k87
                            induction k87 with
                            | zero => intro m J5  hk1 hk2; omega
                            | succ k87 ih87 =>
                              intro m J5  hk87 hl87 hL5 hC5
                              have hck := hcb (k : Int) (by omega) (by omega)
                              refine r_iload hV dX12_layWays_87 rfl ?_
                              refine r_aload_n hV dX12_layWays_89 rfl rfl ?_
                              refine r_getI hV dX12_layWays_90 fl_X12_13 (by first | decide | omega) (by first | rfl | assumption) h4 ?_
                              refine s_icmp_ge hV 181 dX12_layWays_93 (by decide) (by unfold z_rg; first | omega | (split <;> omega)) (by unfold z_rg; first | omega | (split <;> omega)) (fun c93 => ?_) (fun c93 => ?_)
                              · have hLx : zL J5 107 6000 (zit (f_mwt (mF F) t C k) n (zit (f_mwk (mF F) n t C) k (fun _ => 0))) := by rw [show m = n by omega] at hL5; exact hL5
                                refine s_iinc hV dX12_layWays_181 rfl (z_st1_8_5 rfl) ?_
                                refine r_goto hV 76 dX12_layWays_184 (by decide) ?_
                                refine r_kill hV 6 z_stk_8_6 ?_
                                refine r_kill hV 7 z_stk_8_7 ?_
                                exact ih76 (k + 1) J5 (by omega) (by omega) (by rw [zit, f_mwk]; exact hLx) hC5
                              · refine r_aload_n hV dX12_layWays_96 rfl rfl ?_
                                refine r_getR hV dX12_layWays_97 fl_X12_96 (by first | decide | omega) (by first | rfl | assumption) o47 ?_
                                refine r_iload hV dX12_layWays_100 rfl ?_
                                refine s_laload hV dX12_layWays_102 (by first | decide | omega) (by first | rfl | assumption) (by decide) (by omega) (by omega) (hC5 (k : Int) (by omega) (by omega)) ?_
                                refine s_lconst hV dX12_layWays_103 (0) (by decide) ?_
                                refine s_lcmp hV dX12_layWays_104 (by unfold z_rgL; omega) (by unfold z_rgL; omega) ?_
                                refine s_if_le hV 181 dX12_layWays_105 (by decide) (z_cmp_rg _ _) (fun c105 => ?_) (fun c105 => ?_)
                                · have hck0 : C k ≤ 0 := z_cmp_le.mp c105
                                  have hLx : zL J5 107 6000 (zit (f_mwt (mF F) t C k) n (zit (f_mwk (mF F) n t C) k (fun _ => 0))) := by
                                    have e1 := f_mwt_no (M := mF F) (t := t) (C := C) (k := k) (by omega) (zit (f_mwk (mF F) n t C) k (fun _ => 0))
                                    rw [e1 n, ← e1 m]; exact hL5
                                  refine s_iinc hV dX12_layWays_181 rfl (z_st1_8_5 rfl) ?_
                                  refine r_goto hV 76 dX12_layWays_184 (by decide) ?_
                                  refine r_kill hV 6 z_stk_8_6 ?_
                                  refine r_kill hV 7 z_stk_8_7 ?_
                                  exact ih76 (k + 1) J5 (by omega) (by omega) (by rw [zit, f_mwk]; exact hLx) hC5
                                · have hck1 : 0 < C k := Int.lt_of_not_ge (fun h => c105 (z_cmp_le.mpr h))
                                  refine r_iload hV dX12_layWays_108 rfl ?_
                                  refine s_sipush hV dX12_layWays_110 (1000) (by decide) ?_
                                  refine s_irem hV dX12_layWays_113 (by unfold z_rg; first | omega | (split <;> omega)) (by unfold z_rg; first | omega | (split <;> omega)) (by omega) (by omega) ?_
                                  refine r_aload_n hV dX12_layWays_114 rfl rfl ?_
                                  refine r_getR hV dX12_layWays_115 fl_X12_17 (by first | decide | omega) (by first | rfl | assumption) o7 ?_
                                  refine s_bipush hV dX12_layWays_118 (6) (by decide) ?_
                                  refine r_iload hV dX12_layWays_120 rfl ?_
                                  refine s_sipush hV dX12_layWays_122 (1000) (by decide) ?_
                                  refine s_idiv hV dX12_layWays_125 (by unfold z_rg; first | omega | (split <;> omega)) (by unfold z_rg; first | omega | (split <;> omega)) (by omega) (by omega) ?_
                                  refine s_imul hV dX12_layWays_126 ?_
                                  refine r_iload hV dX12_layWays_127 rfl ?_
                                  refine s_iadd hV dX12_layWays_129 ?_
                                  refine s_iaload hV dX12_layWays_130 (by first | decide | omega) (by first | rfl | assumption) (by decide) (by omega) (by omega) (zF (6 * ((k : Int) / 1000) + (m : Int)) (by omega) (by omega)) ?_
                                  have hmb := mF_b hFd (6 * ((k : Int) / 1000) + (m : Int)) (by omega) (by omega)
                                  refine s_iadd hV dX12_layWays_131 ?_
                                  refine r_istore hV dX12_layWays_132 (Nat.le_of_ble_eq_true rfl) (z_st1_8_7 rfl) ?_
                                  refine r_iload hV dX12_layWays_134 rfl ?_
                                  refine r_iload hV dX12_layWays_136 rfl ?_
                                  refine s_sipush hV dX12_layWays_138 (1000) (by decide) ?_
                                  refine s_idiv hV dX12_layWays_141 (by unfold z_rg; first | omega | (split <;> omega)) (by unfold z_rg; first | omega | (split <;> omega)) (by omega) (by omega) ?_
                                  refine s_icmp_eq hV 175 dX12_layWays_142 (by decide) (by unfold z_rg; first | omega | (split <;> omega)) (by unfold z_rg; first | omega | (split <;> omega)) (fun c142 => ?_) (fun c142 => ?_)
                                  · refine s_iinc hV dX12_layWays_175 rfl (z_st1_8_6 rfl) ?_
                                    refine r_goto hV 87 dX12_layWays_178 (by decide) ?_
                                    refine r_kill hV 7 z_stk_8_7 ?_
                                    first
                                      | exact ih87 (m + 1) J6 (by omega) (by omega) (by rw [zit, f_mwt, if_pos ⟨by omega, by omega, by omega⟩]; exact hz6) (zL_fr hC5 (hfJ6 106 (by omega)))
                                      | exact ih87 (m + 1) J5 (by omega) (by omega) (by rw [zit, f_mwt, if_neg (by omega)]; exact hL5) hC5
                                  · refine r_iload hV dX12_layWays_145 rfl ?_
                                    refine r_iload_n hV dX12_layWays_147 rfl ?_
                                    refine s_icmp_gt hV 175 dX12_layWays_148 (by decide) (by unfold z_rg; first | omega | (split <;> omega)) (by unfold z_rg; first | omega | (split <;> omega)) (fun c148 => ?_) (fun c148 => ?_)
                                    · refine s_iinc hV dX12_layWays_175 rfl (z_st1_8_6 rfl) ?_
                                      refine r_goto hV 87 dX12_layWays_178 (by decide) ?_
                                      refine r_kill hV 7 z_stk_8_7 ?_
                                      first
                                        | exact ih87 (m + 1) J6 (by omega) (by omega) (by rw [zit, f_mwt, if_pos ⟨by omega, by omega, by omega⟩]; exact hz6) (zL_fr hC5 (hfJ6 106 (by omega)))
                                        | exact ih87 (m + 1) J5 (by omega) (by omega) (by rw [zit, f_mwt, if_neg (by omega)]; exact hL5) hC5
                                    · refine r_aload_n hV dX12_layWays_151 rfl rfl ?_
                                      refine r_getR hV dX12_layWays_152 fl_X12_100 (by first | decide | omega) (by first | rfl | assumption) o48 ?_
                                      refine s_sipush hV dX12_layWays_155 (1000) (by decide) ?_
                                      refine r_iload hV dX12_layWays_158 rfl ?_
                                      refine s_imul hV dX12_layWays_160 ?_
                                      refine r_iload hV dX12_layWays_161 rfl ?_
                                      refine s_iadd hV dX12_layWays_163 ?_
                                      refine r_dup2 hV dX12_layWays_164 rfl rfl ?_
                                      refine s_laload hV dX12_layWays_165 (by first | decide | omega) (by first | rfl | assumption) (by decide) (by omega) (by omega) (hL5 (1000 * (m : Int) + ((k : Int) % 1000 + mF F (6 * ((k : Int) / 1000) + (m : Int)))) (by omega) (by omega)) ?_
                                      refine r_aload_n hV dX12_layWays_166 rfl rfl ?_
                                      refine r_getR hV dX12_layWays_167 fl_X12_96 (by first | decide | omega) (by first | rfl | assumption) o47 ?_
                                      refine r_iload hV dX12_layWays_170 rfl ?_
                                      refine s_laload hV dX12_layWays_172 (by first | decide | omega) (by first | rfl | assumption) (by decide) (by omega) (by omega) (hC5 (k : Int) (by omega) (by omega)) ?_
                                      refine s_ladd hV dX12_layWays_173 ?_
                                      refine s_lastore hV dX12_layWays_174 (by first | decide | omega) (by first | rfl | assumption) (by decide) (by omega) (by omega) ?_
                                      have hz6 := zL_set hL5 (z := 1000 * (m : Int) + ((k : Int) % 1000 + mF F (6 * ((k : Int) / 1000) + (m : Int)))) (by omega) ((zit (f_mwt (mF F) t C k) m (zit (f_mwk (mF F) n t C) k (fun _ => 0))) (1000 * (m : Int) + ((k : Int) % 1000 + mF F (6 * ((k : Int) / 1000) + (m : Int)))) + C k)
                                      generalize hJ6 : zu J5 107 (zu (J5 107) (1000 * (m : Int) + ((k : Int) % 1000 + mF F (6 * ((k : Int) / 1000) + (m : Int)))).toNat (lI ((zit (f_mwt (mF F) t C k) m (zit (f_mwk (mF F) n t C) k (fun _ => 0))) (1000 * (m : Int) + ((k : Int) % 1000 + mF F (6 * ((k : Int) / 1000) + (m : Int)))) + C k))) = J6 at hz6 ⊢
                                      have hfJ6 : ∀ q, q ≠ 107 → J6 q = J5 q := fun q h => by rw [← hJ6]; exact zu_n _ _ h
                                      clear hJ6
                                      refine s_iinc hV dX12_layWays_175 rfl (z_st1_8_6 rfl) ?_
                                      refine r_goto hV 87 dX12_layWays_178 (by decide) ?_
                                      refine r_kill hV 7 z_stk_8_7 ?_
                                      first
                                        | exact ih87 (m + 1) J6 (by omega) (by omega) (by rw [zit, f_mwt, if_pos ⟨by omega, by omega, by omega⟩]; exact hz6) (zL_fr hC5 (hfJ6 106 (by omega)))
                                        | exact ih87 (m + 1) J5 (by omega) (by omega) (by rw [zit, f_mwt, if_neg (by omega)]; exact hL5) hC5
                          exact L87 (n + 1) 0 J4 (by omega) (by omega) hL hC4
                    exact L76 6001 0 J3 (by omega) (by omega) hz3 hC3
                  · refine r_aload_n hV dX12_layWays_59 rfl rfl ?_
                    refine r_getR hV dX12_layWays_60 fl_X12_100 (by first | decide | omega) (by first | rfl | assumption) o48 ?_
                    refine r_iload hV dX12_layWays_63 rfl ?_
                    refine s_lconst hV dX12_layWays_65 (0) (by decide) ?_
                    refine s_lastore hV dX12_layWays_66 (by first | decide | omega) (by first | rfl | assumption) (by decide) (by omega) (by omega) ?_
                    have hz4 := zL_push hz3
                    generalize hJ4 : zu J3 107 (zu (J3 107) (k : Int).toNat (lI (0))) = J4 at hz4 ⊢
                    have hfJ4 : ∀ q, q ≠ 107 → J4 q = J3 q := fun q h => by rw [← hJ4]; exact zu_n _ _ h
                    clear hJ4
                    refine s_iinc hV dX12_layWays_67 rfl (z_st1_8_5 rfl) ?_
                    refine r_goto hV 51 dX12_layWays_70 (by decide) ?_
                    exact ih51 (k + 1) J4 (by omega) (by omega) hz4 (zL_fr hC3 (hfJ4 106 (by omega)))
              exact L51 6001 0 J2 (by omega) (by omega) zL_0 hC
        exact L42 (w + 1) 0 J1 (by omega) (by omega) hz
      · refine r_aload_n hV dX12_layWays_11 rfl rfl ?_
        refine r_getR hV dX12_layWays_12 fl_X12_96 (by first | decide | omega) (by first | rfl | assumption) o47 ?_
        refine r_iload hV dX12_layWays_15 rfl ?_
        refine r_iload hV dX12_layWays_17 rfl ?_
        refine s_sipush hV dX12_layWays_19 (1000) (by decide) ?_
        refine r_iload_n hV dX12_layWays_22 rfl ?_
        refine s_imul hV dX12_layWays_23 ?_
        refine s_icmp_ne hV 31 dX12_layWays_24 (by decide) (by unfold z_rg; first | omega | (split <;> omega)) (by unfold z_rg; first | omega | (split <;> omega)) (fun c24 => ?_) (fun c24 => ?_)
        · refine s_lconst hV dX12_layWays_31 (0) (by decide) ?_
          first
            | rw [show lI 0 = lI (f_mw0 pl (k : Int)) by unfold f_mw0; rw [if_neg (by omega)]]
            | rw [show lI 1 = lI (f_mw0 pl (k : Int)) by unfold f_mw0; rw [if_pos (by omega)]]
          refine s_lastore hV dX12_layWays_32 (by first | decide | omega) (by first | rfl | assumption) (by decide) (by omega) (by omega) ?_
          have hz2 := zL_push hz
          generalize hJ2 : zu J1 106 (zu (J1 106) (k : Int).toNat (lI (f_mw0 pl (k : Int)))) = J2 at hz2 ⊢
          have hfJ2 : ∀ q, q ≠ 106 → J2 q = J1 q := fun q h => by rw [← hJ2]; exact zu_n _ _ h
          clear hJ2
          refine s_iinc hV dX12_layWays_33 rfl (z_st1_8_4 rfl) ?_
          refine r_goto hV 3 dX12_layWays_36 (by decide) ?_
          exact ih3 (k + 1) J2 (by omega) (by omega) hz2
        · refine s_lconst hV dX12_layWays_27 (1) (by decide) ?_
          refine r_goto hV 32 dX12_layWays_28 (by decide) ?_
          first
            | rw [show lI 0 = lI (f_mw0 pl (k : Int)) by unfold f_mw0; rw [if_neg (by omega)]]
            | rw [show lI 1 = lI (f_mw0 pl (k : Int)) by unfold f_mw0; rw [if_pos (by omega)]]
          refine s_lastore hV dX12_layWays_32 (by first | decide | omega) (by first | rfl | assumption) (by decide) (by omega) (by omega) ?_
          have hz2 := zL_push hz
          generalize hJ2 : zu J1 106 (zu (J1 106) (k : Int).toNat (lI (f_mw0 pl (k : Int)))) = J2 at hz2 ⊢
          have hfJ2 : ∀ q, q ≠ 106 → J2 q = J1 q := fun q h => by rw [← hJ2]; exact zu_n _ _ h
          clear hJ2
          refine s_iinc hV dX12_layWays_33 rfl (z_st1_8_4 rfl) ?_
          refine r_goto hV 3 dX12_layWays_36 (by decide) ?_
          exact ih3 (k + 1) J2 (by omega) (by omega) hz2
  exact L3 6001 0 J (by omega) (by omega) zL_0

