def f_jd (n : Int) (F fig : Int → Int) : Nat → Nat → Int → Int → Int
  | 0, _, _, _ => -9
  | k + 1, i, pl, lf => if lf < f_wc n F pl (fig i) then (i : Int) else f_jd n F fig k (i + 1) (fig i) (lf - f_wc n F pl (fig i))
def f_judge (n : Int) (F S : Int → Int) (w N row : Int) : Int := if ¬ (0 ≤ w ∧ w < 2) then -1 else if N < 1 ∨ 8 < N ∨ row < 0 then -2 else if ¬ f_sh row.toNat N.toNat = 0 then -2 else f_jd n F (f_dg10 N.toNat row.toNat) N.toNat 0 (zpw S w) (S 2)
def q_told (I : zI) (J : zJ) (P : zP) (a : Int) (v : Option Value) (I1 : zI) (J1 : zJ) (P1 : zP) : Prop := v = some (.int (iI a)) ∧ J1 = J ∧ P1 = P ∧ ∀ q, q ≠ 65 → I1 q = I q
theorem f_dg10_b {n R : Nat} (z : Int) : 0 ≤ f_dg10 n R z ∧ f_dg10 n R z ≤ 9 := by unfold f_dg10; omega
set_option maxRecDepth 20000 in
theorem m_judge (I : zI) (J : zJ) (P : zP) (d d1 : Nat) (hK : cK P) (q10 : P 0 10 = some d) (q11 : P 0 11 = some d1) (hdd : (d = 66 ∧ d1 = 72) ∨ (d = 72 ∧ d1 = 66)) (n : Nat) (hn : I d 0 = iI (n : Int)) (hnb : 2 ≤ n ∧ n ≤ 6) (F : Int → Int) (hF : z_ar I (d + 2) 36 F) (hFb : z_bd F 36 0 1000000) (S : Int → Int) (hS : cSt I 3 S) (dn dh : Nat) (hg : cG n S dn dh) (w : Int) (hw : z_rg w) (N : Int) (hN : z_rg N) (x : Int) (hx : z_rg x) : z_Sp 3 yX11_judge cX11_judge 8 (some .int) 108 108 I J P [.ref 0, .int (iI w), .int (iI N), .int (iI x)] (q_told I J P (f_judge n F S w N x)) := by
  obtain ⟨q0, q1, q2, q3, q4, q5, q6, q7, q8, q9, p1, h3, hA, hL, hTr0, hTr1, hTr2, hPn, hGs, hD66, hD72⟩ := id hK
  have hD : zDay P d := by rcases hdd with ⟨rfl, rfl⟩ | ⟨rfl, rfl⟩ <;> assumption
  obtain ⟨hd, p4, p5, p6, p7, p8⟩ := id hD
  have hD1 : zDay P d1 := by rcases hdd with ⟨rfl, rfl⟩ | ⟨rfl, rfl⟩ <;> assumption
  obtain ⟨g0, g1, g2, g3, g4, g5, g6, g7, g8⟩ := id hg
  have hw1 := hw.1
  have hw2 := hw.2
  have hN1 := hN.1
  have hN2 := hN.2
  have hx1 := hx.1
  have hx2 := hx.2
  have hpw := zpw_b w hg
  refine z_met false (by decide +kernel) (fun h => by cases h) (Nat.le_of_ble_eq_true rfl) (by first | decide | omega) (fun V hV => ?_)
  show V 108 I J P 0 [.ref 0, .int (iI w), .int (iI N), .int (iI x), .null, .null, .null, .null] []
  refine r_iload_n hV dX11_judge_0 rfl ?_
  refine q_is1v hV dX11_judge_1 ms_X11_146 (m_isWalker I J P w hw) (by decide) (Nat.le_refl _) (Nat.le_of_ble_eq_true rfl) ?_
  refine s_if_ne hV 9 dX11_judge_4 (by decide) (by unfold z_rg; first | omega | (split <;> omega)) (fun c4 => ?_) (fun c4 => ?_)
  · refine r_iload_n hV dX11_judge_9 rfl ?_
    refine s_iconst hV dX11_judge_10 (1) (by decide) ?_
    refine s_icmp_lt hV 24 dX11_judge_11 (by decide) (by unfold z_rg; first | omega | (split <;> omega)) (by unfold z_rg; first | omega | (split <;> omega)) (fun c11 => ?_) (fun c11 => ?_)
    · refine s_bipush hV dX11_judge_24 (-2) (by decide) ?_
      refine r_iret hV dX11_judge_26 rfl rfl ?_
      unfold f_judge
      refine ⟨?_, rfl, rfl, fun _ _ => rfl⟩
      rw [if_neg (by omega), if_pos (by omega)]
    · refine r_iload_n hV dX11_judge_14 rfl ?_
      refine s_bipush hV dX11_judge_15 (8) (by decide) ?_
      refine s_icmp_gt hV 24 dX11_judge_17 (by decide) (by unfold z_rg; first | omega | (split <;> omega)) (by unfold z_rg; first | omega | (split <;> omega)) (fun c17 => ?_) (fun c17 => ?_)
      · refine s_bipush hV dX11_judge_24 (-2) (by decide) ?_
        refine r_iret hV dX11_judge_26 rfl rfl ?_
        unfold f_judge
        refine ⟨?_, rfl, rfl, fun _ _ => rfl⟩
        rw [if_neg (by omega), if_pos (by omega)]
      · refine r_iload_n hV dX11_judge_20 rfl ?_
        refine s_if_ge hV 27 dX11_judge_21 (by decide) (by unfold z_rg; first | omega | (split <;> omega)) (fun c21 => ?_) (fun c21 => ?_)
        · obtain ⟨m, rfl⟩ := Int.eq_ofNat_of_zero_le (show 0 ≤ N by omega)
          obtain ⟨R, rfl⟩ := Int.eq_ofNat_of_zero_le (show 0 ≤ x by omega)
          refine r_aload_n hV dX11_judge_27 rfl rfl ?_
          refine r_iload_n hV dX11_judge_28 rfl ?_
          refine r_iload_n hV dX11_judge_29 rfl ?_
          refine r_iv2 hV dX11_judge_30 mv_X11_211 (m_splitRow I J P d d1 hK q10 q11 hdd m (by omega) R (by omega)) (by first | decide | omega) (by first | rfl | assumption | exact h3.2.1 | (rcases hdd with ⟨rfl, rfl⟩ | ⟨rfl, rfl⟩ <;> rfl)) (by decide) (Nat.le_refl _) (Nat.le_of_ble_eq_true rfl) (fun v2 I2 J2 P2 hq => ?_)
          obtain ⟨rfl, ej, ep, t1, t2⟩ := hq
          rw [ej, ep]
          show V 108 I2 J P _ _ [.int (iI (if f_sh R m = 0 then 1 else 0))]
          refine s_if_ne hV 39 dX11_judge_33 (by decide) (by unfold z_rg; first | omega | (split <;> omega)) (fun c33 => ?_) (fun c33 => ?_)
          · have hS2 : cSt I2 3 S := cSt_fr hS (t2 _ (by omega)) (t2 _ (by omega))
            refine r_aload_n hV dX11_judge_39 rfl rfl ?_
            refine r_getR hV dX11_judge_40 fl_X11_19 (by first | decide | omega) (by first | rfl | assumption | exact h3.2.1 | (rcases hdd with ⟨rfl, rfl⟩ | ⟨rfl, rfl⟩ <;> rfl)) q1 ?_
            refine r_iload_n hV dX11_judge_43 rfl ?_
            refine q_iv1v hV dX11_judge_44 mv_X11_150 (m_placeOf I2 J P 3 h3 S hS2 w hw) (by first | decide | omega) (by first | rfl | assumption | exact h3.2.1 | (rcases hdd with ⟨rfl, rfl⟩ | ⟨rfl, rfl⟩ <;> rfl)) (by decide) (Nat.le_refl _) (Nat.le_of_ble_eq_true rfl) ?_
            rw [show (if w = 0 then S 0 else S 1) = zpw S w from rfl]
            refine r_istore hV dX11_judge_47 (Nat.le_of_ble_eq_true rfl) (z_st1_8_4 rfl) ?_
            refine r_aload_n hV dX11_judge_49 rfl rfl ?_
            refine r_getR hV dX11_judge_50 fl_X11_19 (by first | decide | omega) (by first | rfl | assumption | exact h3.2.1 | (rcases hdd with ⟨rfl, rfl⟩ | ⟨rfl, rfl⟩ <;> rfl)) q1 ?_
            refine r_getI hV dX11_judge_53 fl_X11_127 (by first | decide | omega) (by first | rfl | assumption | exact h3.2.1 | (rcases hdd with ⟨rfl, rfl⟩ | ⟨rfl, rfl⟩ <;> rfl)) (hS2.1 2 (by omega) (by omega)) ?_
            refine r_istore hV dX11_judge_56 (Nat.le_of_ble_eq_true rfl) (z_st1_8_5 rfl) ?_
            refine s_iconst hV dX11_judge_58 (0) (by decide) ?_
            refine r_istore hV dX11_judge_59 (Nat.le_of_ble_eq_true rfl) (z_st1_8_6 rfl) ?_
            have L61 : ∀ (k61 j : Nat) (pl lf : Int), m - j < k61 → j ≤ m → (0 ≤ pl ∧ pl ≤ 9) → (0 ≤ lf ∧ lf ≤ 90000) → (f_jd n F (f_dg10 m R) m 0 (zpw S w) (S 2) = f_jd n F (f_dg10 m R) (m - j) j pl lf) → V 108 I2 J P 61 [.ref 0, .int (iI w), .int (iI (m : Int)), .int (iI (R : Int)), .int (iI pl), .int (iI lf), .int (iI (j : Int)), .null] [] := by
              intro k61
              induction k61 with
              | zero => intro j pl lf  hk1 hk2; omega
              | succ k61 ih61 =>
                intro j pl lf  hk61 hl61 hpl hlf hB
                refine r_iload hV dX11_judge_61 rfl ?_
                refine r_iload_n hV dX11_judge_63 rfl ?_
                refine s_icmp_ge hV 114 dX11_judge_64 (by decide) (by unfold z_rg; first | omega | (split <;> omega)) (by unfold z_rg; first | omega | (split <;> omega)) (fun c64 => ?_) (fun c64 => ?_)
                · refine s_bipush hV dX11_judge_114 (-9) (by decide) ?_
                  refine r_iret hV dX11_judge_116 rfl rfl ?_
                  unfold f_judge
                  refine ⟨?_, rfl, rfl, t2⟩
                  rw [if_neg (by omega), if_neg (by omega), Int.toNat_natCast, Int.toNat_natCast, if_neg (by omega), hB, show m - j = 0 by omega]
                  rfl
                · refine r_aload_n hV dX11_judge_67 rfl rfl ?_
                  refine r_iload hV dX11_judge_68 rfl ?_
                  refine r_aload_n hV dX11_judge_70 rfl rfl ?_
                  refine r_getR hV dX11_judge_71 fl_X11_72 (by first | decide | omega) (by first | rfl | assumption | exact h3.2.1 | (rcases hdd with ⟨rfl, rfl⟩ | ⟨rfl, rfl⟩ <;> rfl)) q9 ?_
                  refine r_iload hV dX11_judge_74 rfl ?_
                  refine s_iaload hV dX11_judge_76 (by first | decide | omega) (by first | rfl | assumption | exact h3.2.1 | (rcases hdd with ⟨rfl, rfl⟩ | ⟨rfl, rfl⟩ <;> rfl)) (by decide) (by omega) (by omega) (t1 (j : Int) (by omega) (by omega)) ?_
                  have hdb := f_dg10_b (n := m) (R := R) (j : Int)
                  refine q_iv2v hV dX11_judge_77 mv_X11_181 (m_walkCost I2 J P d d1 hK q10 q11 hdd n ((congrFun (t2 _ (by omega)) 0).trans hn) hnb F (z_ar_fr hF (t2 _ (by omega))) hFb pl (by unfold z_rg; omega) (f_dg10 m R (j : Int)) (by unfold z_rg; omega)) (by first | decide | omega) (by first | rfl | assumption | exact h3.2.1 | (rcases hdd with ⟨rfl, rfl⟩ | ⟨rfl, rfl⟩ <;> rfl)) (by decide) (Nat.le_refl _) (Nat.le_of_ble_eq_true rfl) ?_
                  have hcw := f_wc_b (n := n) (a := pl) (b := f_dg10 m R (j : Int)) hnb.2 hFb
                  refine r_istore hV dX11_judge_80 (Nat.le_of_ble_eq_true rfl) (z_st1_8_7 rfl) ?_
                  refine r_iload hV dX11_judge_82 rfl ?_
                  refine r_iload hV dX11_judge_84 rfl ?_
                  refine s_icmp_le hV 92 dX11_judge_86 (by decide) (by unfold z_rg; first | omega | (split <;> omega)) (by unfold z_rg; first | omega | (split <;> omega)) (fun c86 => ?_) (fun c86 => ?_)
                  · refine r_iload hV dX11_judge_92 rfl ?_
                    refine r_iload hV dX11_judge_94 rfl ?_
                    refine s_isub hV dX11_judge_96 ?_
                    refine r_istore hV dX11_judge_97 (Nat.le_of_ble_eq_true rfl) (z_st1_8_5 rfl) ?_
                    refine r_aload_n hV dX11_judge_99 rfl rfl ?_
                    refine r_getR hV dX11_judge_100 fl_X11_72 (by first | decide | omega) (by first | rfl | assumption | exact h3.2.1 | (rcases hdd with ⟨rfl, rfl⟩ | ⟨rfl, rfl⟩ <;> rfl)) q9 ?_
                    refine r_iload hV dX11_judge_103 rfl ?_
                    refine s_iaload hV dX11_judge_105 (by first | decide | omega) (by first | rfl | assumption | exact h3.2.1 | (rcases hdd with ⟨rfl, rfl⟩ | ⟨rfl, rfl⟩ <;> rfl)) (by decide) (by omega) (by omega) (t1 (j : Int) (by omega) (by omega)) ?_
                    have hdb := f_dg10_b (n := m) (R := R) (j : Int)
                    refine r_istore hV dX11_judge_106 (Nat.le_of_ble_eq_true rfl) (z_st1_8_4 rfl) ?_
                    refine s_iinc hV dX11_judge_108 rfl (z_st1_8_6 rfl) ?_
                    refine r_goto hV 61 dX11_judge_111 (by decide) ?_
                    refine r_kill hV 7 z_stk_8_7 ?_
                    exact ih61 (j + 1) _ _ (by omega) (by omega) (by omega) (by omega) (by rw [hB, show m - j = (m - (j + 1)) + 1 by omega, f_jd, if_neg (by omega)])
                  · refine r_iload hV dX11_judge_89 rfl ?_
                    refine r_iret hV dX11_judge_91 rfl rfl ?_
                    unfold f_judge
                    refine ⟨?_, rfl, rfl, t2⟩
                    rw [if_neg (by omega), if_neg (by omega), Int.toNat_natCast, Int.toNat_natCast, if_neg (by omega), hB, show m - j = (m - (j + 1)) + 1 by omega, f_jd, if_pos (by omega)]
            exact L61 (m + 1) 0 _ _ (by omega) (by omega) (by omega) (by omega) rfl
          · refine s_bipush hV dX11_judge_36 (-2) (by decide) ?_
            refine r_iret hV dX11_judge_38 rfl rfl ?_
            unfold f_judge
            refine ⟨?_, rfl, rfl, t2⟩
            rw [if_neg (by omega), if_neg (by omega), Int.toNat_natCast, Int.toNat_natCast, if_pos (by omega)]
        · refine s_bipush hV dX11_judge_24 (-2) (by decide) ?_
          refine r_iret hV dX11_judge_26 rfl rfl ?_
          unfold f_judge
          refine ⟨?_, rfl, rfl, fun _ _ => rfl⟩
          rw [if_neg (by omega), if_pos (by omega)]
  · refine s_iconst hV dX11_judge_7 (-1) (by decide) ?_
    refine r_iret hV dX11_judge_8 rfl rfl ?_
    unfold f_judge
    refine ⟨?_, rfl, rfl, fun _ _ => rfl⟩
    rw [if_pos (by omega)]

def q_keep (I : zI) (J : zJ) (P : zP) (k : Int) (FU S : Int → Int) (v : Option Value) (I1 : zI) (J1 : zJ) (P1 : zP) : Prop := v = some (.int (iI (S 2))) ∧ J1 = J ∧ P1 = P ∧ z_ar I1 41 2 (zup FU k 1) ∧ cSt I1 (42 + 2 * k.toNat) S ∧ ∀ q, q ≠ 41 → q ≠ 42 + 2 * k.toNat → q ≠ 43 + 2 * k.toNat → I1 q = I q
def q_again (I : zI) (J : zJ) (P : zP) (S : Int → Int) (v : Option Value) (I1 : zI) (J1 : zJ) (P1 : zP) : Prop := v = some (.int (iI (S 2))) ∧ J1 = J ∧ P1 = P ∧ I1 5 1 = iI 0 ∧ I1 5 2 = iI 0 ∧ cSt I1 3 S ∧ ∀ q, q ≠ 3 → q ≠ 4 → q ≠ 5 → I1 q = I q
set_option maxRecDepth 20000 in
theorem m_keep (I : zI) (J : zJ) (P : zP) (d d1 : Nat) (hK : cK P) (q10 : P 0 10 = some d) (q11 : P 0 11 = some d1) (hdd : (d = 66 ∧ d1 = 72) ∨ (d = 72 ∧ d1 = 66)) (S : Int → Int) (hS : cSt I 3 S) (FU : Int → Int) (hFU : z_ar I 41 2 FU) (hFUb : z_bd FU 2 0 1) (k : Int) (hk : z_rg k) : z_Sp 2 yX11_keep cX11_keep 2 (some .int) 108 108 I J P [.ref 0, .int (iI k)] (fun v I1 J1 P1 => if ¬ (0 ≤ k ∧ k < 2) then q_no I J P (-1) v I1 J1 P1 else q_keep I J P k FU S v I1 J1 P1) := by
  obtain ⟨q0, q1, q2, q3, q4, q5, q6, q7, q8, q9, p1, h3, hA, hL, hTr0, hTr1, hTr2, hPn, hGs, hD66, hD72⟩ := id hK
  have hD : zDay P d := by rcases hdd with ⟨rfl, rfl⟩ | ⟨rfl, rfl⟩ <;> assumption
  obtain ⟨hd, p4, p5, p6, p7, p8⟩ := id hD
  have hD1 : zDay P d1 := by rcases hdd with ⟨rfl, rfl⟩ | ⟨rfl, rfl⟩ <;> assumption
  have hk1 := hk.1
  have hk2 := hk.2
  refine z_met false (by decide +kernel) (fun h => by cases h) (Nat.le_of_ble_eq_true rfl) (by first | decide | omega) (fun V hV => ?_)
  show V 108 I J P 0 [.ref 0, .int (iI k)] []
  refine r_iload_n hV dX11_keep_0 rfl ?_
  refine s_if_lt hV 9 dX11_keep_1 (by decide) (by unfold z_rg; first | omega | (split <;> omega)) (fun c1 => ?_) (fun c1 => ?_)
  · refine s_iconst hV dX11_keep_9 (-1) (by decide) ?_
    refine r_iret hV dX11_keep_10 rfl rfl ?_
    show ite _ _ _
    rw [if_pos (by omega)]
    exact ⟨rfl, rfl, rfl, rfl⟩
  · refine r_iload_n hV dX11_keep_4 rfl ?_
    refine s_iconst hV dX11_keep_5 (2) (by decide) ?_
    refine s_icmp_lt hV 11 dX11_keep_6 (by decide) (by unfold z_rg; first | omega | (split <;> omega)) (by unfold z_rg; first | omega | (split <;> omega)) (fun c6 => ?_) (fun c6 => ?_)
    · refine r_aload_n hV dX11_keep_11 rfl rfl ?_
      refine r_getR hV dX11_keep_12 fl_X11_33 (by first | decide | omega) (by first | rfl | assumption | exact h3.2.1 | (rcases hdd with ⟨rfl, rfl⟩ | ⟨rfl, rfl⟩ <;> rfl)) q3 ?_
      refine r_iload_n hV dX11_keep_15 rfl ?_
      refine r_aload_n hV dX11_keep_16 rfl rfl ?_
      refine r_getR hV dX11_keep_17 fl_X11_19 (by first | decide | omega) (by first | rfl | assumption | exact h3.2.1 | (rcases hdd with ⟨rfl, rfl⟩ | ⟨rfl, rfl⟩ <;> rfl)) q1 ?_
      refine r_iv2 hV dX11_keep_20 mv_X11_297 (m_sput I J P hL FU hFU hFUb k (by omega) h3 S hS) (by first | decide | omega) (by first | rfl | assumption | exact h3.2.1 | (rcases hdd with ⟨rfl, rfl⟩ | ⟨rfl, rfl⟩ <;> rfl)) (by decide) (Nat.le_refl _) (Nat.le_of_ble_eq_true rfl) (fun v2 I2 J2 P2 hq => ?_)
      obtain ⟨rfl, ej, ep, b1, b2, b3⟩ := hq
      rw [ej, ep]
      show V 108 I2 J P _ _ []
      have hS2 : cSt I2 3 S := cSt_fr hS (b3 _ (by omega) (by omega) (by omega)) (b3 _ (by omega) (by omega) (by omega))
      refine r_aload_n hV dX11_keep_23 rfl rfl ?_
      refine r_getR hV dX11_keep_24 fl_X11_19 (by first | decide | omega) (by first | rfl | assumption | exact h3.2.1 | (rcases hdd with ⟨rfl, rfl⟩ | ⟨rfl, rfl⟩ <;> rfl)) q1 ?_
      refine r_getI hV dX11_keep_27 fl_X11_127 (by first | decide | omega) (by first | rfl | assumption | exact h3.2.1 | (rcases hdd with ⟨rfl, rfl⟩ | ⟨rfl, rfl⟩ <;> rfl)) (hS2.1 2 (by omega) (by omega)) ?_
      refine r_iret hV dX11_keep_30 rfl rfl ?_
      show ite _ _ _
      rw [if_neg (by omega)]
      exact ⟨rfl, rfl, rfl, b1, b2, b3⟩
    · refine s_iconst hV dX11_keep_9 (-1) (by decide) ?_
      refine r_iret hV dX11_keep_10 rfl rfl ?_
      show ite _ _ _
      rw [if_pos (by omega)]
      exact ⟨rfl, rfl, rfl, rfl⟩

set_option maxRecDepth 20000 in
theorem m_again (I : zI) (J : zJ) (P : zP) (d d1 : Nat) (hK : cK P) (q10 : P 0 10 = some d) (q11 : P 0 11 = some d1) (hdd : (d = 66 ∧ d1 = 72) ∨ (d = 72 ∧ d1 = 66)) (FU : Int → Int) (hFU : z_ar I 41 2 FU) (hFUb : z_bd FU 2 0 1) (SL : Int → Int → Int) (hSL : ∀ k : Int, 0 ≤ k → k < 2 → FU k = 1 → cSt I (42 + 2 * k.toNat) (SL k)) (k : Int) (hk : z_rg k) : z_Sp 2 yX11_again cX11_again 2 (some .int) 108 108 I J P [.ref 0, .int (iI k)] (fun v I1 J1 P1 => if ¬ (0 ≤ k ∧ k < 2) then q_no I J P (-1) v I1 J1 P1 else if ¬ FU k = 1 then q_no I J P (-3) v I1 J1 P1 else q_again I J P (SL k) v I1 J1 P1) := by
  obtain ⟨q0, q1, q2, q3, q4, q5, q6, q7, q8, q9, p1, h3, hA, hL, hTr0, hTr1, hTr2, hPn, hGs, hD66, hD72⟩ := id hK
  have hD : zDay P d := by rcases hdd with ⟨rfl, rfl⟩ | ⟨rfl, rfl⟩ <;> assumption
  obtain ⟨hd, p4, p5, p6, p7, p8⟩ := id hD
  have hD1 : zDay P d1 := by rcases hdd with ⟨rfl, rfl⟩ | ⟨rfl, rfl⟩ <;> assumption
  have hk1 := hk.1
  have hk2 := hk.2
  refine z_met false (by decide +kernel) (fun h => by cases h) (Nat.le_of_ble_eq_true rfl) (by first | decide | omega) (fun V hV => ?_)
  show V 108 I J P 0 [.ref 0, .int (iI k)] []
  refine r_iload_n hV dX11_again_0 rfl ?_
  refine s_if_lt hV 9 dX11_again_1 (by decide) (by unfold z_rg; first | omega | (split <;> omega)) (fun c1 => ?_) (fun c1 => ?_)
  · refine s_iconst hV dX11_again_9 (-1) (by decide) ?_
    refine r_iret hV dX11_again_10 rfl rfl ?_
    show ite _ _ _
    rw [if_pos (by omega)]
    exact ⟨rfl, rfl, rfl, rfl⟩
  · refine r_iload_n hV dX11_again_4 rfl ?_
    refine s_iconst hV dX11_again_5 (2) (by decide) ?_
    refine s_icmp_lt hV 11 dX11_again_6 (by decide) (by unfold z_rg; first | omega | (split <;> omega)) (by unfold z_rg; first | omega | (split <;> omega)) (fun c6 => ?_) (fun c6 => ?_)
    · refine r_aload_n hV dX11_again_11 rfl rfl ?_
      refine r_getR hV dX11_again_12 fl_X11_33 (by first | decide | omega) (by first | rfl | assumption | exact h3.2.1 | (rcases hdd with ⟨rfl, rfl⟩ | ⟨rfl, rfl⟩ <;> rfl)) q3 ?_
      refine r_iload_n hV dX11_again_15 rfl ?_
      refine q_iv1v hV dX11_again_16 mv_X11_301 (m_holds I J P hL FU hFU hFUb k hk) (by first | decide | omega) (by first | rfl | assumption | exact h3.2.1 | (rcases hdd with ⟨rfl, rfl⟩ | ⟨rfl, rfl⟩ <;> rfl)) (by decide) (Nat.le_refl _) (Nat.le_of_ble_eq_true rfl) ?_
      refine s_if_ne hV 25 dX11_again_19 (by decide) (by unfold z_rg; first | omega | (split <;> omega)) (fun c19 => ?_) (fun c19 => ?_)
      · have hf1 : FU k = 1 := by omega
        refine r_aload_n hV dX11_again_25 rfl rfl ?_
        refine r_getR hV dX11_again_26 fl_X11_33 (by first | decide | omega) (by first | rfl | assumption | exact h3.2.1 | (rcases hdd with ⟨rfl, rfl⟩ | ⟨rfl, rfl⟩ <;> rfl)) q3 ?_
        refine r_iload_n hV dX11_again_29 rfl ?_
        refine r_aload_n hV dX11_again_30 rfl rfl ?_
        refine r_getR hV dX11_again_31 fl_X11_19 (by first | decide | omega) (by first | rfl | assumption | exact h3.2.1 | (rcases hdd with ⟨rfl, rfl⟩ | ⟨rfl, rfl⟩ <;> rfl)) q1 ?_
        refine r_iv2 hV dX11_again_34 mv_X11_304 (m_sfetch I J P hL FU hFU hFUb k (by omega) hf1 h3 (SL k) (hSL k (by omega) (by omega) hf1)) (by first | decide | omega) (by first | rfl | assumption | exact h3.2.1 | (rcases hdd with ⟨rfl, rfl⟩ | ⟨rfl, rfl⟩ <;> rfl)) (by decide) (Nat.le_refl _) (Nat.le_of_ble_eq_true rfl) (fun v2 I2 J2 P2 hq => ?_)
        obtain ⟨rfl, ej, ep, b1, b2⟩ := hq
        rw [ej, ep]
        show V 108 I2 J P _ _ []
        refine r_aload_n hV dX11_again_37 rfl rfl ?_
        refine r_getR hV dX11_again_38 fl_X11_26 (by first | decide | omega) (by first | rfl | assumption | exact h3.2.1 | (rcases hdd with ⟨rfl, rfl⟩ | ⟨rfl, rfl⟩ <;> rfl)) q2 ?_
        refine q_iv0u hV dX11_again_41 mv_X11_114 (m_aforget I2 J P) (by first | decide | omega) (by first | rfl | assumption | exact h3.2.1 | (rcases hdd with ⟨rfl, rfl⟩ | ⟨rfl, rfl⟩ <;> rfl)) (by decide) (Nat.le_refl _) (Nat.le_of_ble_eq_true rfl) ?_
        generalize hI5 : zu (zu I2 5 (zu (I2 5) 1 (iI 0))) 5 (zu (zu I2 5 (zu (I2 5) 1 (iI 0)) 5) 2 (iI 0)) = I5
        have a5 : ∀ q, q ≠ 5 → I5 q = I2 q := fun q hq => by rw [← hI5, zu_n _ _ hq, zu_n _ _ hq]
        have a51 : I5 5 1 = iI 0 := by rw [← hI5, zu_s, zu_n _ _ (by omega), zu_s, zu_s]
        have a52 : I5 5 2 = iI 0 := by rw [← hI5, zu_s, zu_s]
        have hS5 : cSt I5 3 (SL k) := cSt_fr b1 (a5 _ (by omega)) (a5 _ (by omega))
        refine r_aload_n hV dX11_again_44 rfl rfl ?_
        refine r_getR hV dX11_again_45 fl_X11_19 (by first | decide | omega) (by first | rfl | assumption | exact h3.2.1 | (rcases hdd with ⟨rfl, rfl⟩ | ⟨rfl, rfl⟩ <;> rfl)) q1 ?_
        refine r_getI hV dX11_again_48 fl_X11_127 (by first | decide | omega) (by first | rfl | assumption | exact h3.2.1 | (rcases hdd with ⟨rfl, rfl⟩ | ⟨rfl, rfl⟩ <;> rfl)) (hS5.1 2 (by omega) (by omega)) ?_
        refine r_iret hV dX11_again_51 rfl rfl ?_
        show ite _ _ _
        rw [if_neg (by omega), if_neg (by omega)]
        exact ⟨rfl, rfl, rfl, a51, a52, hS5, fun q e3 e4 e5 => (a5 q e5).trans (b2 q e3 (by omega))⟩
      · refine s_bipush hV dX11_again_22 (-3) (by decide) ?_
        refine r_iret hV dX11_again_24 rfl rfl ?_
        show ite _ _ _
        rw [if_neg (by omega), if_pos (by omega)]
        exact ⟨rfl, rfl, rfl, rfl⟩
    · refine s_iconst hV dX11_again_9 (-1) (by decide) ?_
      refine r_iret hV dX11_again_10 rfl rfl ?_
      show ite _ _ _
      rw [if_pos (by omega)]
      exact ⟨rfl, rfl, rfl, rfl⟩

def f_w0 (I : zI) (q : Nat) (z : Int) : Int := (I q z.toNat).toInt
def f_tour (n e : Nat) (F W K S W0 : Int → Int) (dn : Nat) (w x : Int) : Int := if ¬ (0 ≤ w ∧ w < 2) then -1 else if x < 0 ∨ ((2 ^ e : Nat) : Int) ≤ x then -2 else if ¬ zdf x.toNat (zdf (zset (f_can K w) e) dn) = 0 then -3 else if (f_tr F n 0 (zpw S w).toNat W0).2 ((zpl x.toNat W e ||| 2 ^ (zpw S w).toNat : Nat) : Int) < 1000000 then (f_tr F n 0 (zpw S w).toNat W0).2 ((zpl x.toNat W e ||| 2 ^ (zpw S w).toNat : Nat) : Int) else -9
def q_scr (lo hi : Nat) (I : zI) (J : zJ) (P : zP) (a : Value) (v : Option Value) (I1 : zI) (J1 : zJ) (P1 : zP) : Prop := v = some a ∧ J1 = J ∧ P1 = P ∧ ∀ q, (q < lo ∨ hi < q) → I1 q = I q
set_option maxRecDepth 20000 in
theorem m_tour (I : zI) (J : zJ) (P : zP) (d d1 : Nat) (hK : cK P) (q10 : P 0 10 = some d) (q11 : P 0 11 = some d1) (hdd : (d = 66 ∧ d1 = 72) ∨ (d = 72 ∧ d1 = 66)) (n : Nat) (hn : I d 0 = iI (n : Int)) (hnb : 2 ≤ n ∧ n ≤ 6) (e : Nat) (he : I d 3 = iI (e : Int)) (he6 : e ≤ 6) (F : Int → Int) (hF : z_ar I (d + 2) 36 F) (hFb : z_bd F 36 0 1000000) (W : Int → Int) (hW : z_ar I (d + 3) 6 W) (hWb : z_bd W e 0 (n - 1)) (K : Int → Int) (hKk : z_ar I (d + 5) 6 K) (hKb : z_bd K 6 0 2) (S : Int → Int) (hS : cSt I 3 S) (dn dh : Nat) (hg : cG n S dn dh) (w : Int) (hw : z_rg w) (x : Int) (hx : z_rg x) : z_Sp 4 yX11_tour cX11_tour 3 (some .int) 108 108 I J P [.ref 0, .int (iI w), .int (iI x)] (q_scr 46 48 I J P (.int (iI (f_tour n e F W K S (f_w0 I 48) dn w x)))) := by
  obtain ⟨q0, q1, q2, q3, q4, q5, q6, q7, q8, q9, p1, h3, hA, hL, hTr0, hTr1, hTr2, hPn, hGs, hD66, hD72⟩ := id hK
  have hD : zDay P d := by rcases hdd with ⟨rfl, rfl⟩ | ⟨rfl, rfl⟩ <;> assumption
  obtain ⟨hd, p4, p5, p6, p7, p8⟩ := id hD
  have hD1 : zDay P d1 := by rcases hdd with ⟨rfl, rfl⟩ | ⟨rfl, rfl⟩ <;> assumption
  obtain ⟨g0, g1, g2, g3, g4, g5, g6, g7, g8⟩ := id hg
  have hw1 := hw.1
  have hw2 := hw.2
  have hx1 := hx.1
  have hx2 := hx.2
  have hpw := zpw_b w hg
  have h2e := z_pn he6
  have h2p : 1 ≤ 2 ^ e := Nat.one_le_two_pow
  have hWb5 : z_bd W e 0 5 := fun z a b => by have := hWb z a b; omega
  refine z_met false (by decide +kernel) (fun h => by cases h) (Nat.le_of_ble_eq_true rfl) (by first | decide | omega) (fun V hV => ?_)
  show V 108 I J P 0 [.ref 0, .int (iI w), .int (iI x)] []
  refine r_iload_n hV dX11_tour_0 rfl ?_
  refine q_is1v hV dX11_tour_1 ms_X11_146 (m_isWalker I J P w hw) (by decide) (Nat.le_refl _) (Nat.le_of_ble_eq_true rfl) ?_
  refine s_if_ne hV 9 dX11_tour_4 (by decide) (by unfold z_rg; first | omega | (split <;> omega)) (fun c4 => ?_) (fun c4 => ?_)
  · refine r_iload_n hV dX11_tour_9 rfl ?_
    refine s_if_lt hV 24 dX11_tour_10 (by decide) (by unfold z_rg; first | omega | (split <;> omega)) (fun c10 => ?_) (fun c10 => ?_)
    · refine s_bipush hV dX11_tour_24 (-2) (by decide) ?_
      refine r_iret hV dX11_tour_26 rfl rfl ?_
      unfold f_tour
      refine ⟨?_, rfl, rfl, fun _ _ => rfl⟩
      rw [if_neg (by omega), if_pos (by omega)]
    · refine r_iload_n hV dX11_tour_13 rfl ?_
      refine r_aload_n hV dX11_tour_14 rfl rfl ?_
      refine r_getR hV dX11_tour_15 fl_X11_79 (by first | decide | omega) (by first | rfl | assumption | exact h3.2.1 | (rcases hdd with ⟨rfl, rfl⟩ | ⟨rfl, rfl⟩ <;> rfl)) q10 ?_
      refine q_iv0v hV dX11_tour_18 mv_X11_214 (m_allErrands I J P d hD (e : Int) he (by omega)) (by first | decide | omega) (by first | rfl | assumption | exact h3.2.1 | (rcases hdd with ⟨rfl, rfl⟩ | ⟨rfl, rfl⟩ <;> rfl)) (by decide) (Nat.le_refl _) (Nat.le_of_ble_eq_true rfl) ?_
      rw [show ((e : Int)).toNat = e from Int.toNat_natCast e]
      refine s_icmp_le hV 27 dX11_tour_21 (by decide) (by unfold z_rg; first | omega | (split <;> omega)) (by unfold z_rg; first | omega | (split <;> omega)) (fun c21 => ?_) (fun c21 => ?_)
      · obtain ⟨y, rfl⟩ := Int.eq_ofNat_of_zero_le (show 0 ≤ x by omega)
        have hy64 : y < 64 := by omega
        refine r_iload_n hV dX11_tour_27 rfl ?_
        refine r_aload_n hV dX11_tour_28 rfl rfl ?_
        refine r_iload_n hV dX11_tour_29 rfl ?_
        refine q_iv1v hV dX11_tour_30 mv_X11_217 (m_openTo I J P d d1 hK q10 q11 hdd n hn hnb e he he6 K hKk hKb S hS dn dh hg w hw) (by first | decide | omega) (by first | rfl | assumption | exact h3.2.1 | (rcases hdd with ⟨rfl, rfl⟩ | ⟨rfl, rfl⟩ <;> rfl)) (by decide) (Nat.le_refl _) (Nat.le_of_ble_eq_true rfl) ?_
        have hlt : zset (f_can K w) e < 64 := Nat.lt_of_lt_of_le zset_lt (Nat.pow_le_pow_right (n := 2) (by omega) he6)
        have hop : zdf (zset (f_can K w) e) dn < 64 := z_df_lt hlt
        refine s_iconst hV dX11_tour_33 (-1) (by decide) ?_
        refine s_ixor hV dX11_tour_34 (zb_not hop) ?_
        refine s_iand hV dX11_tour_35 (zb_df' hy64 hop) ?_
        have hdf : zdf y (zdf (zset (f_can K w) e) dn) < 64 := z_df_lt hy64
        refine s_if_eq hV 42 dX11_tour_36 (by decide) (by unfold z_rg; first | omega | (split <;> omega)) (fun c36 => ?_) (fun c36 => ?_)
        · refine r_aload_n hV dX11_tour_42 rfl rfl ?_
          refine r_getR hV dX11_tour_43 fl_X11_40 (by first | decide | omega) (by first | rfl | assumption | exact h3.2.1 | (rcases hdd with ⟨rfl, rfl⟩ | ⟨rfl, rfl⟩ <;> rfl)) q4 ?_
          refine r_aload_n hV dX11_tour_46 rfl rfl ?_
          refine r_getR hV dX11_tour_47 fl_X11_79 (by first | decide | omega) (by first | rfl | assumption | exact h3.2.1 | (rcases hdd with ⟨rfl, rfl⟩ | ⟨rfl, rfl⟩ <;> rfl)) q10 ?_
          refine r_aload_n hV dX11_tour_50 rfl rfl ?_
          refine r_getR hV dX11_tour_51 fl_X11_19 (by first | decide | omega) (by first | rfl | assumption | exact h3.2.1 | (rcases hdd with ⟨rfl, rfl⟩ | ⟨rfl, rfl⟩ <;> rfl)) q1 ?_
          refine r_iload_n hV dX11_tour_54 rfl ?_
          refine q_iv1v hV dX11_tour_55 mv_X11_150 (m_placeOf I J P 3 h3 S hS w hw) (by first | decide | omega) (by first | rfl | assumption | exact h3.2.1 | (rcases hdd with ⟨rfl, rfl⟩ | ⟨rfl, rfl⟩ <;> rfl)) (by decide) (Nat.le_refl _) (Nat.le_of_ble_eq_true rfl) ?_
          rw [show (if w = 0 then S 0 else S 1) = zpw S w from rfl, show iI (zpw S w) = iI (((zpw S w).toNat : Nat) : Int) by rw [Int.toNat_of_nonneg hpw.1]]
          refine s_iconst hV dX11_tour_58 (0) (by decide) ?_
          refine r_iv3 hV dX11_tour_59 mv_X11_220 (m_tbegin I J P 46 d hTr0 hD n hn (by omega) F hF hFb (zpw S w).toNat 0 (by omega) (by omega) (f_w0 I 48) (z_ar_any I 48 64)) (by first | decide | omega) (by first | rfl | assumption | exact h3.2.1 | (rcases hdd with ⟨rfl, rfl⟩ | ⟨rfl, rfl⟩ <;> rfl)) (by decide) (Nat.le_refl _) (Nat.le_of_ble_eq_true rfl) (fun v2 I2 J2 P2 hq => ?_)
          obtain ⟨rfl, ej, ep, t0, t2, tf⟩ := hq
          rw [ej, ep]
          show V 108 I2 J P _ _ []
          have tf2 : ∀ q, (q < 46 ∨ 48 < q) → I2 q = I q := fun q h => tf q (by omega) (by omega) (by omega)
          refine r_aload_n hV dX11_tour_62 rfl rfl ?_
          refine r_getR hV dX11_tour_63 fl_X11_40 (by first | decide | omega) (by first | rfl | assumption | exact h3.2.1 | (rcases hdd with ⟨rfl, rfl⟩ | ⟨rfl, rfl⟩ <;> rfl)) q4 ?_
          refine r_aload_n hV dX11_tour_66 rfl rfl ?_
          refine r_getR hV dX11_tour_67 fl_X11_79 (by first | decide | omega) (by first | rfl | assumption | exact h3.2.1 | (rcases hdd with ⟨rfl, rfl⟩ | ⟨rfl, rfl⟩ <;> rfl)) q10 ?_
          refine r_iload_n hV dX11_tour_70 rfl ?_
          refine q_iv1v hV dX11_tour_71 mv_X11_223 (m_placesOfSet I2 J P d hD (e : Int) ((congrFun (tf2 _ (by omega)) 3).trans he) (by omega) y hy64 W (z_ar_fr hW (tf2 _ (by omega))) hWb5) (by first | decide | omega) (by first | rfl | assumption | exact h3.2.1 | (rcases hdd with ⟨rfl, rfl⟩ | ⟨rfl, rfl⟩ <;> rfl)) (by decide) (Nat.le_refl _) (Nat.le_of_ble_eq_true rfl) ?_
          rw [show ((e : Int)).toNat = e from Int.toNat_natCast e]
          have hz := zpl_n (s := y) (m := e) hnb.2 hWb
          have h2n := z_pn hnb.2
          refine q_iv1v hV dX11_tour_74 mv_X11_226 (m_by I2 J P 46 hTr0 (zpw S w).toNat t0 (by omega) (f_tr F n 0 (zpw S w).toNat (f_w0 I 48)).2 t2 (zpl y W e) (by omega)) (by first | decide | omega) (by first | rfl | assumption | exact h3.2.1 | (rcases hdd with ⟨rfl, rfl⟩ | ⟨rfl, rfl⟩ <;> rfl)) (by decide) (Nat.le_refl _) (Nat.le_of_ble_eq_true rfl) ?_
          have hfr2 : 2 ^ (zpw S w).toNat < 2 ^ n := Nat.pow_lt_pow_right (by omega) (by omega)
          have hvb := f_tr_b (W0 := f_w0 I 48) (fr := (zpw S w).toNat) (home := 0) hFb hnb.2 (by omega) (by omega) ((zpl y W e ||| 2 ^ (zpw S w).toNat : Nat) : Int) (by omega) (by exact_mod_cast Nat.or_lt_two_pow hz hfr2)
          refine q_is1v hV dX11_tour_77 ms_X11_160 (m_toldSteps I2 J P _ (by unfold z_rg; omega)) (by decide) (Nat.le_refl _) (Nat.le_of_ble_eq_true rfl) ?_
          refine r_iret hV dX11_tour_80 rfl rfl ?_
          unfold f_tour
          refine ⟨?_, rfl, rfl, tf2⟩
          rw [if_neg (show ¬ ¬ (0 ≤ w ∧ w < 2) by omega), if_neg (show ¬ ((y : Int) < 0 ∨ ((2 ^ e : Nat) : Int) ≤ (y : Int)) by omega), Int.toNat_natCast, if_neg (show ¬ ¬ zdf y (zdf (zset (f_can K w) e) dn) = 0 by omega)]
        · refine s_bipush hV dX11_tour_39 (-3) (by decide) ?_
          refine r_iret hV dX11_tour_41 rfl rfl ?_
          unfold f_tour
          refine ⟨?_, rfl, rfl, fun _ _ => rfl⟩
          rw [if_neg (by omega), if_neg (by omega), Int.toNat_natCast, if_pos (by omega)]
      · refine s_bipush hV dX11_tour_24 (-2) (by decide) ?_
        refine r_iret hV dX11_tour_26 rfl rfl ?_
        unfold f_tour
        refine ⟨?_, rfl, rfl, fun _ _ => rfl⟩
        rw [if_neg (by omega), if_pos (by omega)]
  · refine s_iconst hV dX11_tour_7 (-1) (by decide) ?_
    refine r_iret hV dX11_tour_8 rfl rfl ?_
    unfold f_tour
    refine ⟨?_, rfl, rfl, fun _ _ => rfl⟩
    rw [if_pos (by omega)]

