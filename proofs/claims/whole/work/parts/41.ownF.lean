def f_byT (e : Nat) (F W U K S : Int → Int) (dn : Nat) (w : Int) : Int := if ¬ (0 ≤ w ∧ w < 2) then -1 else if 5 < zpop (zdf (2 ^ e - 1) dn) then -3 else if S 2 < f_hw F (S 0) + f_hw F (S 1) then -9 else if w = 0 then (((f_play F W U K e 7 0 (zdf (2 ^ e - 1) dn) (S 0) (S 1) (S 2)).1 : Nat) : Int) else (((f_play F W U K e 7 0 (zdf (2 ^ e - 1) dn) (S 0) (S 1) (S 2)).2 : Nat) : Int)
def q_btn (I : zI) (J : zJ) (P : zP) (a : Int) (v : Option Value) (I1 : zI) (J1 : zJ) (P1 : zP) : Prop := v = some (.int (iI a)) ∧ I1 = I ∧ J1 = J ∧ ∀ q, q ≠ 58 → P1 q = P q
set_option maxRecDepth 20000 in
theorem m_byTurns (I : zI) (J : zJ) (P : zP) (d d1 : Nat) (hK : cK P) (q10 : P 0 10 = some d) (q11 : P 0 11 = some d1) (hdd : (d = 66 ∧ d1 = 72) ∨ (d = 72 ∧ d1 = 66)) (n : Nat) (hn : I d 0 = iI (n : Int)) (hnb : 2 ≤ n ∧ n ≤ 6) (e : Nat) (he : I d 3 = iI (e : Int)) (he6 : e ≤ 6) (F : Int → Int) (hF : z_ar I (d + 2) 36 F) (hFb : z_bd F 36 0 1000000) (W : Int → Int) (hW : z_ar I (d + 3) 6 W) (hWb : z_bd W e 0 (n - 1)) (U : Int → Int) (hU : z_ar I (d + 4) 6 U) (hUb : z_bd U 6 0 9) (K : Int → Int) (hKk : z_ar I (d + 5) 6 K) (hKb : z_bd K 6 0 2) (S : Int → Int) (hS : cSt I 3 S) (dn dh : Nat) (hg : cG n S dn dh) (w : Int) (hw : z_rg w) : z_Sp 10 yX11_byTurns cX11_byTurns 6 (some .int) 108 108 I J P [.ref 0, .int (iI w)] (q_btn I J P (f_byT e F W U K S dn w)) := by
  obtain ⟨q0, q1, q2, q3, q4, q5, q6, q7, q8, q9, p1, h3, hA, hL, hTr0, hTr1, hTr2, hPn, hGs, hD66, hD72⟩ := id hK
  have hD : zDay P d := by rcases hdd with ⟨rfl, rfl⟩ | ⟨rfl, rfl⟩ <;> assumption
  obtain ⟨hd, p4, p5, p6, p7, p8⟩ := id hD
  have hD1 : zDay P d1 := by rcases hdd with ⟨rfl, rfl⟩ | ⟨rfl, rfl⟩ <;> assumption
  obtain ⟨g0, g1, g2, g3, g4, g5, g6, g7, g8⟩ := id hg
  have hw1 := hw.1
  have hw2 := hw.2
  have h2e := z_pn he6
  have h2p : 1 ≤ 2 ^ e := Nat.one_le_two_pow
  refine z_met false (by decide +kernel) (fun h => by cases h) (Nat.le_of_ble_eq_true rfl) (by first | decide | omega) (fun V hV => ?_)
  show V 108 I J P 0 [.ref 0, .int (iI w), .null, .null, .null, .null] []
  refine r_iload_n hV dX11_byTurns_0 rfl ?_
  refine q_is1v hV dX11_byTurns_1 ms_X11_146 (m_isWalker I J P w hw) (by decide) (Nat.le_refl _) (Nat.le_of_ble_eq_true rfl) ?_
  refine s_if_ne hV 9 dX11_byTurns_4 (by decide) (by unfold z_rg; first | omega | (split <;> omega)) (fun c4 => ?_) (fun c4 => ?_)
  · refine r_aload_n hV dX11_byTurns_9 rfl rfl ?_
    refine r_getR hV dX11_byTurns_10 fl_X11_79 (by first | decide | omega) (by first | rfl | assumption | exact h3.2.1 | (rcases hdd with ⟨rfl, rfl⟩ | ⟨rfl, rfl⟩ <;> rfl)) q10 ?_
    refine q_iv0v hV dX11_byTurns_13 mv_X11_214 (m_allErrands I J P d hD (e : Int) he (by omega)) (by first | decide | omega) (by first | rfl | assumption | exact h3.2.1 | (rcases hdd with ⟨rfl, rfl⟩ | ⟨rfl, rfl⟩ <;> rfl)) (by decide) (Nat.le_refl _) (Nat.le_of_ble_eq_true rfl) ?_
    rw [show ((e : Int)).toNat = e from Int.toNat_natCast e]
    rw [show ((2 ^ e : Nat) : Int) - 1 = ((2 ^ e - 1 : Nat) : Int) by omega]
    refine r_aload_n hV dX11_byTurns_16 rfl rfl ?_
    refine r_getR hV dX11_byTurns_17 fl_X11_19 (by first | decide | omega) (by first | rfl | assumption | exact h3.2.1 | (rcases hdd with ⟨rfl, rfl⟩ | ⟨rfl, rfl⟩ <;> rfl)) q1 ?_
    refine r_getI hV dX11_byTurns_20 fl_X11_130 (by first | decide | omega) (by first | rfl | assumption | exact h3.2.1 | (rcases hdd with ⟨rfl, rfl⟩ | ⟨rfl, rfl⟩ <;> rfl)) (hS.1 3 (by omega) (by omega)) ?_
    rw [g3]
    refine s_iconst hV dX11_byTurns_23 (-1) (by decide) ?_
    refine s_ixor hV dX11_byTurns_24 (zb_not g4) ?_
    refine s_iand hV dX11_byTurns_25 (zb_df' (by omega) g4) ?_
    have ho64 : zdf (2 ^ e - 1) dn < 64 := z_df_lt (by omega)
    refine r_istore_n hV dX11_byTurns_26 (Nat.le_of_ble_eq_true rfl) (z_st1_6_2 rfl) ?_
    refine r_iload_n hV dX11_byTurns_27 rfl ?_
    refine q_is1v hV dX11_byTurns_28 ms_X11_253 (m_bitCount I J P 108 (zdf (2 ^ e - 1) dn) ho64) (by decide) (Nat.le_refl _) (Nat.le_of_ble_eq_true rfl) ?_
    have hpc : zpop (zdf (2 ^ e - 1) dn) ≤ 6 := by unfold zpop; (repeat' split) <;> omega
    refine s_iconst hV dX11_byTurns_31 (5) (by decide) ?_
    refine s_icmp_le hV 38 dX11_byTurns_32 (by decide) (by unfold z_rg; first | omega | (split <;> omega)) (by unfold z_rg; first | omega | (split <;> omega)) (fun c32 => ?_) (fun c32 => ?_)
    · refine r_aload_n hV dX11_byTurns_38 rfl rfl ?_
      refine r_getR hV dX11_byTurns_39 fl_X11_19 (by first | decide | omega) (by first | rfl | assumption | exact h3.2.1 | (rcases hdd with ⟨rfl, rfl⟩ | ⟨rfl, rfl⟩ <;> rfl)) q1 ?_
      refine s_iconst hV dX11_byTurns_42 (0) (by decide) ?_
      refine q_iv1v hV dX11_byTurns_43 mv_X11_150 (m_placeOf I J P 3 h3 S hS 0 (by unfold z_rg; omega)) (by first | decide | omega) (by first | rfl | assumption | exact h3.2.1 | (rcases hdd with ⟨rfl, rfl⟩ | ⟨rfl, rfl⟩ <;> rfl)) (by decide) (Nat.le_refl _) (Nat.le_of_ble_eq_true rfl) ?_
      rw [if_pos rfl]
      refine r_istore_n hV dX11_byTurns_46 (Nat.le_of_ble_eq_true rfl) (z_st1_6_3 rfl) ?_
      refine r_aload_n hV dX11_byTurns_47 rfl rfl ?_
      refine r_getR hV dX11_byTurns_48 fl_X11_19 (by first | decide | omega) (by first | rfl | assumption | exact h3.2.1 | (rcases hdd with ⟨rfl, rfl⟩ | ⟨rfl, rfl⟩ <;> rfl)) q1 ?_
      refine s_iconst hV dX11_byTurns_51 (1) (by decide) ?_
      refine q_iv1v hV dX11_byTurns_52 mv_X11_150 (m_placeOf I J P 3 h3 S hS 1 (by unfold z_rg; omega)) (by first | decide | omega) (by first | rfl | assumption | exact h3.2.1 | (rcases hdd with ⟨rfl, rfl⟩ | ⟨rfl, rfl⟩ <;> rfl)) (by decide) (Nat.le_refl _) (Nat.le_of_ble_eq_true rfl) ?_
      rw [if_neg (by omega)]
      refine r_istore hV dX11_byTurns_55 (Nat.le_of_ble_eq_true rfl) (z_st1_6_4 rfl) ?_
      refine r_aload_n hV dX11_byTurns_57 rfl rfl ?_
      refine r_getR hV dX11_byTurns_58 fl_X11_54 (by first | decide | omega) (by first | rfl | assumption | exact h3.2.1 | (rcases hdd with ⟨rfl, rfl⟩ | ⟨rfl, rfl⟩ <;> rfl)) q6 ?_
      refine r_aload_n hV dX11_byTurns_61 rfl rfl ?_
      refine r_getR hV dX11_byTurns_62 fl_X11_79 (by first | decide | omega) (by first | rfl | assumption | exact h3.2.1 | (rcases hdd with ⟨rfl, rfl⟩ | ⟨rfl, rfl⟩ <;> rfl)) q10 ?_
      refine r_iv1 hV dX11_byTurns_65 mv_X11_258 (m_tubegin I J P d) (by first | decide | omega) (by first | rfl | assumption | exact h3.2.1 | (rcases hdd with ⟨rfl, rfl⟩ | ⟨rfl, rfl⟩ <;> rfl)) (by decide) (Nat.le_refl _) (Nat.le_of_ble_eq_true rfl) (fun v2 I2 J2 P2 hq => ?_)
      obtain ⟨rfl, ei, ej, e58, ef⟩ := hq
      rw [ei, ej]
      show V 108 I J P2 _ _ []
      have hD2 : zDay P2 d := zDay_fr hD (ef d (by omega))
      refine r_aload_n hV dX11_byTurns_68 rfl rfl ?_
      refine r_getR hV dX11_byTurns_69 fl_X11_54 (by first | decide | omega) (by first | rfl | assumption | exact h3.2.1 | (rcases hdd with ⟨rfl, rfl⟩ | ⟨rfl, rfl⟩ <;> rfl)) ((congrFun (ef 0 (by omega)) 6).trans q6) ?_
      refine r_iload_n hV dX11_byTurns_72 rfl ?_
      refine q_iv1v hV dX11_byTurns_73 mv_X11_261 (m_homeward I J P2 d e58 hD2 n hn (by omega) F hF (S 0) (Or.inr g0)) (by first | decide | omega) (by first | rfl | assumption | exact h3.2.1 | (rcases hdd with ⟨rfl, rfl⟩ | ⟨rfl, rfl⟩ <;> rfl)) (by decide) (Nat.le_refl _) (Nat.le_of_ble_eq_true rfl) ?_
      rw [show (if S 0 = -1 then (0 : Int) else F (S 0 * 6)) = f_hw F (S 0) from rfl]
      refine r_aload_n hV dX11_byTurns_76 rfl rfl ?_
      refine r_getR hV dX11_byTurns_77 fl_X11_54 (by first | decide | omega) (by first | rfl | assumption | exact h3.2.1 | (rcases hdd with ⟨rfl, rfl⟩ | ⟨rfl, rfl⟩ <;> rfl)) ((congrFun (ef 0 (by omega)) 6).trans q6) ?_
      refine r_iload hV dX11_byTurns_80 rfl ?_
      refine q_iv1v hV dX11_byTurns_82 mv_X11_261 (m_homeward I J P2 d e58 hD2 n hn (by omega) F hF (S 1) (Or.inr g1)) (by first | decide | omega) (by first | rfl | assumption | exact h3.2.1 | (rcases hdd with ⟨rfl, rfl⟩ | ⟨rfl, rfl⟩ <;> rfl)) (by decide) (Nat.le_refl _) (Nat.le_of_ble_eq_true rfl) ?_
      rw [show (if S 1 = -1 then (0 : Int) else F (S 1 * 6)) = f_hw F (S 1) from rfl]
      have hw0 := f_hw_b (a := S 0) hFb hnb.2 (Or.inr g0)
      have hw1 := f_hw_b (a := S 1) hFb hnb.2 (Or.inr g1)
      refine s_iadd hV dX11_byTurns_85 ?_
      refine r_aload_n hV dX11_byTurns_86 rfl rfl ?_
      refine r_getR hV dX11_byTurns_87 fl_X11_19 (by first | decide | omega) (by first | rfl | assumption | exact h3.2.1 | (rcases hdd with ⟨rfl, rfl⟩ | ⟨rfl, rfl⟩ <;> rfl)) ((congrFun (ef 0 (by omega)) 1).trans q1) ?_
      refine r_getI hV dX11_byTurns_90 fl_X11_127 (by first | decide | omega) (by first | rfl | assumption | exact h3.2.1 | (rcases hdd with ⟨rfl, rfl⟩ | ⟨rfl, rfl⟩ <;> rfl)) (hS.1 2 (by omega) (by omega)) ?_
      refine s_icmp_le hV 99 dX11_byTurns_93 (by decide) (by unfold z_rg; first | omega | (split <;> omega)) (by unfold z_rg; first | omega | (split <;> omega)) (fun c93 => ?_) (fun c93 => ?_)
      · refine r_aload_n hV dX11_byTurns_99 rfl rfl ?_
        refine r_getR hV dX11_byTurns_100 fl_X11_54 (by first | decide | omega) (by first | rfl | assumption | exact h3.2.1 | (rcases hdd with ⟨rfl, rfl⟩ | ⟨rfl, rfl⟩ <;> rfl)) ((congrFun (ef 0 (by omega)) 6).trans q6) ?_
        refine s_iconst hV dX11_byTurns_103 (0) (by decide) ?_
        refine s_iconst hV dX11_byTurns_104 (0) (by decide) ?_
        refine r_iload_n hV dX11_byTurns_105 rfl ?_
        refine r_iload_n hV dX11_byTurns_106 rfl ?_
        refine r_iload hV dX11_byTurns_107 rfl ?_
        refine r_aload_n hV dX11_byTurns_109 rfl rfl ?_
        refine r_getR hV dX11_byTurns_110 fl_X11_19 (by first | decide | omega) (by first | rfl | assumption | exact h3.2.1 | (rcases hdd with ⟨rfl, rfl⟩ | ⟨rfl, rfl⟩ <;> rfl)) ((congrFun (ef 0 (by omega)) 1).trans q1) ?_
        refine r_getI hV dX11_byTurns_113 fl_X11_127 (by first | decide | omega) (by first | rfl | assumption | exact h3.2.1 | (rcases hdd with ⟨rfl, rfl⟩ | ⟨rfl, rfl⟩ <;> rfl)) (hS.1 2 (by omega) (by omega)) ?_
        refine q_is7v hV dX11_byTurns_116 ms_X11_264 (m_play_all I J P2 d e58 hD2 n hn (by omega) e he he6 F W U K hF hFb hW hWb hU hUb hKk hKb 7 (by omega) 0 (zdf (2 ^ e - 1) dn) (S 0) (S 1) (S 2) 0 (by omega) (by omega) ho64 (Or.inr g0) (Or.inr g1) (fun _ => by omega) (fun _ => by omega) (by omega) (by omega)) (by decide) (Nat.le_refl _) (Nat.le_of_ble_eq_true rfl) ?_
        have hpb := f_play_b (D := F) (W := W) (K := K) (e := e) hUb 7 0 (zdf (2 ^ e - 1) dn) (S 0) (S 1) (S 2)
        refine r_istore hV dX11_byTurns_119 (Nat.le_of_ble_eq_true rfl) (z_st1_6_5 rfl) ?_
        refine r_iload hV dX11_byTurns_121 rfl ?_
        refine r_iload_n hV dX11_byTurns_123 rfl ?_
        refine q_is2v hV dX11_byTurns_124 ms_X11_268 (m_share I J P2 _ _ (by omega) (by omega) w (by omega)) (by decide) (Nat.le_refl _) (Nat.le_of_ble_eq_true rfl) ?_
        refine r_iret hV dX11_byTurns_127 rfl rfl ?_
        refine ⟨?_, rfl, rfl, ef⟩
        unfold f_byT
        (repeat' split) <;> first | rfl | (exfalso; omega)
      · refine s_bipush hV dX11_byTurns_96 (-9) (by decide) ?_
        refine r_iret hV dX11_byTurns_98 rfl rfl ?_
        refine ⟨?_, rfl, rfl, ef⟩
        unfold f_byT
        rw [if_neg (by omega), if_neg (by omega), if_pos (by omega)]
    · refine s_bipush hV dX11_byTurns_35 (-3) (by decide) ?_
      refine r_iret hV dX11_byTurns_37 rfl rfl ?_
      refine ⟨?_, rfl, rfl, fun _ _ => rfl⟩
      unfold f_byT
      rw [if_neg (by omega), if_pos (by omega)]
  · refine s_iconst hV dX11_byTurns_7 (-1) (by decide) ?_
    refine r_iret hV dX11_byTurns_8 rfl rfl ?_
    refine ⟨?_, rfl, rfl, fun _ _ => rfl⟩
    unfold f_byT
    rw [if_pos (by omega)]

def f_ledger (n : Nat) (F : Int → Int) (pl w t : Int) : Int := if ¬ (0 ≤ pl ∧ pl < n) then -1 else if (w < 0 ∨ 8 < w) ∨ t < 0 ∨ 999 < t then -2 else zsum (fun k => f_wy F n pl w.toNat ((k : Int) * 1000 + t)) n
def f_endb (n : Nat) (F : Int → Int) (pl w t : Int) (k : Nat) : Bool := decide (0 < f_wy F n pl w.toNat ((k : Int) * 1000 + t))
def f_ends (n : Nat) (F : Int → Int) (pl w t : Int) : Int := if ¬ (0 ≤ pl ∧ pl < n) then -1 else if (w < 0 ∨ 8 < w) ∨ t < 0 ∨ 999 < t then -2 else ((zset (f_endb n F pl w t) n : Nat) : Int)
def q_rows (I : zI) (J : zJ) (P : zP) (a : Value) (v : Option Value) (I1 : zI) (J1 : zJ) (P1 : zP) : Prop := v = some a ∧ J1 = J ∧ (∀ q, q ≠ 59 → P1 q = P q) ∧ (∃ a b, zRw P1 a b) ∧ ∀ q, (q < 59 ∨ 61 < q) → I1 q = I q
set_option maxRecDepth 20000 in
theorem m_ledger (I : zI) (J : zJ) (P : zP) (d d1 : Nat) (hK : cK P) (q10 : P 0 10 = some d) (q11 : P 0 11 = some d1) (hdd : (d = 66 ∧ d1 = 72) ∨ (d = 72 ∧ d1 = 66)) (hRw : ∃ a b, zRw P a b) (n : Nat) (hn : I d 0 = iI (n : Int)) (hnb : 2 ≤ n ∧ n ≤ 6) (F : Int → Int) (hF : z_ar I (d + 2) 36 F) (hFb : z_bd F 36 0 1000000) (pl : Int) (hpl : z_rg pl) (w : Int) (hw : z_rg w) (t : Int) (ht : z_rg t) : z_Sp 5 yX11_ledger cX11_ledger 7 (some .long) 108 108 I J P [.ref 0, .int (iI pl), .int (iI w), .int (iI t)] (q_rows I J P (.long (lI (f_ledger n F pl w t)))) := by
  obtain ⟨q0, q1, q2, q3, q4, q5, q6, q7, q8, q9, p1, h3, hA, hL, hTr0, hTr1, hTr2, hPn, hGs, hD66, hD72⟩ := id hK
  have hD : zDay P d := by rcases hdd with ⟨rfl, rfl⟩ | ⟨rfl, rfl⟩ <;> assumption
  obtain ⟨hd, p4, p5, p6, p7, p8⟩ := id hD
  have hD1 : zDay P d1 := by rcases hdd with ⟨rfl, rfl⟩ | ⟨rfl, rfl⟩ <;> assumption
  have hpl1 := hpl.1
  have hpl2 := hpl.2
  have hw1 := hw.1
  have hw2 := hw.2
  have ht1 := ht.1
  have ht2 := ht.2
  obtain ⟨a0, b0, hRw⟩ := hRw
  refine z_met false (by decide +kernel) (fun h => by cases h) (Nat.le_of_ble_eq_true rfl) (by first | decide | omega) (fun V hV => ?_)
  show V 108 I J P 0 [.ref 0, .int (iI pl), .int (iI w), .int (iI t), .null, .null, .null] []
  refine r_aload_n hV dX11_ledger_0 rfl rfl ?_
  refine r_getR hV dX11_ledger_1 fl_X11_79 (by first | decide | omega) (by first | rfl | assumption | exact h3.2.1 | (rcases hdd with ⟨rfl, rfl⟩ | ⟨rfl, rfl⟩ <;> rfl)) q10 ?_
  refine r_iload_n hV dX11_ledger_4 rfl ?_
  refine q_iv1v hV dX11_ledger_5 mv_X11_153 (m_isPlace I J P d hD (n : Int) hn (by omega) (pl) (by unfold z_rg; omega)) (by first | decide | omega) (by first | rfl | assumption | exact h3.2.1 | (rcases hdd with ⟨rfl, rfl⟩ | ⟨rfl, rfl⟩ <;> rfl)) (by decide) (Nat.le_refl _) (Nat.le_of_ble_eq_true rfl) ?_
  refine s_if_ne hV 15 dX11_ledger_8 (by decide) (by unfold z_rg; first | omega | (split <;> omega)) (fun c8 => ?_) (fun c8 => ?_)
  · refine r_iload_n hV dX11_ledger_15 rfl ?_
    refine s_if_lt hV 36 dX11_ledger_16 (by decide) (by unfold z_rg; first | omega | (split <;> omega)) (fun c16 => ?_) (fun c16 => ?_)
    · refine s_ldc2_w hV dX11_ledger_36 cl_X11_273 (-2) (by decide) ?_
      refine r_lret hV dX11_ledger_39 rfl rfl ?_
      refine ⟨?_, rfl, fun _ _ => rfl, ⟨a0, b0, hRw⟩, fun _ _ => rfl⟩
      unfold f_ledger
      rw [if_neg (by omega), if_pos (by omega)]
    · refine r_iload_n hV dX11_ledger_19 rfl ?_
      refine s_bipush hV dX11_ledger_20 (8) (by decide) ?_
      refine s_icmp_gt hV 36 dX11_ledger_22 (by decide) (by unfold z_rg; first | omega | (split <;> omega)) (by unfold z_rg; first | omega | (split <;> omega)) (fun c22 => ?_) (fun c22 => ?_)
      · refine s_ldc2_w hV dX11_ledger_36 cl_X11_273 (-2) (by decide) ?_
        refine r_lret hV dX11_ledger_39 rfl rfl ?_
        refine ⟨?_, rfl, fun _ _ => rfl, ⟨a0, b0, hRw⟩, fun _ _ => rfl⟩
        unfold f_ledger
        rw [if_neg (by omega), if_pos (by omega)]
      · refine r_iload_n hV dX11_ledger_25 rfl ?_
        refine s_if_lt hV 36 dX11_ledger_26 (by decide) (by unfold z_rg; first | omega | (split <;> omega)) (fun c26 => ?_) (fun c26 => ?_)
        · refine s_ldc2_w hV dX11_ledger_36 cl_X11_273 (-2) (by decide) ?_
          refine r_lret hV dX11_ledger_39 rfl rfl ?_
          refine ⟨?_, rfl, fun _ _ => rfl, ⟨a0, b0, hRw⟩, fun _ _ => rfl⟩
          unfold f_ledger
          rw [if_neg (by omega), if_pos (by omega)]
        · refine r_iload_n hV dX11_ledger_29 rfl ?_
          refine s_sipush hV dX11_ledger_30 (999) (by decide) ?_
          refine s_icmp_le hV 40 dX11_ledger_33 (by decide) (by unfold z_rg; first | omega | (split <;> omega)) (by unfold z_rg; first | omega | (split <;> omega)) (fun c33 => ?_) (fun c33 => ?_)
          · obtain ⟨m, rfl⟩ := Int.eq_ofNat_of_zero_le (show 0 ≤ w by omega)
            refine r_aload_n hV dX11_ledger_40 rfl rfl ?_
            refine r_getR hV dX11_ledger_41 fl_X11_61 (by first | decide | omega) (by first | rfl | assumption | exact h3.2.1 | (rcases hdd with ⟨rfl, rfl⟩ | ⟨rfl, rfl⟩ <;> rfl)) q7 ?_
            refine r_aload_n hV dX11_ledger_44 rfl rfl ?_
            refine r_getR hV dX11_ledger_45 fl_X11_79 (by first | decide | omega) (by first | rfl | assumption | exact h3.2.1 | (rcases hdd with ⟨rfl, rfl⟩ | ⟨rfl, rfl⟩ <;> rfl)) q10 ?_
            refine r_iload_n hV dX11_ledger_48 rfl ?_
            refine r_iload_n hV dX11_ledger_49 rfl ?_
            refine r_iload_n hV dX11_ledger_50 rfl ?_
            refine r_iv4 hV dX11_ledger_51 mv_X11_275 (m_count I J P a0 b0 hRw d hD n hn hnb.2 F hF hFb pl (by omega) m (by omega) t (by omega) (f_w0 I a0) (f_w0 I b0) (z_ar_any I a0 6000) (z_ar_any I b0 6000)) (by first | decide | omega) (by first | rfl | assumption | exact h3.2.1 | (rcases hdd with ⟨rfl, rfl⟩ | ⟨rfl, rfl⟩ <;> rfl)) (by decide) (Nat.le_refl _) (Nat.le_of_ble_eq_true rfl) (fun v2 I2 J2 P2 hq => ?_)
            have hall := f_rw_all (F := F) (n := n) (pl := pl) (t := t) (C0 := f_w0 I a0) (L0 := f_w0 I b0) hFb hnb.2 (by omega) (by omega) m
            generalize zit (f_ct F n t) m (0, zup (f_cl 0 (f_w0 I a0)) (pl * 1000) 1, f_w0 I b0) = S at hq hall
            obtain ⟨rfl, ej, ⟨a, b, hRw2, hA2, hB2⟩, pf, hR2, hRb2, fr⟩ := hq
            rw [ej]
            show V 108 I2 J P2 _ _ []
            obtain ⟨hr1, hr2, hr3⟩ := hall
            have hval : ∀ k : Nat, k < n → (if (0 ≤ (k : Int) ∧ (k : Int) < 6) ∧ 0 ≤ t ∧ t ≤ S.1 then S.2.1 ((k : Int) * 1000 + t) else 0) = f_wy F n pl m ((k : Int) * 1000 + t) := fun k hk => by
              by_cases hs : t ≤ S.1
              · rw [if_pos (by omega)]; exact hr2 _ (by omega) (by omega) (by omega)
              · rw [if_neg (by omega)]; exact (hr3 _ (by omega) (by omega) (by omega) (by omega)).symm
            have hwb : ∀ k : Nat, 0 ≤ f_wy F n pl m ((k : Int) * 1000 + t) ∧ f_wy F n pl m ((k : Int) * 1000 + t) ≤ 1679616 := fun k => by
              have h1 := f_wy_b (F := F) (pl := pl) hnb.2 m ((k : Int) * 1000 + t)
              have h2 : ((6 ^ m : Nat) : Int) ≤ ((1679616 : Nat) : Int) := Int.ofNat_le.mpr (Nat.le_trans (Nat.pow_le_pow_right (n := 6) (by decide) (show m ≤ 8 by omega)) (by decide))
              rw [show ((6 ^ m : Nat) : Int) = 6 ^ m by simp] at h2
              omega
            refine s_lconst hV dX11_ledger_54 (0) (by decide) ?_
            refine r_lstore hV dX11_ledger_55 (Nat.le_of_ble_eq_true rfl) (z_st2_7_4 rfl) ?_
            refine s_iconst hV dX11_ledger_57 (0) (by decide) ?_
            refine r_istore hV dX11_ledger_58 (Nat.le_of_ble_eq_true rfl) (z_st1_7_6 rfl) ?_
            have L60 : ∀ (k60 j : Nat), n - j < k60 → j ≤ n → V 108 I2 J P2 60 [.ref 0, .int (iI pl), .int (iI (m : Int)), .int (iI t), .long (lI (zsum (fun k => f_wy F n pl m ((k : Int) * 1000 + t)) j)), .null, .int (iI (j : Int))] [] := by
              intro k60
              induction k60 with
              | zero => intro j  hk1 hk2; omega
              | succ k60 ih60 =>
                intro j  hk60 hl60 
                refine r_iload hV dX11_ledger_60 rfl ?_
                refine r_aload_n hV dX11_ledger_62 rfl rfl ?_
                refine r_getR hV dX11_ledger_63 fl_X11_79 (by first | decide | omega) (by first | rfl | assumption | exact h3.2.1 | (rcases hdd with ⟨rfl, rfl⟩ | ⟨rfl, rfl⟩ <;> rfl)) ((congrFun (pf 0 (by omega)) 10).trans q10) ?_
                refine r_getI hV dX11_ledger_66 fl_X11_118 (by first | decide | omega) (by first | rfl | assumption | exact h3.2.1 | (rcases hdd with ⟨rfl, rfl⟩ | ⟨rfl, rfl⟩ <;> rfl)) ((congrFun (fr _ (by omega)) 0).trans hn) ?_
                refine s_icmp_ge hV 94 dX11_ledger_69 (by decide) (by unfold z_rg; first | omega | (split <;> omega)) (by unfold z_rg; first | omega | (split <;> omega)) (fun c69 => ?_) (fun c69 => ?_)
                · refine r_lload hV dX11_ledger_94 rfl ?_
                  refine r_lret hV dX11_ledger_96 rfl rfl ?_
                  rw [show j = n by omega]
                  refine ⟨?_, rfl, pf, ⟨a, b, hRw2⟩, fr⟩
                  unfold f_ledger
                  rw [if_neg (by omega), if_neg (by omega), Int.toNat_natCast]
                · refine r_lload hV dX11_ledger_72 rfl ?_
                  refine r_aload_n hV dX11_ledger_74 rfl rfl ?_
                  refine r_getR hV dX11_ledger_75 fl_X11_61 (by first | decide | omega) (by first | rfl | assumption | exact h3.2.1 | (rcases hdd with ⟨rfl, rfl⟩ | ⟨rfl, rfl⟩ <;> rfl)) ((congrFun (pf 0 (by omega)) 7).trans q7) ?_
                  refine r_iload hV dX11_ledger_78 rfl ?_
                  refine r_iload_n hV dX11_ledger_80 rfl ?_
                  refine q_iv2v hV dX11_ledger_81 mv_X11_278 (m_endingAt I2 J P2 a b hRw2 S.1 hR2 hRb2 S.2.1 hA2 (j : Int) t (by unfold z_rg; omega) ht) (by first | decide | omega) (by first | rfl | assumption | exact h3.2.1 | (rcases hdd with ⟨rfl, rfl⟩ | ⟨rfl, rfl⟩ <;> rfl)) (by decide) (Nat.le_refl _) (Nat.le_of_ble_eq_true rfl) ?_
                  rw [hval j (by omega)]
                  have hwj := hwb j
                  refine s_i2l hV dX11_ledger_84 (by unfold z_rg; first | omega | (split <;> omega)) ?_
                  refine s_ladd hV dX11_ledger_85 ?_
                  refine r_lstore hV dX11_ledger_86 (Nat.le_of_ble_eq_true rfl) (z_st2_7_4 rfl) ?_
                  refine s_iinc hV dX11_ledger_88 rfl (z_st1_7_6 rfl) ?_
                  refine r_goto hV 60 dX11_ledger_91 (by decide) ?_
                  exact ih60 (j + 1) (by omega) (by omega)
            exact L60 (n + 1) 0 (by omega) (by omega)
          · refine s_ldc2_w hV dX11_ledger_36 cl_X11_273 (-2) (by decide) ?_
            refine r_lret hV dX11_ledger_39 rfl rfl ?_
            refine ⟨?_, rfl, fun _ _ => rfl, ⟨a0, b0, hRw⟩, fun _ _ => rfl⟩
            unfold f_ledger
            rw [if_neg (by omega), if_pos (by omega)]
  · refine s_ldc2_w hV dX11_ledger_11 cl_X11_271 (-1) (by decide) ?_
    refine r_lret hV dX11_ledger_14 rfl rfl ?_
    refine ⟨?_, rfl, fun _ _ => rfl, ⟨a0, b0, hRw⟩, fun _ _ => rfl⟩
    unfold f_ledger
    rw [if_pos (by omega)]

set_option maxRecDepth 20000 in
theorem m_ends (I : zI) (J : zJ) (P : zP) (d d1 : Nat) (hK : cK P) (q10 : P 0 10 = some d) (q11 : P 0 11 = some d1) (hdd : (d = 66 ∧ d1 = 72) ∨ (d = 72 ∧ d1 = 66)) (hRw : ∃ a b, zRw P a b) (n : Nat) (hn : I d 0 = iI (n : Int)) (hnb : 2 ≤ n ∧ n ≤ 6) (F : Int → Int) (hF : z_ar I (d + 2) 36 F) (hFb : z_bd F 36 0 1000000) (pl : Int) (hpl : z_rg pl) (w : Int) (hw : z_rg w) (t : Int) (ht : z_rg t) : z_Sp 5 yX11_ends cX11_ends 6 (some .int) 108 108 I J P [.ref 0, .int (iI pl), .int (iI w), .int (iI t)] (q_rows I J P (.int (iI (f_ends n F pl w t)))) := by
  obtain ⟨q0, q1, q2, q3, q4, q5, q6, q7, q8, q9, p1, h3, hA, hL, hTr0, hTr1, hTr2, hPn, hGs, hD66, hD72⟩ := id hK
  have hD : zDay P d := by rcases hdd with ⟨rfl, rfl⟩ | ⟨rfl, rfl⟩ <;> assumption
  obtain ⟨hd, p4, p5, p6, p7, p8⟩ := id hD
  have hD1 : zDay P d1 := by rcases hdd with ⟨rfl, rfl⟩ | ⟨rfl, rfl⟩ <;> assumption
  have hpl1 := hpl.1
  have hpl2 := hpl.2
  have hw1 := hw.1
  have hw2 := hw.2
  have ht1 := ht.1
  have ht2 := ht.2
  obtain ⟨a0, b0, hRw⟩ := hRw
  refine z_met false (by decide +kernel) (fun h => by cases h) (Nat.le_of_ble_eq_true rfl) (by first | decide | omega) (fun V hV => ?_)
  show V 108 I J P 0 [.ref 0, .int (iI pl), .int (iI w), .int (iI t), .null, .null] []
  refine r_aload_n hV dX11_ends_0 rfl rfl ?_
  refine r_getR hV dX11_ends_1 fl_X11_79 (by first | decide | omega) (by first | rfl | assumption | exact h3.2.1 | (rcases hdd with ⟨rfl, rfl⟩ | ⟨rfl, rfl⟩ <;> rfl)) q10 ?_
  refine r_iload_n hV dX11_ends_4 rfl ?_
  refine q_iv1v hV dX11_ends_5 mv_X11_153 (m_isPlace I J P d hD (n : Int) hn (by omega) (pl) (by unfold z_rg; omega)) (by first | decide | omega) (by first | rfl | assumption | exact h3.2.1 | (rcases hdd with ⟨rfl, rfl⟩ | ⟨rfl, rfl⟩ <;> rfl)) (by decide) (Nat.le_refl _) (Nat.le_of_ble_eq_true rfl) ?_
  refine s_if_ne hV 13 dX11_ends_8 (by decide) (by unfold z_rg; first | omega | (split <;> omega)) (fun c8 => ?_) (fun c8 => ?_)
  · refine r_iload_n hV dX11_ends_13 rfl ?_
    refine s_if_lt hV 34 dX11_ends_14 (by decide) (by unfold z_rg; first | omega | (split <;> omega)) (fun c14 => ?_) (fun c14 => ?_)
    · refine s_bipush hV dX11_ends_34 (-2) (by decide) ?_
      refine r_iret hV dX11_ends_36 rfl rfl ?_
      refine ⟨?_, rfl, fun _ _ => rfl, ⟨a0, b0, hRw⟩, fun _ _ => rfl⟩
      unfold f_ends
      rw [if_neg (by omega), if_pos (by omega)]
    · refine r_iload_n hV dX11_ends_17 rfl ?_
      refine s_bipush hV dX11_ends_18 (8) (by decide) ?_
      refine s_icmp_gt hV 34 dX11_ends_20 (by decide) (by unfold z_rg; first | omega | (split <;> omega)) (by unfold z_rg; first | omega | (split <;> omega)) (fun c20 => ?_) (fun c20 => ?_)
      · refine s_bipush hV dX11_ends_34 (-2) (by decide) ?_
        refine r_iret hV dX11_ends_36 rfl rfl ?_
        refine ⟨?_, rfl, fun _ _ => rfl, ⟨a0, b0, hRw⟩, fun _ _ => rfl⟩
        unfold f_ends
        rw [if_neg (by omega), if_pos (by omega)]
      · refine r_iload_n hV dX11_ends_23 rfl ?_
        refine s_if_lt hV 34 dX11_ends_24 (by decide) (by unfold z_rg; first | omega | (split <;> omega)) (fun c24 => ?_) (fun c24 => ?_)
        · refine s_bipush hV dX11_ends_34 (-2) (by decide) ?_
          refine r_iret hV dX11_ends_36 rfl rfl ?_
          refine ⟨?_, rfl, fun _ _ => rfl, ⟨a0, b0, hRw⟩, fun _ _ => rfl⟩
          unfold f_ends
          rw [if_neg (by omega), if_pos (by omega)]
        · refine r_iload_n hV dX11_ends_27 rfl ?_
          refine s_sipush hV dX11_ends_28 (999) (by decide) ?_
          refine s_icmp_le hV 37 dX11_ends_31 (by decide) (by unfold z_rg; first | omega | (split <;> omega)) (by unfold z_rg; first | omega | (split <;> omega)) (fun c31 => ?_) (fun c31 => ?_)
          · obtain ⟨m, rfl⟩ := Int.eq_ofNat_of_zero_le (show 0 ≤ w by omega)
            refine r_aload_n hV dX11_ends_37 rfl rfl ?_
            refine r_getR hV dX11_ends_38 fl_X11_61 (by first | decide | omega) (by first | rfl | assumption | exact h3.2.1 | (rcases hdd with ⟨rfl, rfl⟩ | ⟨rfl, rfl⟩ <;> rfl)) q7 ?_
            refine r_aload_n hV dX11_ends_41 rfl rfl ?_
            refine r_getR hV dX11_ends_42 fl_X11_79 (by first | decide | omega) (by first | rfl | assumption | exact h3.2.1 | (rcases hdd with ⟨rfl, rfl⟩ | ⟨rfl, rfl⟩ <;> rfl)) q10 ?_
            refine r_iload_n hV dX11_ends_45 rfl ?_
            refine r_iload_n hV dX11_ends_46 rfl ?_
            refine r_iload_n hV dX11_ends_47 rfl ?_
            refine r_iv4 hV dX11_ends_48 mv_X11_275 (m_count I J P a0 b0 hRw d hD n hn hnb.2 F hF hFb pl (by omega) m (by omega) t (by omega) (f_w0 I a0) (f_w0 I b0) (z_ar_any I a0 6000) (z_ar_any I b0 6000)) (by first | decide | omega) (by first | rfl | assumption | exact h3.2.1 | (rcases hdd with ⟨rfl, rfl⟩ | ⟨rfl, rfl⟩ <;> rfl)) (by decide) (Nat.le_refl _) (Nat.le_of_ble_eq_true rfl) (fun v2 I2 J2 P2 hq => ?_)
            have hall := f_rw_all (F := F) (n := n) (pl := pl) (t := t) (C0 := f_w0 I a0) (L0 := f_w0 I b0) hFb hnb.2 (by omega) (by omega) m
            generalize zit (f_ct F n t) m (0, zup (f_cl 0 (f_w0 I a0)) (pl * 1000) 1, f_w0 I b0) = S at hq hall
            obtain ⟨rfl, ej, ⟨a, b, hRw2, hA2, hB2⟩, pf, hR2, hRb2, fr⟩ := hq
            rw [ej]
            show V 108 I2 J P2 _ _ []
            obtain ⟨hr1, hr2, hr3⟩ := hall
            have hval : ∀ k : Nat, k < n → (if (0 ≤ (k : Int) ∧ (k : Int) < 6) ∧ 0 ≤ t ∧ t ≤ S.1 then S.2.1 ((k : Int) * 1000 + t) else 0) = f_wy F n pl m ((k : Int) * 1000 + t) := fun k hk => by
              by_cases hs : t ≤ S.1
              · rw [if_pos (by omega)]; exact hr2 _ (by omega) (by omega) (by omega)
              · rw [if_neg (by omega)]; exact (hr3 _ (by omega) (by omega) (by omega) (by omega)).symm
            have hwb : ∀ k : Nat, 0 ≤ f_wy F n pl m ((k : Int) * 1000 + t) ∧ f_wy F n pl m ((k : Int) * 1000 + t) ≤ 1679616 := fun k => by
              have h1 := f_wy_b (F := F) (pl := pl) hnb.2 m ((k : Int) * 1000 + t)
              have h2 : ((6 ^ m : Nat) : Int) ≤ ((1679616 : Nat) : Int) := Int.ofNat_le.mpr (Nat.le_trans (Nat.pow_le_pow_right (n := 6) (by decide) (show m ≤ 8 by omega)) (by decide))
              rw [show ((6 ^ m : Nat) : Int) = 6 ^ m by simp] at h2
              omega
            refine s_iconst hV dX11_ends_51 (0) (by decide) ?_
            refine r_istore hV dX11_ends_52 (Nat.le_of_ble_eq_true rfl) (z_st1_6_4 rfl) ?_
            refine s_iconst hV dX11_ends_54 (0) (by decide) ?_
            refine r_istore hV dX11_ends_55 (Nat.le_of_ble_eq_true rfl) (z_st1_6_5 rfl) ?_
            have L57 : ∀ (k57 j : Nat), n - j < k57 → j ≤ n → V 108 I2 J P2 57 [.ref 0, .int (iI pl), .int (iI (m : Int)), .int (iI t), .int (iI ((zset (f_endb n F pl (m : Int) t) j : Nat) : Int)), .int (iI (j : Int))] [] := by
              intro k57
              induction k57 with
              | zero => intro j  hk1 hk2; omega
              | succ k57 ih57 =>
                intro j  hk57 hl57 
                have hlt2 : zset (f_endb n F pl (m : Int) t) j < 64 := Nat.lt_of_lt_of_le zset_lt (Nat.pow_le_pow_right (n := 2) (by omega) (show j ≤ 6 by omega))
                have hnx : ∀ s : Nat, zset (f_endb n F pl (m : Int) t) (j + 1) = s → j < n → V 108 I2 J P2 57 [.ref 0, .int (iI pl), .int (iI (m : Int)), .int (iI t), .int (iI (s : Int)), .int (iI ((j : Int) + 1))] [] := fun s hs hj => by subst hs; exact ih57 (j + 1) (by omega) (by omega)
                refine r_iload hV dX11_ends_57 rfl ?_
                refine r_aload_n hV dX11_ends_59 rfl rfl ?_
                refine r_getR hV dX11_ends_60 fl_X11_79 (by first | decide | omega) (by first | rfl | assumption | exact h3.2.1 | (rcases hdd with ⟨rfl, rfl⟩ | ⟨rfl, rfl⟩ <;> rfl)) ((congrFun (pf 0 (by omega)) 10).trans q10) ?_
                refine r_getI hV dX11_ends_63 fl_X11_118 (by first | decide | omega) (by first | rfl | assumption | exact h3.2.1 | (rcases hdd with ⟨rfl, rfl⟩ | ⟨rfl, rfl⟩ <;> rfl)) ((congrFun (fr _ (by omega)) 0).trans hn) ?_
                refine s_icmp_ge hV 97 dX11_ends_66 (by decide) (by unfold z_rg; first | omega | (split <;> omega)) (by unfold z_rg; first | omega | (split <;> omega)) (fun c66 => ?_) (fun c66 => ?_)
                · refine r_iload hV dX11_ends_97 rfl ?_
                  refine r_iret hV dX11_ends_99 rfl rfl ?_
                  rw [show j = n by omega]
                  refine ⟨?_, rfl, pf, ⟨a, b, hRw2⟩, fr⟩
                  unfold f_ends
                  rw [if_neg (by omega), if_neg (by omega)]
                · refine r_aload_n hV dX11_ends_69 rfl rfl ?_
                  refine r_getR hV dX11_ends_70 fl_X11_61 (by first | decide | omega) (by first | rfl | assumption | exact h3.2.1 | (rcases hdd with ⟨rfl, rfl⟩ | ⟨rfl, rfl⟩ <;> rfl)) ((congrFun (pf 0 (by omega)) 7).trans q7) ?_
                  refine r_iload hV dX11_ends_73 rfl ?_
                  refine r_iload_n hV dX11_ends_75 rfl ?_
                  refine q_iv2v hV dX11_ends_76 mv_X11_278 (m_endingAt I2 J P2 a b hRw2 S.1 hR2 hRb2 S.2.1 hA2 (j : Int) t (by unfold z_rg; omega) ht) (by first | decide | omega) (by first | rfl | assumption | exact h3.2.1 | (rcases hdd with ⟨rfl, rfl⟩ | ⟨rfl, rfl⟩ <;> rfl)) (by decide) (Nat.le_refl _) (Nat.le_of_ble_eq_true rfl) ?_
                  rw [hval j (by omega)]
                  have hwj := hwb j
                  refine s_if_le hV 91 dX11_ends_79 (by decide) (by unfold z_rg; first | omega | (split <;> omega)) (fun c79 => ?_) (fun c79 => ?_)
                  · refine s_iinc hV dX11_ends_91 rfl (z_st1_6_5 rfl) ?_
                    refine r_goto hV 57 dX11_ends_94 (by decide) ?_
                    refine hnx _ (by rw [zset]; unfold f_endb; rw [Int.toNat_natCast]; first | rw [if_pos (by simp only [decide_eq_true_eq]; omega)] | rw [if_neg (by simp only [decide_eq_true_eq]; omega)]) (by omega)
                  · have hpw := z_pw (k := j) (by omega)
                    refine r_iload hV dX11_ends_82 rfl ?_
                    refine s_iconst hV dX11_ends_84 (1) (by decide) ?_
                    refine r_iload hV dX11_ends_85 rfl ?_
                    refine s_ishl hV dX11_ends_87 (by first | exact zb_shl (by omega) | exact zb_shl' (by omega) (by omega)) ?_
                    refine s_ior hV dX11_ends_88 (zb_or (by omega) (by omega)) ?_
                    refine r_istore hV dX11_ends_89 (Nat.le_of_ble_eq_true rfl) (z_st1_6_4 rfl) ?_
                    refine s_iinc hV dX11_ends_91 rfl (z_st1_6_5 rfl) ?_
                    refine r_goto hV 57 dX11_ends_94 (by decide) ?_
                    refine hnx _ (by rw [zset]; unfold f_endb; rw [Int.toNat_natCast]; first | rw [if_pos (by simp only [decide_eq_true_eq]; omega)] | rw [if_neg (by simp only [decide_eq_true_eq]; omega)]) (by omega)
            exact L57 (n + 1) 0 (by omega) (by omega)
          · refine s_bipush hV dX11_ends_34 (-2) (by decide) ?_
            refine r_iret hV dX11_ends_36 rfl rfl ?_
            refine ⟨?_, rfl, fun _ _ => rfl, ⟨a0, b0, hRw⟩, fun _ _ => rfl⟩
            unfold f_ends
            rw [if_neg (by omega), if_pos (by omega)]
  · refine s_iconst hV dX11_ends_11 (-1) (by decide) ?_
    refine r_iret hV dX11_ends_12 rfl rfl ?_
    refine ⟨?_, rfl, fun _ _ => rfl, ⟨a0, b0, hRw⟩, fun _ _ => rfl⟩
    unfold f_ends
    rw [if_pos (by omega)]

