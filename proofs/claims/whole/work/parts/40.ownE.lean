def q_set2 (I : zI) (J : zJ) (P : zP) (C : zB5) (v : Option Value) (I1 : zI) (J1 : zJ) (P1 : zP) : Prop := v = none ∧ J1 = J ∧ P1 = P ∧ ∃ B, f_like B C ∧ cPl I1 B ∧ bPl B ∧ I1 49 4 = I 49 4 ∧ I1 49 5 = I 49 5 ∧ ∀ q, (q < 49 ∨ 57 < q) → I1 q = I q
theorem q_set2_of {I : zI} {J : zJ} {P : zP} {n e : Nat} {F W U X Y : Int → Int} {rE iE her him home : Nat} {left a b c g : Int} {v : Option Value} {I1 : zI} {J1 : zJ} {P1 : zP} (hn : n ≤ 6) (hW : z_bd W e 0 (n - 1)) (hher : her < n) (hhim : him < n) (h : q_set I J P (zit (f_tp (f_HR e her W (f_tr F n home her X).2) (f_HS e him iE W (f_tr F n home him Y).2) (f_WO e U) left rE (2 ^ e)) (2 ^ e) (0, a, b, c, g)) v I1 J1 P1) : q_set2 I J P (f_stl n e F W U rE iE her him home left) v I1 J1 P1 := by
  obtain ⟨h1, h2, h3, h4, h5, h6, h7, h8⟩ := h
  exact ⟨h1, h2, h3, _, f_stl_g hn hW hher hhim, h4, h5, h6, h7, h8⟩
/-- what is asked of what was settled -/
def f_plan (B : zB5) (w : Int) : Int := if w < 0 ∨ 3 < w then -2 else if B.1 = 0 then -9 else if w = 0 then B.2.1 else if w = 1 then B.2.2.1 else if w = 2 then B.2.2.2.1 else B.2.2.2.2
theorem q_scr_no {lo hi : Nat} {I : zI} {J : zJ} {P : zP} {a : Value} : q_scr lo hi I J P a (some a) I J P := ⟨rfl, rfl, rfl, fun _ _ => rfl⟩
set_option maxRecDepth 20000 in
theorem m_plan (I : zI) (J : zJ) (P : zP) (d d1 : Nat) (hK : cK P) (q10 : P 0 10 = some d) (q11 : P 0 11 = some d1) (hdd : (d = 66 ∧ d1 = 72) ∨ (d = 72 ∧ d1 = 66)) (n : Nat) (hn : I d 0 = iI (n : Int)) (hnb : 2 ≤ n ∧ n ≤ 6) (e : Nat) (he : I d 3 = iI (e : Int)) (he6 : e ≤ 6) (F : Int → Int) (hF : z_ar I (d + 2) 36 F) (hFb : z_bd F 36 0 1000000) (W : Int → Int) (hW : z_ar I (d + 3) 6 W) (hWb : z_bd W e 0 (n - 1)) (U : Int → Int) (hU : z_ar I (d + 4) 6 U) (hUb : z_bd U 6 0 9) (K : Int → Int) (hKk : z_ar I (d + 5) 6 K) (hKb : z_bd K 6 0 2) (S : Int → Int) (hS : cSt I 3 S) (dn dh : Nat) (hg : cG n S dn dh) (w : Int) (hw : z_rg w) : z_Sp 5 yX11_plan cX11_plan 2 (some .int) 108 108 I J P [.ref 0, .int (iI w)] (q_scr 49 57 I J P (.int (iI (f_plan (f_stl n e F W U (zdf (zset (f_can K 0) e) dn) (zdf (zset (f_can K 1) e) dn) (S 0).toNat (S 1).toNat 0 (S 2)) w)))) := by
  obtain ⟨q0, q1, q2, q3, q4, q5, q6, q7, q8, q9, p1, h3, hA, hL, hTr0, hTr1, hTr2, hPn, hGs, hD66, hD72⟩ := id hK
  have hD : zDay P d := by rcases hdd with ⟨rfl, rfl⟩ | ⟨rfl, rfl⟩ <;> assumption
  obtain ⟨hd, p4, p5, p6, p7, p8⟩ := id hD
  have hD1 : zDay P d1 := by rcases hdd with ⟨rfl, rfl⟩ | ⟨rfl, rfl⟩ <;> assumption
  obtain ⟨g0, g1, g2, g3, g4, g5, g6, g7, g8⟩ := id hg
  have hw1 := hw.1
  have hw2 := hw.2
  refine z_met false (by decide +kernel) (fun h => by cases h) (Nat.le_of_ble_eq_true rfl) (by first | decide | omega) (fun V hV => ?_)
  show V 108 I J P 0 [.ref 0, .int (iI w)] []
  refine r_iload_n hV dX11_plan_0 rfl ?_
  refine s_if_lt hV 9 dX11_plan_1 (by decide) (by unfold z_rg; first | omega | (split <;> omega)) (fun c1 => ?_) (fun c1 => ?_)
  · refine s_bipush hV dX11_plan_9 (-2) (by decide) ?_
    refine r_iret hV dX11_plan_11 rfl rfl ?_
    have e0 : f_plan (f_stl n e F W U (zdf (zset (f_can K 0) e) dn) (zdf (zset (f_can K 1) e) dn) (S 0).toNat (S 1).toNat 0 (S 2)) w = -2 := by unfold f_plan; rw [if_pos (by omega)]
    rw [e0]
    exact q_scr_no
  · refine r_iload_n hV dX11_plan_4 rfl ?_
    refine s_iconst hV dX11_plan_5 (3) (by decide) ?_
    refine s_icmp_le hV 12 dX11_plan_6 (by decide) (by unfold z_rg; first | omega | (split <;> omega)) (by unfold z_rg; first | omega | (split <;> omega)) (fun c6 => ?_) (fun c6 => ?_)
    · refine r_aload_n hV dX11_plan_12 rfl rfl ?_
      refine r_getR hV dX11_plan_13 fl_X11_47 (by first | decide | omega) (by first | rfl | assumption | exact h3.2.1 | (rcases hdd with ⟨rfl, rfl⟩ | ⟨rfl, rfl⟩ <;> rfl)) q5 ?_
      refine r_aload_n hV dX11_plan_16 rfl rfl ?_
      refine s_iconst hV dX11_plan_17 (0) (by decide) ?_
      refine q_iv1v hV dX11_plan_18 mv_X11_217 (m_openTo I J P d d1 hK q10 q11 hdd n hn hnb e he he6 K hKk hKb S hS dn dh hg 0 (by unfold z_rg; omega)) (by first | decide | omega) (by first | rfl | assumption | exact h3.2.1 | (rcases hdd with ⟨rfl, rfl⟩ | ⟨rfl, rfl⟩ <;> rfl)) (by decide) (Nat.le_refl _) (Nat.le_of_ble_eq_true rfl) ?_
      have hlt0 : zset (f_can K 0) e < 64 := Nat.lt_of_lt_of_le zset_lt (Nat.pow_le_pow_right (n := 2) (by omega) he6)
      have hop0 : zdf (zset (f_can K 0) e) dn < 64 := z_df_lt hlt0
      refine r_aload_n hV dX11_plan_21 rfl rfl ?_
      refine s_iconst hV dX11_plan_22 (1) (by decide) ?_
      refine q_iv1v hV dX11_plan_23 mv_X11_217 (m_openTo I J P d d1 hK q10 q11 hdd n hn hnb e he he6 K hKk hKb S hS dn dh hg 1 (by unfold z_rg; omega)) (by first | decide | omega) (by first | rfl | assumption | exact h3.2.1 | (rcases hdd with ⟨rfl, rfl⟩ | ⟨rfl, rfl⟩ <;> rfl)) (by decide) (Nat.le_refl _) (Nat.le_of_ble_eq_true rfl) ?_
      have hlt1 : zset (f_can K 1) e < 64 := Nat.lt_of_lt_of_le zset_lt (Nat.pow_le_pow_right (n := 2) (by omega) he6)
      have hop1 : zdf (zset (f_can K 1) e) dn < 64 := z_df_lt hlt1
      refine q_iv2u hV dX11_plan_26 mv_X11_229 (m_offer I J P _ _) (by first | decide | omega) (by first | rfl | assumption | exact h3.2.1 | (rcases hdd with ⟨rfl, rfl⟩ | ⟨rfl, rfl⟩ <;> rfl)) (by decide) (Nat.le_refl _) (Nat.le_of_ble_eq_true rfl) ?_
      generalize hI2 : zu (zu I 49 (zu (I 49) 4 (iI ((zdf (zset (f_can K 0) e) dn : Nat) : Int)))) 49 (zu (zu I 49 (zu (I 49) 4 (iI ((zdf (zset (f_can K 0) e) dn : Nat) : Int))) 49) 5 (iI ((zdf (zset (f_can K 1) e) dn : Nat) : Int))) = I2
      have of : ∀ q, q ≠ 49 → I2 q = I q := fun q h => by rw [← hI2, zu_n _ _ h, zu_n _ _ h]
      have o4 : I2 49 4 = iI ((zdf (zset (f_can K 0) e) dn : Nat) : Int) := by rw [← hI2, zu_s, zu_n _ _ (by omega), zu_s, zu_s]
      have o5 : I2 49 5 = iI ((zdf (zset (f_can K 1) e) dn : Nat) : Int) := by rw [← hI2, zu_s, zu_s]
      clear hI2
      have hS2 : cSt I2 3 S := cSt_fr hS (of _ (by omega)) (of _ (by omega))
      refine r_aload_n hV dX11_plan_29 rfl rfl ?_
      refine r_getR hV dX11_plan_30 fl_X11_47 (by first | decide | omega) (by first | rfl | assumption | exact h3.2.1 | (rcases hdd with ⟨rfl, rfl⟩ | ⟨rfl, rfl⟩ <;> rfl)) q5 ?_
      refine r_aload_n hV dX11_plan_33 rfl rfl ?_
      refine r_getR hV dX11_plan_34 fl_X11_79 (by first | decide | omega) (by first | rfl | assumption | exact h3.2.1 | (rcases hdd with ⟨rfl, rfl⟩ | ⟨rfl, rfl⟩ <;> rfl)) q10 ?_
      refine r_aload_n hV dX11_plan_37 rfl rfl ?_
      refine r_getR hV dX11_plan_38 fl_X11_19 (by first | decide | omega) (by first | rfl | assumption | exact h3.2.1 | (rcases hdd with ⟨rfl, rfl⟩ | ⟨rfl, rfl⟩ <;> rfl)) q1 ?_
      refine s_iconst hV dX11_plan_41 (0) (by decide) ?_
      refine q_iv1v hV dX11_plan_42 mv_X11_150 (m_placeOf I2 J P 3 h3 S hS2 0 (by unfold z_rg; omega)) (by first | decide | omega) (by first | rfl | assumption | exact h3.2.1 | (rcases hdd with ⟨rfl, rfl⟩ | ⟨rfl, rfl⟩ <;> rfl)) (by decide) (Nat.le_refl _) (Nat.le_of_ble_eq_true rfl) ?_
      rw [if_pos rfl, show iI (S 0) = iI (((S 0).toNat : Nat) : Int) by rw [Int.toNat_of_nonneg g0.1]]
      refine r_aload_n hV dX11_plan_45 rfl rfl ?_
      refine r_getR hV dX11_plan_46 fl_X11_19 (by first | decide | omega) (by first | rfl | assumption | exact h3.2.1 | (rcases hdd with ⟨rfl, rfl⟩ | ⟨rfl, rfl⟩ <;> rfl)) q1 ?_
      refine s_iconst hV dX11_plan_49 (1) (by decide) ?_
      refine q_iv1v hV dX11_plan_50 mv_X11_150 (m_placeOf I2 J P 3 h3 S hS2 1 (by unfold z_rg; omega)) (by first | decide | omega) (by first | rfl | assumption | exact h3.2.1 | (rcases hdd with ⟨rfl, rfl⟩ | ⟨rfl, rfl⟩ <;> rfl)) (by decide) (Nat.le_refl _) (Nat.le_of_ble_eq_true rfl) ?_
      rw [if_neg (by omega), show iI (S 1) = iI (((S 1).toNat : Nat) : Int) by rw [Int.toNat_of_nonneg g1.1]]
      refine s_iconst hV dX11_plan_53 (0) (by decide) ?_
      refine r_aload_n hV dX11_plan_54 rfl rfl ?_
      refine r_getR hV dX11_plan_55 fl_X11_19 (by first | decide | omega) (by first | rfl | assumption | exact h3.2.1 | (rcases hdd with ⟨rfl, rfl⟩ | ⟨rfl, rfl⟩ <;> rfl)) q1 ?_
      refine r_getI hV dX11_plan_58 fl_X11_127 (by first | decide | omega) (by first | rfl | assumption | exact h3.2.1 | (rcases hdd with ⟨rfl, rfl⟩ | ⟨rfl, rfl⟩ <;> rfl)) (hS2.1 2 (by omega) (by omega)) ?_
      refine r_iv5 hV dX11_plan_61 mv_X11_232 (m_settle I2 J P hPn hTr1 hTr2 d hD n ((congrFun (of _ (by omega)) 0).trans hn) hnb e ((congrFun (of _ (by omega)) 3).trans he) he6 F (z_ar_fr hF (of _ (by omega))) hFb W U (z_ar_fr hW (of _ (by omega))) hWb (z_ar_fr hU (of _ (by omega))) hUb (zdf (zset (f_can K 0) e) dn) (zdf (zset (f_can K 1) e) dn) o4 o5 hop0 hop1 (S 0).toNat (S 1).toNat 0 (by omega) (by omega) (by omega) (S 2) (by omega)) (by first | decide | omega) (by first | rfl | assumption | exact h3.2.1 | (rcases hdd with ⟨rfl, rfl⟩ | ⟨rfl, rfl⟩ <;> rfl)) (by decide) (Nat.le_refl _) (Nat.le_of_ble_eq_true rfl) (fun v3 I3 J3 P3 hq => ?_)
      have hq := q_set2_of hnb.2 hWb (by omega) (by omega) hq
      obtain ⟨rfl, ej, ep, B, hlk, hcB, hbB, r4, r5, rf⟩ := hq
      rw [ej, ep]
      show V 108 I3 J P _ _ []
      obtain ⟨c6, c7, c8, c9, c10⟩ := hcB
      have hb1 := hbB.1
      refine r_aload_n hV dX11_plan_64 rfl rfl ?_
      refine r_getR hV dX11_plan_65 fl_X11_47 (by first | decide | omega) (by first | rfl | assumption | exact h3.2.1 | (rcases hdd with ⟨rfl, rfl⟩ | ⟨rfl, rfl⟩ <;> rfl)) q5 ?_
      refine r_getI hV dX11_plan_68 fl_X11_236 (by first | decide | omega) (by first | rfl | assumption | exact h3.2.1 | (rcases hdd with ⟨rfl, rfl⟩ | ⟨rfl, rfl⟩ <;> rfl)) c6 ?_
      refine s_if_ne hV 77 dX11_plan_71 (by decide) (by unfold z_rg; first | omega | (split <;> omega)) (fun c71 => ?_) (fun c71 => ?_)
      · refine r_iload_n hV dX11_plan_77 rfl ?_
        refine s_tsw hV dX11_plan_78 (by unfold z_rg; first | omega | (split <;> omega)) (fun ho78 => ⟨128, by decide, ?_⟩) (fun hl78 hh78 => ?_)
        · refine r_aload_n hV dX11_plan_128 rfl rfl ?_
          refine r_getR hV dX11_plan_129 fl_X11_47 (by first | decide | omega) (by first | rfl | assumption | exact h3.2.1 | (rcases hdd with ⟨rfl, rfl⟩ | ⟨rfl, rfl⟩ <;> rfl)) q5 ?_
          refine r_getI hV dX11_plan_132 fl_X11_247 (by first | decide | omega) (by first | rfl | assumption | exact h3.2.1 | (rcases hdd with ⟨rfl, rfl⟩ | ⟨rfl, rfl⟩ <;> rfl)) c10 ?_
          refine r_iret hV dX11_plan_135 rfl rfl ?_
          refine ⟨?_, rfl, rfl, fun q h => (rf q h).trans (of q (by omega))⟩
          rcases hlk with ⟨l1, l2⟩ | ⟨l1, l2⟩
          · first | (exfalso; omega) | (unfold f_plan; rw [if_neg (by omega), if_pos l2])
          · first | (exfalso; omega) | (rw [← l2]; unfold f_plan; rw [if_neg (by omega), if_neg (by omega), if_neg (by omega), if_neg (by omega), if_neg (by omega)])
        · rcases (show w = 0 ∨ w = 1 ∨ w = 2 by omega) with w78 | w78 | w78
          · rw [w78]
            refine ⟨26, 104, rfl, by decide, ?_⟩
            refine r_aload_n hV dX11_plan_104 rfl rfl ?_
            refine r_getR hV dX11_plan_105 fl_X11_47 (by first | decide | omega) (by first | rfl | assumption | exact h3.2.1 | (rcases hdd with ⟨rfl, rfl⟩ | ⟨rfl, rfl⟩ <;> rfl)) q5 ?_
            refine r_getI hV dX11_plan_108 fl_X11_240 (by first | decide | omega) (by first | rfl | assumption | exact h3.2.1 | (rcases hdd with ⟨rfl, rfl⟩ | ⟨rfl, rfl⟩ <;> rfl)) c7 ?_
            refine r_iret hV dX11_plan_111 rfl rfl ?_
            refine ⟨?_, rfl, rfl, fun q h => (rf q h).trans (of q (by omega))⟩
            rcases hlk with ⟨l1, l2⟩ | ⟨l1, l2⟩
            · first | (exfalso; omega) | (unfold f_plan; rw [if_neg (by omega), if_pos l2])
            · first | (exfalso; omega) | (rw [← l2]; unfold f_plan; rw [if_neg (by omega), if_neg (by omega), if_pos (by omega)])
          · rw [w78]
            refine ⟨34, 112, rfl, by decide, ?_⟩
            refine r_aload_n hV dX11_plan_112 rfl rfl ?_
            refine r_getR hV dX11_plan_113 fl_X11_47 (by first | decide | omega) (by first | rfl | assumption | exact h3.2.1 | (rcases hdd with ⟨rfl, rfl⟩ | ⟨rfl, rfl⟩ <;> rfl)) q5 ?_
            refine r_getI hV dX11_plan_116 fl_X11_243 (by first | decide | omega) (by first | rfl | assumption | exact h3.2.1 | (rcases hdd with ⟨rfl, rfl⟩ | ⟨rfl, rfl⟩ <;> rfl)) c8 ?_
            refine r_iret hV dX11_plan_119 rfl rfl ?_
            refine ⟨?_, rfl, rfl, fun q h => (rf q h).trans (of q (by omega))⟩
            rcases hlk with ⟨l1, l2⟩ | ⟨l1, l2⟩
            · first | (exfalso; omega) | (unfold f_plan; rw [if_neg (by omega), if_pos l2])
            · first | (exfalso; omega) | (rw [← l2]; unfold f_plan; rw [if_neg (by omega), if_neg (by omega), if_neg (by omega), if_pos (by omega)])
          · rw [w78]
            refine ⟨42, 120, rfl, by decide, ?_⟩
            refine r_aload_n hV dX11_plan_120 rfl rfl ?_
            refine r_getR hV dX11_plan_121 fl_X11_47 (by first | decide | omega) (by first | rfl | assumption | exact h3.2.1 | (rcases hdd with ⟨rfl, rfl⟩ | ⟨rfl, rfl⟩ <;> rfl)) q5 ?_
            refine r_getI hV dX11_plan_124 fl_X11_244 (by first | decide | omega) (by first | rfl | assumption | exact h3.2.1 | (rcases hdd with ⟨rfl, rfl⟩ | ⟨rfl, rfl⟩ <;> rfl)) c9 ?_
            refine r_iret hV dX11_plan_127 rfl rfl ?_
            refine ⟨?_, rfl, rfl, fun q h => (rf q h).trans (of q (by omega))⟩
            rcases hlk with ⟨l1, l2⟩ | ⟨l1, l2⟩
            · first | (exfalso; omega) | (unfold f_plan; rw [if_neg (by omega), if_pos l2])
            · first | (exfalso; omega) | (rw [← l2]; unfold f_plan; rw [if_neg (by omega), if_neg (by omega), if_neg (by omega), if_neg (by omega), if_pos (by omega)])
      · refine s_bipush hV dX11_plan_74 (-9) (by decide) ?_
        refine r_iret hV dX11_plan_76 rfl rfl ?_
        refine ⟨?_, rfl, rfl, fun q h => (rf q h).trans (of q (by omega))⟩
        rcases hlk with ⟨l1, l2⟩ | ⟨l1, l2⟩
        · first | (exfalso; omega) | (unfold f_plan; rw [if_neg (by omega), if_pos l2])
        · first | (exfalso; omega) | (rw [← l2]; unfold f_plan; rw [if_neg (by omega), if_neg (by omega)])
    · refine s_bipush hV dX11_plan_9 (-2) (by decide) ?_
      refine r_iret hV dX11_plan_11 rfl rfl ?_
      have e0 : f_plan (f_stl n e F W U (zdf (zset (f_can K 0) e) dn) (zdf (zset (f_can K 1) e) dn) (S 0).toNat (S 1).toNat 0 (S 2)) w = -2 := by unfold f_plan; rw [if_pos (by omega)]
      rw [e0]
      exact q_scr_no

def f_lv (n e : Nat) (F W U K : Int → Int) (st : Int) (j : Nat) (b : Int × Int) : Int × Int := if (f_stl n e F W U (zset (f_can K 0) e) (zset (f_can K 1) e) j j j st).1 = 1 ∧ b.2 < (f_stl n e F W U (zset (f_can K 0) e) (zset (f_can K 1) e) j j j st).2.1 then ((j : Int), (f_stl n e F W U (zset (f_can K 0) e) (zset (f_can K 1) e) j j j st).2.1) else b
def f_live (n e : Nat) (F W U K : Int → Int) (st : Int) : Int := (zit (f_lv n e F W U K st) n (0, -1)).1
set_option maxRecDepth 20000 in
theorem m_live (I : zI) (J : zJ) (P : zP) (d d1 : Nat) (hK : cK P) (q10 : P 0 10 = some d) (q11 : P 0 11 = some d1) (hdd : (d = 66 ∧ d1 = 72) ∨ (d = 72 ∧ d1 = 66)) (n : Nat) (hn : I d 0 = iI (n : Int)) (hnb : 2 ≤ n ∧ n ≤ 6) (e : Nat) (he : I d 3 = iI (e : Int)) (he6 : e ≤ 6) (F : Int → Int) (hF : z_ar I (d + 2) 36 F) (hFb : z_bd F 36 0 1000000) (W : Int → Int) (hW : z_ar I (d + 3) 6 W) (hWb : z_bd W e 0 (n - 1)) (U : Int → Int) (hU : z_ar I (d + 4) 6 U) (hUb : z_bd U 6 0 9) (K : Int → Int) (hKk : z_ar I (d + 5) 6 K) (hKb : z_bd K 6 0 2) (st : Int) (hst : I d 1 = iI st) (hsb : 0 ≤ st ∧ st ≤ 999) : z_Sp 5 yX11_live cX11_live 4 (some .int) 108 108 I J P [.ref 0] (q_scr 49 57 I J P (.int (iI (f_live n e F W U K st)))) := by
  obtain ⟨q0, q1, q2, q3, q4, q5, q6, q7, q8, q9, p1, h3, hA, hL, hTr0, hTr1, hTr2, hPn, hGs, hD66, hD72⟩ := id hK
  have hD : zDay P d := by rcases hdd with ⟨rfl, rfl⟩ | ⟨rfl, rfl⟩ <;> assumption
  obtain ⟨hd, p4, p5, p6, p7, p8⟩ := id hD
  have hD1 : zDay P d1 := by rcases hdd with ⟨rfl, rfl⟩ | ⟨rfl, rfl⟩ <;> assumption
  refine z_met false (by decide +kernel) (fun h => by cases h) (Nat.le_of_ble_eq_true rfl) (by first | decide | omega) (fun V hV => ?_)
  show V 108 I J P 0 [.ref 0, .null, .null, .null] []
  refine s_iconst hV dX11_live_0 (0) (by decide) ?_
  refine r_istore_n hV dX11_live_1 (Nat.le_of_ble_eq_true rfl) (z_st1_4_1 rfl) ?_
  refine s_iconst hV dX11_live_2 (-1) (by decide) ?_
  refine r_istore_n hV dX11_live_3 (Nat.le_of_ble_eq_true rfl) (z_st1_4_2 rfl) ?_
  refine r_aload_n hV dX11_live_4 rfl rfl ?_
  refine r_getR hV dX11_live_5 fl_X11_47 (by first | decide | omega) (by first | rfl | assumption | exact h3.2.1 | (rcases hdd with ⟨rfl, rfl⟩ | ⟨rfl, rfl⟩ <;> rfl)) q5 ?_
  refine r_aload_n hV dX11_live_8 rfl rfl ?_
  refine r_getR hV dX11_live_9 fl_X11_79 (by first | decide | omega) (by first | rfl | assumption | exact h3.2.1 | (rcases hdd with ⟨rfl, rfl⟩ | ⟨rfl, rfl⟩ <;> rfl)) q10 ?_
  refine s_iconst hV dX11_live_12 (0) (by decide) ?_
  refine q_iv1v hV dX11_live_13 mv_X11_250 (m_allFor I J P d hD (e : Int) he (by omega) 0 (by unfold z_rg; omega) K hKk hKb) (by first | decide | omega) (by first | rfl | assumption | exact h3.2.1 | (rcases hdd with ⟨rfl, rfl⟩ | ⟨rfl, rfl⟩ <;> rfl)) (by decide) (Nat.le_refl _) (Nat.le_of_ble_eq_true rfl) ?_
  rw [show ((e : Int)).toNat = e from Int.toNat_natCast e]
  have hlt0 : zset (f_can K 0) e < 64 := Nat.lt_of_lt_of_le zset_lt (Nat.pow_le_pow_right (n := 2) (by omega) he6)
  refine r_aload_n hV dX11_live_16 rfl rfl ?_
  refine r_getR hV dX11_live_17 fl_X11_79 (by first | decide | omega) (by first | rfl | assumption | exact h3.2.1 | (rcases hdd with ⟨rfl, rfl⟩ | ⟨rfl, rfl⟩ <;> rfl)) q10 ?_
  refine s_iconst hV dX11_live_20 (1) (by decide) ?_
  refine q_iv1v hV dX11_live_21 mv_X11_250 (m_allFor I J P d hD (e : Int) he (by omega) 1 (by unfold z_rg; omega) K hKk hKb) (by first | decide | omega) (by first | rfl | assumption | exact h3.2.1 | (rcases hdd with ⟨rfl, rfl⟩ | ⟨rfl, rfl⟩ <;> rfl)) (by decide) (Nat.le_refl _) (Nat.le_of_ble_eq_true rfl) ?_
  rw [show ((e : Int)).toNat = e from Int.toNat_natCast e]
  have hlt1 : zset (f_can K 1) e < 64 := Nat.lt_of_lt_of_le zset_lt (Nat.pow_le_pow_right (n := 2) (by omega) he6)
  refine q_iv2u hV dX11_live_24 mv_X11_229 (m_offer I J P _ _) (by first | decide | omega) (by first | rfl | assumption | exact h3.2.1 | (rcases hdd with ⟨rfl, rfl⟩ | ⟨rfl, rfl⟩ <;> rfl)) (by decide) (Nat.le_refl _) (Nat.le_of_ble_eq_true rfl) ?_
  generalize hI2 : zu (zu I 49 (zu (I 49) 4 (iI ((zset (f_can K 0) e : Nat) : Int)))) 49 (zu (zu I 49 (zu (I 49) 4 (iI ((zset (f_can K 0) e : Nat) : Int))) 49) 5 (iI ((zset (f_can K 1) e : Nat) : Int))) = I2
  have of : ∀ q, q ≠ 49 → I2 q = I q := fun q h => by rw [← hI2, zu_n _ _ h, zu_n _ _ h]
  have o4 : I2 49 4 = iI ((zset (f_can K 0) e : Nat) : Int) := by rw [← hI2, zu_s, zu_n _ _ (by omega), zu_s, zu_s]
  have o5 : I2 49 5 = iI ((zset (f_can K 1) e : Nat) : Int) := by rw [← hI2, zu_s, zu_s]
  clear hI2
  refine s_iconst hV dX11_live_27 (0) (by decide) ?_
  refine r_istore_n hV dX11_live_28 (Nat.le_of_ble_eq_true rfl) (z_st1_4_3 rfl) ?_
  have L29 : ∀ (k29 j : Nat) (I1 : zI) (b : Int × Int), n - j < k29 → j ≤ n → (∀ q, (q < 49 ∨ 57 < q) → I1 q = I q) → (I1 49 4 = iI ((zset (f_can K 0) e : Nat) : Int)) → (I1 49 5 = iI ((zset (f_can K 1) e : Nat) : Int)) → (b = zit (f_lv n e F W U K st) j (0, -1)) → (z_rg b.2) → V 108 I1 J P 29 [.ref 0, .int (iI b.1), .int (iI b.2), .int (iI (j : Int))] [] := by
    intro k29
    induction k29 with
    | zero => intro j I1  b  hk1 hk2; omega
    | succ k29 ih29 =>
      intro j I1  b  hk29 hl29 hfr h4 h5 hb hbr
      have hbr1 := hbr.1
      have hbr2 := hbr.2
      refine r_iload_n hV dX11_live_29 rfl ?_
      refine r_aload_n hV dX11_live_30 rfl rfl ?_
      refine r_getR hV dX11_live_31 fl_X11_79 (by first | decide | omega) (by first | rfl | assumption | exact h3.2.1 | (rcases hdd with ⟨rfl, rfl⟩ | ⟨rfl, rfl⟩ <;> rfl)) q10 ?_
      refine r_getI hV dX11_live_34 fl_X11_118 (by first | decide | omega) (by first | rfl | assumption | exact h3.2.1 | (rcases hdd with ⟨rfl, rfl⟩ | ⟨rfl, rfl⟩ <;> rfl)) ((congrFun (hfr _ (by omega)) 0).trans hn) ?_
      refine s_icmp_ge hV 98 dX11_live_37 (by decide) (by unfold z_rg; first | omega | (split <;> omega)) (by unfold z_rg; first | omega | (split <;> omega)) (fun c37 => ?_) (fun c37 => ?_)
      · refine r_iload_n hV dX11_live_98 rfl ?_
        refine r_iret hV dX11_live_99 rfl rfl ?_
        refine ⟨?_, rfl, rfl, hfr⟩
        rw [show j = n by omega] at hb
        rw [hb]
        rfl
      · refine r_aload_n hV dX11_live_40 rfl rfl ?_
        refine r_getR hV dX11_live_41 fl_X11_47 (by first | decide | omega) (by first | rfl | assumption | exact h3.2.1 | (rcases hdd with ⟨rfl, rfl⟩ | ⟨rfl, rfl⟩ <;> rfl)) q5 ?_
        refine r_aload_n hV dX11_live_44 rfl rfl ?_
        refine r_getR hV dX11_live_45 fl_X11_79 (by first | decide | omega) (by first | rfl | assumption | exact h3.2.1 | (rcases hdd with ⟨rfl, rfl⟩ | ⟨rfl, rfl⟩ <;> rfl)) q10 ?_
        refine r_iload_n hV dX11_live_48 rfl ?_
        refine r_iload_n hV dX11_live_49 rfl ?_
        refine r_iload_n hV dX11_live_50 rfl ?_
        refine r_aload_n hV dX11_live_51 rfl rfl ?_
        refine r_getR hV dX11_live_52 fl_X11_79 (by first | decide | omega) (by first | rfl | assumption | exact h3.2.1 | (rcases hdd with ⟨rfl, rfl⟩ | ⟨rfl, rfl⟩ <;> rfl)) q10 ?_
        refine r_getI hV dX11_live_55 fl_X11_106 (by first | decide | omega) (by first | rfl | assumption | exact h3.2.1 | (rcases hdd with ⟨rfl, rfl⟩ | ⟨rfl, rfl⟩ <;> rfl)) ((congrFun (hfr _ (by omega)) 1).trans hst) ?_
        refine r_iv5 hV dX11_live_58 mv_X11_232 (m_settle I1 J P hPn hTr1 hTr2 d hD n ((congrFun (hfr _ (by omega)) 0).trans hn) hnb e ((congrFun (hfr _ (by omega)) 3).trans he) he6 F (z_ar_fr hF (hfr _ (by omega))) hFb W U (z_ar_fr hW (hfr _ (by omega))) hWb (z_ar_fr hU (hfr _ (by omega))) hUb (zset (f_can K 0) e) (zset (f_can K 1) e) h4 h5 hlt0 hlt1 j j j (by omega) (by omega) (by omega) st (by omega)) (by first | decide | omega) (by first | rfl | assumption | exact h3.2.1 | (rcases hdd with ⟨rfl, rfl⟩ | ⟨rfl, rfl⟩ <;> rfl)) (by decide) (Nat.le_refl _) (Nat.le_of_ble_eq_true rfl) (fun v3 I3 J3 P3 hq => ?_)
        have hq := q_set2_of hnb.2 hWb (by omega) (by omega) hq
        obtain ⟨rfl, ej, ep, B, hlk, hcB, hbB, r4, r5, rf⟩ := hq
        rw [ej, ep]
        show V 108 I3 J P _ _ []
        obtain ⟨c6, c7, c8, c9, c10⟩ := hcB
        have hb1 := hbB.1
        have hb2 := hbB.2.1
        have hb21 := hb2.1
        have hb22 := hb2.2
        have hfr3 : ∀ q, (q < 49 ∨ 57 < q) → I3 q = I q := fun q h => (rf q h).trans (hfr q h)
        refine r_aload_n hV dX11_live_61 rfl rfl ?_
        refine r_getR hV dX11_live_62 fl_X11_47 (by first | decide | omega) (by first | rfl | assumption | exact h3.2.1 | (rcases hdd with ⟨rfl, rfl⟩ | ⟨rfl, rfl⟩ <;> rfl)) q5 ?_
        refine r_getI hV dX11_live_65 fl_X11_236 (by first | decide | omega) (by first | rfl | assumption | exact h3.2.1 | (rcases hdd with ⟨rfl, rfl⟩ | ⟨rfl, rfl⟩ <;> rfl)) c6 ?_
        refine s_if_eq hV 92 dX11_live_68 (by decide) (by unfold z_rg; first | omega | (split <;> omega)) (fun c68 => ?_) (fun c68 => ?_)
        · refine s_iinc hV dX11_live_92 rfl (z_st1_4_3 rfl) ?_
          refine r_goto hV 29 dX11_live_95 (by decide) ?_
          first
            | exact ih29 (j + 1) I3 ((j : Int), B.2.1) (by omega) (by omega) hfr3 (r4.trans h4) (r5.trans h5) (by
                rw [zit, ← hb, f_lv]
                rcases hlk with ⟨l1, l2⟩ | ⟨l1, l2⟩
                · exfalso; omega
                · rw [← l2, if_pos ⟨l1, by omega⟩]) hbB.2.1
            | exact ih29 (j + 1) I3 b (by omega) (by omega) hfr3 (r4.trans h4) (r5.trans h5) (by
                rw [zit, ← hb, f_lv, if_neg]
                rcases hlk with ⟨l1, l2⟩ | ⟨l1, l2⟩
                · rw [l2]; omega
                · rw [← l2]; omega) hbr
        · refine r_aload_n hV dX11_live_71 rfl rfl ?_
          refine r_getR hV dX11_live_72 fl_X11_47 (by first | decide | omega) (by first | rfl | assumption | exact h3.2.1 | (rcases hdd with ⟨rfl, rfl⟩ | ⟨rfl, rfl⟩ <;> rfl)) q5 ?_
          refine r_getI hV dX11_live_75 fl_X11_240 (by first | decide | omega) (by first | rfl | assumption | exact h3.2.1 | (rcases hdd with ⟨rfl, rfl⟩ | ⟨rfl, rfl⟩ <;> rfl)) c7 ?_
          refine r_iload_n hV dX11_live_78 rfl ?_
          refine s_icmp_le hV 92 dX11_live_79 (by decide) (by unfold z_rg; first | omega | (split <;> omega)) (by unfold z_rg; first | omega | (split <;> omega)) (fun c79 => ?_) (fun c79 => ?_)
          · refine s_iinc hV dX11_live_92 rfl (z_st1_4_3 rfl) ?_
            refine r_goto hV 29 dX11_live_95 (by decide) ?_
            first
              | exact ih29 (j + 1) I3 ((j : Int), B.2.1) (by omega) (by omega) hfr3 (r4.trans h4) (r5.trans h5) (by
                  rw [zit, ← hb, f_lv]
                  rcases hlk with ⟨l1, l2⟩ | ⟨l1, l2⟩
                  · exfalso; omega
                  · rw [← l2, if_pos ⟨l1, by omega⟩]) hbB.2.1
              | exact ih29 (j + 1) I3 b (by omega) (by omega) hfr3 (r4.trans h4) (r5.trans h5) (by
                  rw [zit, ← hb, f_lv, if_neg]
                  rcases hlk with ⟨l1, l2⟩ | ⟨l1, l2⟩
                  · rw [l2]; omega
                  · rw [← l2]; omega) hbr
          · refine r_aload_n hV dX11_live_82 rfl rfl ?_
            refine r_getR hV dX11_live_83 fl_X11_47 (by first | decide | omega) (by first | rfl | assumption | exact h3.2.1 | (rcases hdd with ⟨rfl, rfl⟩ | ⟨rfl, rfl⟩ <;> rfl)) q5 ?_
            refine r_getI hV dX11_live_86 fl_X11_240 (by first | decide | omega) (by first | rfl | assumption | exact h3.2.1 | (rcases hdd with ⟨rfl, rfl⟩ | ⟨rfl, rfl⟩ <;> rfl)) c7 ?_
            refine r_istore_n hV dX11_live_89 (Nat.le_of_ble_eq_true rfl) (z_st1_4_2 rfl) ?_
            refine r_iload_n hV dX11_live_90 rfl ?_
            refine r_istore_n hV dX11_live_91 (Nat.le_of_ble_eq_true rfl) (z_st1_4_1 rfl) ?_
            refine s_iinc hV dX11_live_92 rfl (z_st1_4_3 rfl) ?_
            refine r_goto hV 29 dX11_live_95 (by decide) ?_
            first
              | exact ih29 (j + 1) I3 ((j : Int), B.2.1) (by omega) (by omega) hfr3 (r4.trans h4) (r5.trans h5) (by
                  rw [zit, ← hb, f_lv]
                  rcases hlk with ⟨l1, l2⟩ | ⟨l1, l2⟩
                  · exfalso; omega
                  · rw [← l2, if_pos ⟨l1, by omega⟩]) hbB.2.1
              | exact ih29 (j + 1) I3 b (by omega) (by omega) hfr3 (r4.trans h4) (r5.trans h5) (by
                  rw [zit, ← hb, f_lv, if_neg]
                  rcases hlk with ⟨l1, l2⟩ | ⟨l1, l2⟩
                  · rw [l2]; omega
                  · rw [← l2]; omega) hbr
  exact L29 (n + 1) 0 I2 (0, -1) (by omega) (by omega) (fun q h => of q (by omega)) o4 o5 rfl (by unfold z_rg; omega)

