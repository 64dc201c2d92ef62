def zpw (S : Int → Int) (w : Int) : Int := if w = 0 then S 0 else S 1
theorem zpw_b {n : Nat} {S : Int → Int} {dn dh : Nat} (w : Int) (h : cG n S dn dh) : 0 ≤ zpw S w ∧ zpw S w < n := by
  unfold zpw
  split
  · exact h.1
  · exact h.2.1
theorem f_wc_b {n : Nat} {F : Int → Int} {a b : Int} (hn : n ≤ 6) (h : z_bd F 36 0 1000000) : 0 ≤ f_wc n F a b ∧ f_wc n F a b ≤ 1000000 := by
  unfold f_wc
  split
  · omega
  · split
    · exact h _ (by omega) (by omega)
    · omega
theorem q_act_of {I I2 I3 : zI} {J : zJ} {P : zP} {c nx : Int} {S S2 : Int → Int} {a : Int} (a1 : I2 5 1 = iI (if c < 16 then c + 1 else c)) (a2 : I2 5 2 = iI ((nx + 1) % 16)) (a3 : cSt I2 (7 + 2 * nx.toNat) S) (af : ∀ q, q ≠ 5 → q ≠ 7 + 2 * nx.toNat → q ≠ 8 + 2 * nx.toNat → I2 q = I q) (h : cSt I3 3 S2) (f : ∀ q, q ≠ 3 → q ≠ 4 → I3 q = I2 q) : q_act I J P c nx S S2 a (some (.int (iI a))) I3 J P := by
  refine ⟨rfl, rfl, rfl, ?_, ?_, cSt_fr a3 (f _ (by omega) (by omega)) (f _ (by omega) (by omega)), h, fun q b3 b4 b5 b7 b8 => (f q b3 b4).trans (af q b5 b7 b8)⟩
  · rw [f 5 (by omega) (by omega)]; exact a1
  · rw [f 5 (by omega) (by omega)]; exact a2
set_option maxRecDepth 20000 in
theorem m_walk (I : zI) (J : zJ) (P : zP) (d d1 : Nat) (hK : cK P) (q10 : P 0 10 = some d) (q11 : P 0 11 = some d1) (hdd : (d = 66 ∧ d1 = 72) ∨ (d = 72 ∧ d1 = 66)) (n : Nat) (hn : I d 0 = iI (n : Int)) (hnb : 2 ≤ n ∧ n ≤ 6) (F : Int → Int) (hF : z_ar I (d + 2) 36 F) (hFb : z_bd F 36 0 1000000) (S : Int → Int) (hS : cSt I 3 S) (dn dh : Nat) (hg : cG n S dn dh) (c nx : Int) (hc : I 5 1 = iI c) (hnx : I 5 2 = iI nx) (hcb : 0 ≤ c ∧ c ≤ 16) (hxb : 0 ≤ nx ∧ nx < 16) (w : Int) (hw : z_rg w) (x : Int) (hx : z_rg x) : z_Sp 3 yX11_walk cX11_walk 4 (some .int) 108 108 I J P [.ref 0, .int (iI w), .int (iI x)] (fun v I1 J1 P1 => if ¬ ((0 ≤ w ∧ w < 2) ∧ (0 ≤ x ∧ x < n)) then q_no I J P (-1) v I1 J1 P1 else if S 2 < f_wc n F (zpw S w) x then q_no I J P (-3) v I1 J1 P1 else q_act I J P c nx S (zup (zup S w x) 2 (S 2 - f_wc n F (zpw S w) x)) (S 2 - f_wc n F (zpw S w) x) v I1 J1 P1) := by
  obtain ⟨q0, q1, q2, q3, q4, q5, q6, q7, q8, q9, p1, h3, hA, hL, hTr0, hTr1, hTr2, hPn, hGs, hD66, hD72⟩ := id hK
  have hD : zDay P d := by rcases hdd with ⟨rfl, rfl⟩ | ⟨rfl, rfl⟩ <;> assumption
  obtain ⟨hd, p4, p5, p6, p7, p8⟩ := id hD
  have hD1 : zDay P d1 := by rcases hdd with ⟨rfl, rfl⟩ | ⟨rfl, rfl⟩ <;> assumption
  obtain ⟨g0, g1, g2, g3, g4, g5, g6, g7, g8⟩ := id hg
  have hw1 := hw.1
  have hw2 := hw.2
  have hx1 := hx.1
  have hx2 := hx.2
  have hpw := zpw_b w hg
  refine z_met false (by decide +kernel) (fun h => by cases h) (Nat.le_of_ble_eq_true rfl) (by first | decide | omega) (fun V hV => ?_)
  show V 108 I J P 0 [.ref 0, .int (iI w), .int (iI x), .null] []
  refine r_iload_n hV dX11_walk_0 rfl ?_
  refine q_is1v hV dX11_walk_1 ms_X11_146 (m_isWalker I J P w hw) (by decide) (Nat.le_refl _) (Nat.le_of_ble_eq_true rfl) ?_
  refine s_if_eq hV 18 dX11_walk_4 (by decide) (by unfold z_rg; first | omega | (split <;> omega)) (fun c4 => ?_) (fun c4 => ?_)
  · refine s_iconst hV dX11_walk_18 (-1) (by decide) ?_
    refine r_iret hV dX11_walk_19 rfl rfl ?_
    show ite _ _ _
    rw [if_pos (by omega)]
    exact ⟨rfl, rfl, rfl, rfl⟩
  · refine r_aload_n hV dX11_walk_7 rfl rfl ?_
    refine r_getR hV dX11_walk_8 fl_X11_79 (by first | decide | omega) (by first | rfl | assumption | exact h3.2.1 | (rcases hdd with ⟨rfl, rfl⟩ | ⟨rfl, rfl⟩ <;> rfl)) q10 ?_
    refine r_iload_n hV dX11_walk_11 rfl ?_
    refine q_iv1v hV dX11_walk_12 mv_X11_153 (m_isPlace I J P d hD (n : Int) hn (by omega) (x) (by unfold z_rg; omega)) (by first | decide | omega) (by first | rfl | assumption | exact h3.2.1 | (rcases hdd with ⟨rfl, rfl⟩ | ⟨rfl, rfl⟩ <;> rfl)) (by decide) (Nat.le_refl _) (Nat.le_of_ble_eq_true rfl) ?_
    refine s_if_ne hV 20 dX11_walk_15 (by decide) (by unfold z_rg; first | omega | (split <;> omega)) (fun c15 => ?_) (fun c15 => ?_)
    · refine r_aload_n hV dX11_walk_20 rfl rfl ?_
      refine r_aload_n hV dX11_walk_21 rfl rfl ?_
      refine r_getR hV dX11_walk_22 fl_X11_19 (by first | decide | omega) (by first | rfl | assumption | exact h3.2.1 | (rcases hdd with ⟨rfl, rfl⟩ | ⟨rfl, rfl⟩ <;> rfl)) q1 ?_
      refine r_iload_n hV dX11_walk_25 rfl ?_
      refine q_iv1v hV dX11_walk_26 mv_X11_150 (m_placeOf I J P 3 h3 S hS w hw) (by first | decide | omega) (by first | rfl | assumption | exact h3.2.1 | (rcases hdd with ⟨rfl, rfl⟩ | ⟨rfl, rfl⟩ <;> rfl)) (by decide) (Nat.le_refl _) (Nat.le_of_ble_eq_true rfl) ?_
      rw [show (if w = 0 then S 0 else S 1) = zpw S w from rfl]
      refine r_iload_n hV dX11_walk_29 rfl ?_
      refine q_iv2v hV dX11_walk_30 mv_X11_181 (m_walkCost I J P d d1 hK q10 q11 hdd n hn hnb F hF hFb (zpw S w) (by unfold z_rg; omega) x hx) (by first | decide | omega) (by first | rfl | assumption | exact h3.2.1 | (rcases hdd with ⟨rfl, rfl⟩ | ⟨rfl, rfl⟩ <;> rfl)) (by decide) (Nat.le_refl _) (Nat.le_of_ble_eq_true rfl) ?_
      have hcw := f_wc_b (n := n) (a := (zpw S w)) (b := x) hnb.2 hFb
      generalize hcost : f_wc (n : Int) F (zpw S w) x = cost at hcw ⊢
      refine r_istore_n hV dX11_walk_33 (Nat.le_of_ble_eq_true rfl) (z_st1_4_3 rfl) ?_
      refine r_iload_n hV dX11_walk_34 rfl ?_
      refine r_aload_n hV dX11_walk_35 rfl rfl ?_
      refine r_getR hV dX11_walk_36 fl_X11_19 (by first | decide | omega) (by first | rfl | assumption | exact h3.2.1 | (rcases hdd with ⟨rfl, rfl⟩ | ⟨rfl, rfl⟩ <;> rfl)) q1 ?_
      refine r_getI hV dX11_walk_39 fl_X11_127 (by first | decide | omega) (by first | rfl | assumption | exact h3.2.1 | (rcases hdd with ⟨rfl, rfl⟩ | ⟨rfl, rfl⟩ <;> rfl)) (hS.1 2 (by omega) (by omega)) ?_
      refine s_icmp_le hV 48 dX11_walk_42 (by decide) (by unfold z_rg; first | omega | (split <;> omega)) (by unfold z_rg; first | omega | (split <;> omega)) (fun c42 => ?_) (fun c42 => ?_)
      · refine r_aload_n hV dX11_walk_48 rfl rfl ?_
        refine r_getR hV dX11_walk_49 fl_X11_26 (by first | decide | omega) (by first | rfl | assumption | exact h3.2.1 | (rcases hdd with ⟨rfl, rfl⟩ | ⟨rfl, rfl⟩ <;> rfl)) q2 ?_
        refine r_aload_n hV dX11_walk_52 rfl rfl ?_
        refine r_getR hV dX11_walk_53 fl_X11_19 (by first | decide | omega) (by first | rfl | assumption | exact h3.2.1 | (rcases hdd with ⟨rfl, rfl⟩ | ⟨rfl, rfl⟩ <;> rfl)) q1 ?_
        refine r_iv1 hV dX11_walk_56 mv_X11_184 (m_remember I J P hA h3 c nx hc hnx hcb hxb S hS) (by first | decide | omega) (by first | rfl | assumption | exact h3.2.1 | (rcases hdd with ⟨rfl, rfl⟩ | ⟨rfl, rfl⟩ <;> rfl)) (by decide) (Nat.le_refl _) (Nat.le_of_ble_eq_true rfl) (fun w2 I2 J2 P2 hq => ?_)
        obtain ⟨rfl, ej, ep, a1, a2, a3, af⟩ := hq
        rw [ej, ep]
        show V 108 I2 J P _ _ []
        have hS2 : cSt I2 3 S := cSt_fr hS (af 3 (by omega) (by omega) (by omega)) (af 4 (by omega) (by omega) (by omega))
        clear ej ep
        refine r_aload_n hV dX11_walk_59 rfl rfl ?_
        refine r_getR hV dX11_walk_60 fl_X11_19 (by first | decide | omega) (by first | rfl | assumption | exact h3.2.1 | (rcases hdd with ⟨rfl, rfl⟩ | ⟨rfl, rfl⟩ <;> rfl)) q1 ?_
        refine r_iload_n hV dX11_walk_63 rfl ?_
        refine r_iload_n hV dX11_walk_64 rfl ?_
        refine r_iv2 hV dX11_walk_65 mv_X11_188 (m_move I2 J P 3 h3 S hS2 w (by omega) x) (by first | decide | omega) (by first | rfl | assumption | exact h3.2.1 | (rcases hdd with ⟨rfl, rfl⟩ | ⟨rfl, rfl⟩ <;> rfl)) (by decide) (Nat.le_refl _) (Nat.le_of_ble_eq_true rfl) (fun w3 I3 J3 P3 hq => ?_)
        obtain ⟨rfl, ej, ep, b1, b2⟩ := hq
        rw [ej, ep]
        show V 108 I3 J P _ _ []
        clear ej ep
        refine r_aload_n hV dX11_walk_68 rfl rfl ?_
        refine r_getR hV dX11_walk_69 fl_X11_19 (by first | decide | omega) (by first | rfl | assumption | exact h3.2.1 | (rcases hdd with ⟨rfl, rfl⟩ | ⟨rfl, rfl⟩ <;> rfl)) q1 ?_
        refine r_dup hV dX11_walk_72 rfl ?_
        refine r_getI hV dX11_walk_73 fl_X11_127 (by first | decide | omega) (by first | rfl | assumption | exact h3.2.1 | (rcases hdd with ⟨rfl, rfl⟩ | ⟨rfl, rfl⟩ <;> rfl)) ((b1.1 2 (by omega) (by omega)).trans (by rw [zup, if_neg (by omega)])) ?_
        refine r_iload_n hV dX11_walk_76 rfl ?_
        refine s_isub hV dX11_walk_77 ?_
        refine r_putI hV dX11_walk_78 fl_X11_127 (pf_X11_127 _) (z_okI_int rfl _) (by first | decide | omega) (by first | rfl | assumption | exact h3.2.1 | (rcases hdd with ⟨rfl, rfl⟩ | ⟨rfl, rfl⟩ <;> rfl)) ?_
        have hS4 := cSt_put b1 2 (S 2 - cost) (by omega)
        generalize hI4 : zu I3 (3) (zu (I3 3) 2 (iI (S 2 - cost))) = I4
        have hfI4 : ∀ q, q ≠ 3 → I4 q = I3 q := fun q h => by rw [← hI4]; exact zu_n _ _ h
        rw [hI4] at hS4
        refine r_aload_n hV dX11_walk_81 rfl rfl ?_
        refine r_getR hV dX11_walk_82 fl_X11_19 (by first | decide | omega) (by first | rfl | assumption | exact h3.2.1 | (rcases hdd with ⟨rfl, rfl⟩ | ⟨rfl, rfl⟩ <;> rfl)) q1 ?_
        refine r_getI hV dX11_walk_85 fl_X11_127 (by first | decide | omega) (by first | rfl | assumption | exact h3.2.1 | (rcases hdd with ⟨rfl, rfl⟩ | ⟨rfl, rfl⟩ <;> rfl)) (show I4 3 2 = iI (S 2 - cost) from (hS4.1 2 (by omega) (by omega)).trans (congrArg iI (if_pos rfl))) ?_
        refine r_iret hV dX11_walk_88 rfl rfl ?_
        rw [hcost]
        show ite _ _ _
        rw [if_neg (by omega), if_neg (by omega)]
        exact q_act_of a1 a2 a3 af hS4 (fun q e1 e2 => (hfI4 q e1).trans (b2 q e1 (by omega)))
      · refine s_bipush hV dX11_walk_45 (-3) (by decide) ?_
        refine r_iret hV dX11_walk_47 rfl rfl ?_
        rw [hcost]
        show ite _ _ _
        rw [if_neg (by omega), if_pos (by omega)]
        exact ⟨rfl, rfl, rfl, rfl⟩
    · refine s_iconst hV dX11_walk_18 (-1) (by decide) ?_
      refine r_iret hV dX11_walk_19 rfl rfl ?_
      show ite _ _ _
      rw [if_pos (by omega)]
      exact ⟨rfl, rfl, rfl, rfl⟩

set_option maxRecDepth 20000 in
theorem m_carry (I : zI) (J : zJ) (P : zP) (d d1 : Nat) (hK : cK P) (q10 : P 0 10 = some d) (q11 : P 0 11 = some d1) (hdd : (d = 66 ∧ d1 = 72) ∨ (d = 72 ∧ d1 = 66)) (n : Nat) (hn : I d 0 = iI (n : Int)) (hnb : 2 ≤ n ∧ n ≤ 6) (F : Int → Int) (hF : z_ar I (d + 2) 36 F) (hFb : z_bd F 36 0 1000000) (S : Int → Int) (hS : cSt I 3 S) (dn dh : Nat) (hg : cG n S dn dh) (c nx : Int) (hc : I 5 1 = iI c) (hnx : I 5 2 = iI nx) (hcb : 0 ≤ c ∧ c ≤ 16) (hxb : 0 ≤ nx ∧ nx < 16) (w : Int) (hw : z_rg w) (x : Int) (hx : z_rg x) : z_Sp 3 yX11_carry cX11_carry 4 (some .int) 108 108 I J P [.ref 0, .int (iI w), .int (iI x)] (fun v I1 J1 P1 => if ¬ ((0 ≤ w ∧ w < 2) ∧ (0 ≤ x ∧ x < n)) then q_no I J P (-1) v I1 J1 P1 else if ¬ S 0 = S 1 ∨ S 2 < 2 * f_wc n F (zpw S w) x then q_no I J P (-3) v I1 J1 P1 else q_act I J P c nx S (zup (zup (zup S 0 x) 1 x) 2 (S 2 - 2 * f_wc n F (zpw S w) x)) (S 2 - 2 * f_wc n F (zpw S w) x) v I1 J1 P1) := by
  obtain ⟨q0, q1, q2, q3, q4, q5, q6, q7, q8, q9, p1, h3, hA, hL, hTr0, hTr1, hTr2, hPn, hGs, hD66, hD72⟩ := id hK
  have hD : zDay P d := by rcases hdd with ⟨rfl, rfl⟩ | ⟨rfl, rfl⟩ <;> assumption
  obtain ⟨hd, p4, p5, p6, p7, p8⟩ := id hD
  have hD1 : zDay P d1 := by rcases hdd with ⟨rfl, rfl⟩ | ⟨rfl, rfl⟩ <;> assumption
  obtain ⟨g0, g1, g2, g3, g4, g5, g6, g7, g8⟩ := id hg
  have hw1 := hw.1
  have hw2 := hw.2
  have hx1 := hx.1
  have hx2 := hx.2
  have hpw := zpw_b w hg
  refine z_met false (by decide +kernel) (fun h => by cases h) (Nat.le_of_ble_eq_true rfl) (by first | decide | omega) (fun V hV => ?_)
  show V 108 I J P 0 [.ref 0, .int (iI w), .int (iI x), .null] []
  refine r_iload_n hV dX11_carry_0 rfl ?_
  refine q_is1v hV dX11_carry_1 ms_X11_146 (m_isWalker I J P w hw) (by decide) (Nat.le_refl _) (Nat.le_of_ble_eq_true rfl) ?_
  refine s_if_eq hV 18 dX11_carry_4 (by decide) (by unfold z_rg; first | omega | (split <;> omega)) (fun c4 => ?_) (fun c4 => ?_)
  · refine s_iconst hV dX11_carry_18 (-1) (by decide) ?_
    refine r_iret hV dX11_carry_19 rfl rfl ?_
    show ite _ _ _
    rw [if_pos (by omega)]
    exact ⟨rfl, rfl, rfl, rfl⟩
  · refine r_aload_n hV dX11_carry_7 rfl rfl ?_
    refine r_getR hV dX11_carry_8 fl_X11_79 (by first | decide | omega) (by first | rfl | assumption | exact h3.2.1 | (rcases hdd with ⟨rfl, rfl⟩ | ⟨rfl, rfl⟩ <;> rfl)) q10 ?_
    refine r_iload_n hV dX11_carry_11 rfl ?_
    refine q_iv1v hV dX11_carry_12 mv_X11_153 (m_isPlace I J P d hD (n : Int) hn (by omega) (x) (by unfold z_rg; omega)) (by first | decide | omega) (by first | rfl | assumption | exact h3.2.1 | (rcases hdd with ⟨rfl, rfl⟩ | ⟨rfl, rfl⟩ <;> rfl)) (by decide) (Nat.le_refl _) (Nat.le_of_ble_eq_true rfl) ?_
    refine s_if_ne hV 20 dX11_carry_15 (by decide) (by unfold z_rg; first | omega | (split <;> omega)) (fun c15 => ?_) (fun c15 => ?_)
    · refine r_aload_n hV dX11_carry_20 rfl rfl ?_
      refine r_getR hV dX11_carry_21 fl_X11_19 (by first | decide | omega) (by first | rfl | assumption | exact h3.2.1 | (rcases hdd with ⟨rfl, rfl⟩ | ⟨rfl, rfl⟩ <;> rfl)) q1 ?_
      refine s_iconst hV dX11_carry_24 (0) (by decide) ?_
      refine q_iv1v hV dX11_carry_25 mv_X11_150 (m_placeOf I J P 3 h3 S hS 0 (by unfold z_rg; omega)) (by first | decide | omega) (by first | rfl | assumption | exact h3.2.1 | (rcases hdd with ⟨rfl, rfl⟩ | ⟨rfl, rfl⟩ <;> rfl)) (by decide) (Nat.le_refl _) (Nat.le_of_ble_eq_true rfl) ?_
      rw [if_pos rfl]
      refine r_aload_n hV dX11_carry_28 rfl rfl ?_
      refine r_getR hV dX11_carry_29 fl_X11_19 (by first | decide | omega) (by first | rfl | assumption | exact h3.2.1 | (rcases hdd with ⟨rfl, rfl⟩ | ⟨rfl, rfl⟩ <;> rfl)) q1 ?_
      refine s_iconst hV dX11_carry_32 (1) (by decide) ?_
      refine q_iv1v hV dX11_carry_33 mv_X11_150 (m_placeOf I J P 3 h3 S hS 1 (by unfold z_rg; omega)) (by first | decide | omega) (by first | rfl | assumption | exact h3.2.1 | (rcases hdd with ⟨rfl, rfl⟩ | ⟨rfl, rfl⟩ <;> rfl)) (by decide) (Nat.le_refl _) (Nat.le_of_ble_eq_true rfl) ?_
      rw [if_neg (by omega)]
      refine s_icmp_eq hV 42 dX11_carry_36 (by decide) (by unfold z_rg; first | omega | (split <;> omega)) (by unfold z_rg; first | omega | (split <;> omega)) (fun c36 => ?_) (fun c36 => ?_)
      · refine s_iconst hV dX11_carry_42 (2) (by decide) ?_
        refine r_aload_n hV dX11_carry_43 rfl rfl ?_
        refine r_aload_n hV dX11_carry_44 rfl rfl ?_
        refine r_getR hV dX11_carry_45 fl_X11_19 (by first | decide | omega) (by first | rfl | assumption | exact h3.2.1 | (rcases hdd with ⟨rfl, rfl⟩ | ⟨rfl, rfl⟩ <;> rfl)) q1 ?_
        refine r_iload_n hV dX11_carry_48 rfl ?_
        refine q_iv1v hV dX11_carry_49 mv_X11_150 (m_placeOf I J P 3 h3 S hS w hw) (by first | decide | omega) (by first | rfl | assumption | exact h3.2.1 | (rcases hdd with ⟨rfl, rfl⟩ | ⟨rfl, rfl⟩ <;> rfl)) (by decide) (Nat.le_refl _) (Nat.le_of_ble_eq_true rfl) ?_
        rw [show (if w = 0 then S 0 else S 1) = zpw S w from rfl]
        refine r_iload_n hV dX11_carry_52 rfl ?_
        refine q_iv2v hV dX11_carry_53 mv_X11_181 (m_walkCost I J P d d1 hK q10 q11 hdd n hn hnb F hF hFb (zpw S w) (by unfold z_rg; omega) x hx) (by first | decide | omega) (by first | rfl | assumption | exact h3.2.1 | (rcases hdd with ⟨rfl, rfl⟩ | ⟨rfl, rfl⟩ <;> rfl)) (by decide) (Nat.le_refl _) (Nat.le_of_ble_eq_true rfl) ?_
        have hcw := f_wc_b (n := n) (a := (zpw S w)) (b := x) hnb.2 hFb
        generalize hcost : f_wc (n : Int) F (zpw S w) x = cost at hcw ⊢
        refine s_imul hV dX11_carry_56 ?_
        refine r_istore_n hV dX11_carry_57 (Nat.le_of_ble_eq_true rfl) (z_st1_4_3 rfl) ?_
        refine r_iload_n hV dX11_carry_58 rfl ?_
        refine r_aload_n hV dX11_carry_59 rfl rfl ?_
        refine r_getR hV dX11_carry_60 fl_X11_19 (by first | decide | omega) (by first | rfl | assumption | exact h3.2.1 | (rcases hdd with ⟨rfl, rfl⟩ | ⟨rfl, rfl⟩ <;> rfl)) q1 ?_
        refine r_getI hV dX11_carry_63 fl_X11_127 (by first | decide | omega) (by first | rfl | assumption | exact h3.2.1 | (rcases hdd with ⟨rfl, rfl⟩ | ⟨rfl, rfl⟩ <;> rfl)) (hS.1 2 (by omega) (by omega)) ?_
        refine s_icmp_le hV 72 dX11_carry_66 (by decide) (by unfold z_rg; first | omega | (split <;> omega)) (by unfold z_rg; first | omega | (split <;> omega)) (fun c66 => ?_) (fun c66 => ?_)
        · refine r_aload_n hV dX11_carry_72 rfl rfl ?_
          refine r_getR hV dX11_carry_73 fl_X11_26 (by first | decide | omega) (by first | rfl | assumption | exact h3.2.1 | (rcases hdd with ⟨rfl, rfl⟩ | ⟨rfl, rfl⟩ <;> rfl)) q2 ?_
          refine r_aload_n hV dX11_carry_76 rfl rfl ?_
          refine r_getR hV dX11_carry_77 fl_X11_19 (by first | decide | omega) (by first | rfl | assumption | exact h3.2.1 | (rcases hdd with ⟨rfl, rfl⟩ | ⟨rfl, rfl⟩ <;> rfl)) q1 ?_
          refine r_iv1 hV dX11_carry_80 mv_X11_184 (m_remember I J P hA h3 c nx hc hnx hcb hxb S hS) (by first | decide | omega) (by first | rfl | assumption | exact h3.2.1 | (rcases hdd with ⟨rfl, rfl⟩ | ⟨rfl, rfl⟩ <;> rfl)) (by decide) (Nat.le_refl _) (Nat.le_of_ble_eq_true rfl) (fun w2 I2 J2 P2 hq => ?_)
          obtain ⟨rfl, ej, ep, a1, a2, a3, af⟩ := hq
          rw [ej, ep]
          show V 108 I2 J P _ _ []
          have hS2 : cSt I2 3 S := cSt_fr hS (af 3 (by omega) (by omega) (by omega)) (af 4 (by omega) (by omega) (by omega))
          clear ej ep
          refine r_aload_n hV dX11_carry_83 rfl rfl ?_
          refine r_getR hV dX11_carry_84 fl_X11_19 (by first | decide | omega) (by first | rfl | assumption | exact h3.2.1 | (rcases hdd with ⟨rfl, rfl⟩ | ⟨rfl, rfl⟩ <;> rfl)) q1 ?_
          refine s_iconst hV dX11_carry_87 (0) (by decide) ?_
          refine r_iload_n hV dX11_carry_88 rfl ?_
          refine r_iv2 hV dX11_carry_89 mv_X11_188 (m_move I2 J P 3 h3 S hS2 0 (by omega) x) (by first | decide | omega) (by first | rfl | assumption | exact h3.2.1 | (rcases hdd with ⟨rfl, rfl⟩ | ⟨rfl, rfl⟩ <;> rfl)) (by decide) (Nat.le_refl _) (Nat.le_of_ble_eq_true rfl) (fun w3 I3 J3 P3 hq => ?_)
          obtain ⟨rfl, ej, ep, b1, b2⟩ := hq
          rw [ej, ep]
          show V 108 I3 J P _ _ []
          clear ej ep
          have b2 := b2
          have c1 := b1
          have c2 := b2
          refine r_aload_n hV dX11_carry_92 rfl rfl ?_
          refine r_getR hV dX11_carry_93 fl_X11_19 (by first | decide | omega) (by first | rfl | assumption | exact h3.2.1 | (rcases hdd with ⟨rfl, rfl⟩ | ⟨rfl, rfl⟩ <;> rfl)) q1 ?_
          refine s_iconst hV dX11_carry_96 (1) (by decide) ?_
          refine r_iload_n hV dX11_carry_97 rfl ?_
          refine r_iv2 hV dX11_carry_98 mv_X11_188 (m_move I3 J P 3 h3 (zup S 0 x) c1 1 (by omega) x) (by first | decide | omega) (by first | rfl | assumption | exact h3.2.1 | (rcases hdd with ⟨rfl, rfl⟩ | ⟨rfl, rfl⟩ <;> rfl)) (by decide) (Nat.le_refl _) (Nat.le_of_ble_eq_true rfl) (fun w4 I4 J4 P4 hq => ?_)
          obtain ⟨rfl, ej, ep, b1, b2⟩ := hq
          rw [ej, ep]
          show V 108 I4 J P _ _ []
          clear ej ep
          refine r_aload_n hV dX11_carry_101 rfl rfl ?_
          refine r_getR hV dX11_carry_102 fl_X11_19 (by first | decide | omega) (by first | rfl | assumption | exact h3.2.1 | (rcases hdd with ⟨rfl, rfl⟩ | ⟨rfl, rfl⟩ <;> rfl)) q1 ?_
          refine r_dup hV dX11_carry_105 rfl ?_
          refine r_getI hV dX11_carry_106 fl_X11_127 (by first | decide | omega) (by first | rfl | assumption | exact h3.2.1 | (rcases hdd with ⟨rfl, rfl⟩ | ⟨rfl, rfl⟩ <;> rfl)) ((b1.1 2 (by omega) (by omega)).trans (by rw [zup, if_neg (by omega), zup, if_neg (by omega)])) ?_
          refine r_iload_n hV dX11_carry_109 rfl ?_
          refine s_isub hV dX11_carry_110 ?_
          refine r_putI hV dX11_carry_111 fl_X11_127 (pf_X11_127 _) (z_okI_int rfl _) (by first | decide | omega) (by first | rfl | assumption | exact h3.2.1 | (rcases hdd with ⟨rfl, rfl⟩ | ⟨rfl, rfl⟩ <;> rfl)) ?_
          have hS5 := cSt_put b1 2 (S 2 - 2 * cost) (by omega)
          generalize hI5 : zu I4 (3) (zu (I4 3) 2 (iI (S 2 - 2 * cost))) = I5
          have hfI5 : ∀ q, q ≠ 3 → I5 q = I4 q := fun q h => by rw [← hI5]; exact zu_n _ _ h
          rw [hI5] at hS5
          refine r_aload_n hV dX11_carry_114 rfl rfl ?_
          refine r_getR hV dX11_carry_115 fl_X11_19 (by first | decide | omega) (by first | rfl | assumption | exact h3.2.1 | (rcases hdd with ⟨rfl, rfl⟩ | ⟨rfl, rfl⟩ <;> rfl)) q1 ?_
          refine r_getI hV dX11_carry_118 fl_X11_127 (by first | decide | omega) (by first | rfl | assumption | exact h3.2.1 | (rcases hdd with ⟨rfl, rfl⟩ | ⟨rfl, rfl⟩ <;> rfl)) (show I5 3 2 = iI (S 2 - 2 * cost) from (hS5.1 2 (by omega) (by omega)).trans (congrArg iI (if_pos rfl))) ?_
          refine r_iret hV dX11_carry_121 rfl rfl ?_
          rw [hcost]
          show ite _ _ _
          rw [if_neg (by omega), if_neg (by omega)]
          exact q_act_of a1 a2 a3 af hS5 (fun q e1 e2 => (hfI5 q e1).trans ((b2 q e1 (by omega)).trans (c2 q e1 (by omega))))
        · refine s_bipush hV dX11_carry_69 (-3) (by decide) ?_
          refine r_iret hV dX11_carry_71 rfl rfl ?_
          rw [hcost]
          show ite _ _ _
          rw [if_neg (by omega), if_pos (by omega)]
          exact ⟨rfl, rfl, rfl, rfl⟩
      · refine s_bipush hV dX11_carry_39 (-3) (by decide) ?_
        refine r_iret hV dX11_carry_41 rfl rfl ?_
        show ite _ _ _
        rw [if_neg (by omega), if_pos (by omega)]
        exact ⟨rfl, rfl, rfl, rfl⟩
    · refine s_iconst hV dX11_carry_18 (-1) (by decide) ?_
      refine r_iret hV dX11_carry_19 rfl rfl ?_
      show ite _ _ _
      rw [if_pos (by omega)]
      exact ⟨rfl, rfl, rfl, rfl⟩

set_option maxRecDepth 20000 in
theorem m_done (I : zI) (J : zJ) (P : zP) (d d1 : Nat) (hK : cK P) (q10 : P 0 10 = some d) (q11 : P 0 11 = some d1) (hdd : (d = 66 ∧ d1 = 72) ∨ (d = 72 ∧ d1 = 66)) (n : Nat) (hnb : 2 ≤ n ∧ n ≤ 6) (e : Nat) (he : I d 3 = iI (e : Int)) (he6 : e ≤ 6) (W : Int → Int) (hW : z_ar I (d + 3) 6 W) (hWb : z_bd W e 0 (n - 1)) (U : Int → Int) (hU : z_ar I (d + 4) 6 U) (hUb : z_bd U 6 0 9) (K : Int → Int) (hKk : z_ar I (d + 5) 6 K) (hKb : z_bd K 6 0 2) (S : Int → Int) (hS : cSt I 3 S) (dn dh : Nat) (hg : cG n S dn dh) (c nx : Int) (hc : I 5 1 = iI c) (hnx : I 5 2 = iI nx) (hcb : 0 ≤ c ∧ c ≤ 16) (hxb : 0 ≤ nx ∧ nx < 16) (w : Int) (hw : z_rg w) (x : Int) (hx : z_rg x) : z_Sp 3 yX11_done cX11_done 3 (some .int) 108 108 I J P [.ref 0, .int (iI w), .int (iI x)] (fun v I1 J1 P1 => if ¬ ((0 ≤ w ∧ w < 2) ∧ (0 ≤ x ∧ x < e)) then q_no I J P (-1) v I1 J1 P1 else if ¬ (((K x = 2 ∨ K x = w) ∧ ¬ dn.testBit x.toNat = true) ∧ zpw S w = W x) then q_no I J P (-3) v I1 J1 P1 else q_act I J P c nx S (zup (zup S 3 ((dn ||| 2 ^ x.toNat : Nat) : Int)) 4 (if w = 1 then ((dh ||| 2 ^ x.toNat : Nat) : Int) else dh)) (U x) v I1 J1 P1) := by
  obtain ⟨q0, q1, q2, q3, q4, q5, q6, q7, q8, q9, p1, h3, hA, hL, hTr0, hTr1, hTr2, hPn, hGs, hD66, hD72⟩ := id hK
  have hD : zDay P d := by rcases hdd with ⟨rfl, rfl⟩ | ⟨rfl, rfl⟩ <;> assumption
  obtain ⟨hd, p4, p5, p6, p7, p8⟩ := id hD
  have hD1 : zDay P d1 := by rcases hdd with ⟨rfl, rfl⟩ | ⟨rfl, rfl⟩ <;> assumption
  obtain ⟨g0, g1, g2, g3, g4, g5, g6, g7, g8⟩ := id hg
  have hw1 := hw.1
  have hw2 := hw.2
  have hx1 := hx.1
  have hx2 := hx.2
  have hpw := zpw_b w hg
  refine z_met false (by decide +kernel) (fun h => by cases h) (Nat.le_of_ble_eq_true rfl) (by first | decide | omega) (fun V hV => ?_)
  show V 108 I J P 0 [.ref 0, .int (iI w), .int (iI x)] []
  refine r_iload_n hV dX11_done_0 rfl ?_
  refine q_is1v hV dX11_done_1 ms_X11_146 (m_isWalker I J P w hw) (by decide) (Nat.le_refl _) (Nat.le_of_ble_eq_true rfl) ?_
  refine s_if_eq hV 18 dX11_done_4 (by decide) (by unfold z_rg; first | omega | (split <;> omega)) (fun c4 => ?_) (fun c4 => ?_)
  · refine s_iconst hV dX11_done_18 (-1) (by decide) ?_
    refine r_iret hV dX11_done_19 rfl rfl ?_
    show ite _ _ _
    rw [if_pos (by omega)]
    exact ⟨rfl, rfl, rfl, rfl⟩
  · refine r_aload_n hV dX11_done_7 rfl rfl ?_
    refine r_getR hV dX11_done_8 fl_X11_79 (by first | decide | omega) (by first | rfl | assumption | exact h3.2.1 | (rcases hdd with ⟨rfl, rfl⟩ | ⟨rfl, rfl⟩ <;> rfl)) q10 ?_
    refine r_iload_n hV dX11_done_11 rfl ?_
    refine q_iv1v hV dX11_done_12 mv_X11_163 (m_isErrand I J P d hD (e : Int) he (by omega) (x) (by unfold z_rg; omega)) (by first | decide | omega) (by first | rfl | assumption | exact h3.2.1 | (rcases hdd with ⟨rfl, rfl⟩ | ⟨rfl, rfl⟩ <;> rfl)) (by decide) (Nat.le_refl _) (Nat.le_of_ble_eq_true rfl) ?_
    refine s_if_ne hV 20 dX11_done_15 (by decide) (by unfold z_rg; first | omega | (split <;> omega)) (fun c15 => ?_) (fun c15 => ?_)
    · refine r_aload_n hV dX11_done_20 rfl rfl ?_
      refine r_getR hV dX11_done_21 fl_X11_19 (by first | decide | omega) (by first | rfl | assumption | exact h3.2.1 | (rcases hdd with ⟨rfl, rfl⟩ | ⟨rfl, rfl⟩ <;> rfl)) q1 ?_
      refine r_iload_n hV dX11_done_24 rfl ?_
      rw [show iI x = iI ((x.toNat : Nat) : Int) by rw [Int.toNat_of_nonneg (by omega)]]
      refine q_iv1v hV dX11_done_25 mv_X11_175 (m_isDone I J P 3 h3 S hS dn g3 g4 x.toNat (by omega)) (by first | decide | omega) (by first | rfl | assumption | exact h3.2.1 | (rcases hdd with ⟨rfl, rfl⟩ | ⟨rfl, rfl⟩ <;> rfl)) (by decide) (Nat.le_refl _) (Nat.le_of_ble_eq_true rfl) ?_
      rw [show iI ((x.toNat : Nat) : Int) = iI x by rw [Int.toNat_of_nonneg (by omega)]]
      refine s_if_ne hV 43 dX11_done_28 (by decide) (by unfold z_rg; first | omega | (split <;> omega)) (fun c28 => ?_) (fun c28 => ?_)
      · have hdb := z_ite1 c28
        refine s_bipush hV dX11_done_43 (-3) (by decide) ?_
        refine r_iret hV dX11_done_45 rfl rfl ?_
        show ite _ _ _
        rw [if_neg (by omega), if_pos (by intro hh; first | exact hh.1.2 hdb | exact hcd ⟨by omega, hh.1.1⟩)]
        exact ⟨rfl, rfl, rfl, rfl⟩
      · have hdb := z_ite0 (by first | exact c28 | exact Classical.not_not.mp c28)
        refine r_aload_n hV dX11_done_31 rfl rfl ?_
        refine r_getR hV dX11_done_32 fl_X11_79 (by first | decide | omega) (by first | rfl | assumption | exact h3.2.1 | (rcases hdd with ⟨rfl, rfl⟩ | ⟨rfl, rfl⟩ <;> rfl)) q10 ?_
        refine r_iload_n hV dX11_done_35 rfl ?_
        refine r_iload_n hV dX11_done_36 rfl ?_
        refine q_iv2v hV dX11_done_37 mv_X11_192 (m_canDo I J P d hD (e : Int) he (by omega) w hw x hx K hKk hKb) (by first | decide | omega) (by first | rfl | assumption | exact h3.2.1 | (rcases hdd with ⟨rfl, rfl⟩ | ⟨rfl, rfl⟩ <;> rfl)) (by decide) (Nat.le_refl _) (Nat.le_of_ble_eq_true rfl) ?_
        refine s_if_ne hV 46 dX11_done_40 (by decide) (by unfold z_rg; first | omega | (split <;> omega)) (fun c40 => ?_) (fun c40 => ?_)
        · have hcd := z_ite1 c40
          refine r_aload_n hV dX11_done_46 rfl rfl ?_
          refine r_getR hV dX11_done_47 fl_X11_19 (by first | decide | omega) (by first | rfl | assumption | exact h3.2.1 | (rcases hdd with ⟨rfl, rfl⟩ | ⟨rfl, rfl⟩ <;> rfl)) q1 ?_
          refine r_iload_n hV dX11_done_50 rfl ?_
          refine q_iv1v hV dX11_done_51 mv_X11_150 (m_placeOf I J P 3 h3 S hS w hw) (by first | decide | omega) (by first | rfl | assumption | exact h3.2.1 | (rcases hdd with ⟨rfl, rfl⟩ | ⟨rfl, rfl⟩ <;> rfl)) (by decide) (Nat.le_refl _) (Nat.le_of_ble_eq_true rfl) ?_
          rw [show (if w = 0 then S 0 else S 1) = zpw S w from rfl]
          refine r_aload_n hV dX11_done_54 rfl rfl ?_
          refine r_getR hV dX11_done_55 fl_X11_79 (by first | decide | omega) (by first | rfl | assumption | exact h3.2.1 | (rcases hdd with ⟨rfl, rfl⟩ | ⟨rfl, rfl⟩ <;> rfl)) q10 ?_
          refine r_iload_n hV dX11_done_58 rfl ?_
          refine q_iv1v hV dX11_done_59 mv_X11_166 (m_siteOf I J P d hD (e : Int) he (by omega) x hx W hW) (by first | decide | omega) (by first | rfl | assumption | exact h3.2.1 | (rcases hdd with ⟨rfl, rfl⟩ | ⟨rfl, rfl⟩ <;> rfl)) (by decide) (Nat.le_refl _) (Nat.le_of_ble_eq_true rfl) ?_
          rw [if_pos (by omega)]
          have hwb := hWb x (by omega) (by omega)
          refine s_icmp_eq hV 68 dX11_done_62 (by decide) (by unfold z_rg; first | omega | (split <;> omega)) (by unfold z_rg; first | omega | (split <;> omega)) (fun c62 => ?_) (fun c62 => ?_)
          · refine r_aload_n hV dX11_done_68 rfl rfl ?_
            refine r_getR hV dX11_done_69 fl_X11_26 (by first | decide | omega) (by first | rfl | assumption | exact h3.2.1 | (rcases hdd with ⟨rfl, rfl⟩ | ⟨rfl, rfl⟩ <;> rfl)) q2 ?_
            refine r_aload_n hV dX11_done_72 rfl rfl ?_
            refine r_getR hV dX11_done_73 fl_X11_19 (by first | decide | omega) (by first | rfl | assumption | exact h3.2.1 | (rcases hdd with ⟨rfl, rfl⟩ | ⟨rfl, rfl⟩ <;> rfl)) q1 ?_
            refine r_iv1 hV dX11_done_76 mv_X11_184 (m_remember I J P hA h3 c nx hc hnx hcb hxb S hS) (by first | decide | omega) (by first | rfl | assumption | exact h3.2.1 | (rcases hdd with ⟨rfl, rfl⟩ | ⟨rfl, rfl⟩ <;> rfl)) (by decide) (Nat.le_refl _) (Nat.le_of_ble_eq_true rfl) (fun w2 I2 J2 P2 hq => ?_)
            obtain ⟨rfl, ej, ep, a1, a2, a3, af⟩ := hq
            rw [ej, ep]
            show V 108 I2 J P _ _ []
            have hS2 : cSt I2 3 S := cSt_fr hS (af 3 (by omega) (by omega) (by omega)) (af 4 (by omega) (by omega) (by omega))
            clear ej ep
            refine r_aload_n hV dX11_done_79 rfl rfl ?_
            refine r_getR hV dX11_done_80 fl_X11_19 (by first | decide | omega) (by first | rfl | assumption | exact h3.2.1 | (rcases hdd with ⟨rfl, rfl⟩ | ⟨rfl, rfl⟩ <;> rfl)) q1 ?_
            refine r_iload_n hV dX11_done_83 rfl ?_
            refine r_iload_n hV dX11_done_84 rfl ?_
            rw [show iI x = iI ((x.toNat : Nat) : Int) by rw [Int.toNat_of_nonneg (by omega)]]
            refine r_iv2 hV dX11_done_85 mv_X11_196 (m_markDone I2 J P 3 h3 S hS2 dn g3 g4 dh g5 g6 w (by omega) x.toNat (by omega)) (by first | decide | omega) (by first | rfl | assumption | exact h3.2.1 | (rcases hdd with ⟨rfl, rfl⟩ | ⟨rfl, rfl⟩ <;> rfl)) (by decide) (Nat.le_refl _) (Nat.le_of_ble_eq_true rfl) (fun w3 I3 J3 P3 hq => ?_)
            obtain ⟨rfl, ej, ep, b1, b2⟩ := hq
            rw [ej, ep]
            show V 108 I3 J P _ _ []
            clear ej ep
            rw [show iI ((x.toNat : Nat) : Int) = iI x by rw [Int.toNat_of_nonneg (by omega)]]
            refine r_aload_n hV dX11_done_88 rfl rfl ?_
            refine r_getR hV dX11_done_89 fl_X11_79 (by first | decide | omega) (by first | rfl | assumption | exact h3.2.1 | (rcases hdd with ⟨rfl, rfl⟩ | ⟨rfl, rfl⟩ <;> rfl)) q10 ?_
            refine r_iload_n hV dX11_done_92 rfl ?_
            refine q_iv1v hV dX11_done_93 mv_X11_169 (m_worthOf I3 J P d hD (e : Int) ((congrFun ((b2 _ (by omega) (by omega)).trans (af _ (by omega) (by omega) (by omega))) 3).trans he) (by omega) x hx U (z_ar_fr hU ((b2 _ (by omega) (by omega)).trans (af _ (by omega) (by omega) (by omega))))) (by first | decide | omega) (by first | rfl | assumption | exact h3.2.1 | (rcases hdd with ⟨rfl, rfl⟩ | ⟨rfl, rfl⟩ <;> rfl)) (by decide) (Nat.le_refl _) (Nat.le_of_ble_eq_true rfl) ?_
            rw [if_pos (by omega)]
            refine r_iret hV dX11_done_96 rfl rfl ?_
            show ite _ _ _
            rw [if_neg (by omega), if_neg (fun hh => hh ⟨⟨hcd.2, hdb⟩, by omega⟩)]
            exact q_act_of a1 a2 a3 af b1 b2
          · refine s_bipush hV dX11_done_65 (-3) (by decide) ?_
            refine r_iret hV dX11_done_67 rfl rfl ?_
            show ite _ _ _
            rw [if_neg (by omega), if_pos (fun hh => by omega)]
            exact ⟨rfl, rfl, rfl, rfl⟩
        · have hcd := z_ite0 (by first | exact c40 | exact Classical.not_not.mp c40)
          refine s_bipush hV dX11_done_43 (-3) (by decide) ?_
          refine r_iret hV dX11_done_45 rfl rfl ?_
          show ite _ _ _
          rw [if_neg (by omega), if_pos (by intro hh; first | exact hh.1.2 hdb | exact hcd ⟨by omega, hh.1.1⟩)]
          exact ⟨rfl, rfl, rfl, rfl⟩
    · refine s_iconst hV dX11_done_18 (-1) (by decide) ?_
      refine r_iret hV dX11_done_19 rfl rfl ?_
      show ite _ _ _
      rw [if_pos (by omega)]
      exact ⟨rfl, rfl, rfl, rfl⟩

set_option maxRecDepth 20000 in
theorem m_loan (I : zI) (J : zJ) (P : zP) (d d1 : Nat) (hK : cK P) (q10 : P 0 10 = some d) (q11 : P 0 11 = some d1) (hdd : (d = 66 ∧ d1 = 72) ∨ (d = 72 ∧ d1 = 66)) (n : Nat) (S : Int → Int) (hS : cSt I 3 S) (dn dh : Nat) (hg : cG n S dn dh) (c nx : Int) (hc : I 5 1 = iI c) (hnx : I 5 2 = iI nx) (hcb : 0 ≤ c ∧ c ≤ 16) (hxb : 0 ≤ nx ∧ nx < 16) (x : Int) (hx : z_rg x) (b : Int) (hb : z_rg b) (hb01 : b = 0 ∨ b = 1) : z_Sp 2 yX11_loan cX11_loan 3 (some .int) 108 108 I J P [.ref 0, .int (iI x), .int (iI b)] (fun v I1 J1 P1 => if x < 1 ∨ 99 < x then q_no I J P (-2) v I1 J1 P1 else if b = 0 ∧ S 2 < x then q_no I J P (-3) v I1 J1 P1 else if 8 ≤ S 5 then q_no I J P (-4) v I1 J1 P1 else q_act I J P c nx S (zup (zup (zup S (6 + S 5) (if b = 0 then x else -x)) 5 (S 5 + 1)) 2 (S 2 - (if b = 0 then x else -x))) (S 2 - (if b = 0 then x else -x)) v I1 J1 P1) := by
  obtain ⟨q0, q1, q2, q3, q4, q5, q6, q7, q8, q9, p1, h3, hA, hL, hTr0, hTr1, hTr2, hPn, hGs, hD66, hD72⟩ := id hK
  have hD : zDay P d := by rcases hdd with ⟨rfl, rfl⟩ | ⟨rfl, rfl⟩ <;> assumption
  obtain ⟨hd, p4, p5, p6, p7, p8⟩ := id hD
  have hD1 : zDay P d1 := by rcases hdd with ⟨rfl, rfl⟩ | ⟨rfl, rfl⟩ <;> assumption
  obtain ⟨g0, g1, g2, g3, g4, g5, g6, g7, g8⟩ := id hg
  have hx1 := hx.1
  have hx2 := hx.2
  have hb1 := hb.1
  have hb2 := hb.2
  refine z_met false (by decide +kernel) (fun h => by cases h) (Nat.le_of_ble_eq_true rfl) (by first | decide | omega) (fun V hV => ?_)
  show V 108 I J P 0 [.ref 0, .int (iI x), .int (iI b)] []
  refine r_iload_n hV dX11_loan_0 rfl ?_
  refine s_iconst hV dX11_loan_1 (1) (by decide) ?_
  refine s_icmp_lt hV 11 dX11_loan_2 (by decide) (by unfold z_rg; first | omega | (split <;> omega)) (by unfold z_rg; first | omega | (split <;> omega)) (fun c2 => ?_) (fun c2 => ?_)
  · refine s_bipush hV dX11_loan_11 (-2) (by decide) ?_
    refine r_iret hV dX11_loan_13 rfl rfl ?_
    show ite _ _ _
    rw [if_pos (by omega)]
    exact ⟨rfl, rfl, rfl, rfl⟩
  · refine r_iload_n hV dX11_loan_5 rfl ?_
    refine s_bipush hV dX11_loan_6 (99) (by decide) ?_
    refine s_icmp_le hV 14 dX11_loan_8 (by decide) (by unfold z_rg; first | omega | (split <;> omega)) (by unfold z_rg; first | omega | (split <;> omega)) (fun c8 => ?_) (fun c8 => ?_)
    · refine r_iload_n hV dX11_loan_14 rfl ?_
      refine s_if_ne hV 32 dX11_loan_15 (by decide) (by unfold z_rg; first | omega | (split <;> omega)) (fun c15 => ?_) (fun c15 => ?_)
      · refine r_aload_n hV dX11_loan_32 rfl rfl ?_
        refine r_getR hV dX11_loan_33 fl_X11_19 (by first | decide | omega) (by first | rfl | assumption | exact h3.2.1 | (rcases hdd with ⟨rfl, rfl⟩ | ⟨rfl, rfl⟩ <;> rfl)) q1 ?_
        refine r_getI hV dX11_loan_36 fl_X11_140 (by first | decide | omega) (by first | rfl | assumption | exact h3.2.1 | (rcases hdd with ⟨rfl, rfl⟩ | ⟨rfl, rfl⟩ <;> rfl)) (hS.1 5 (by omega) (by omega)) ?_
        refine s_bipush hV dX11_loan_39 (8) (by decide) ?_
        refine s_icmp_lt hV 47 dX11_loan_41 (by decide) (by unfold z_rg; first | omega | (split <;> omega)) (by unfold z_rg; first | omega | (split <;> omega)) (fun c41 => ?_) (fun c41 => ?_)
        · refine r_aload_n hV dX11_loan_47 rfl rfl ?_
          refine r_getR hV dX11_loan_48 fl_X11_26 (by first | decide | omega) (by first | rfl | assumption | exact h3.2.1 | (rcases hdd with ⟨rfl, rfl⟩ | ⟨rfl, rfl⟩ <;> rfl)) q2 ?_
          refine r_aload_n hV dX11_loan_51 rfl rfl ?_
          refine r_getR hV dX11_loan_52 fl_X11_19 (by first | decide | omega) (by first | rfl | assumption | exact h3.2.1 | (rcases hdd with ⟨rfl, rfl⟩ | ⟨rfl, rfl⟩ <;> rfl)) q1 ?_
          refine r_iv1 hV dX11_loan_55 mv_X11_184 (m_remember I J P hA h3 c nx hc hnx hcb hxb S hS) (by first | decide | omega) (by first | rfl | assumption | exact h3.2.1 | (rcases hdd with ⟨rfl, rfl⟩ | ⟨rfl, rfl⟩ <;> rfl)) (by decide) (Nat.le_refl _) (Nat.le_of_ble_eq_true rfl) (fun w2 I2 J2 P2 hq => ?_)
          obtain ⟨rfl, ej, ep, a1, a2, a3, af⟩ := hq
          rw [ej, ep]
          show V 108 I2 J P _ _ []
          have hS2 : cSt I2 3 S := cSt_fr hS (af 3 (by omega) (by omega) (by omega)) (af 4 (by omega) (by omega) (by omega))
          clear ej ep
          refine r_aload_n hV dX11_loan_58 rfl rfl ?_
          refine r_getR hV dX11_loan_59 fl_X11_19 (by first | decide | omega) (by first | rfl | assumption | exact h3.2.1 | (rcases hdd with ⟨rfl, rfl⟩ | ⟨rfl, rfl⟩ <;> rfl)) q1 ?_
          refine r_iload_n hV dX11_loan_62 rfl ?_
          refine s_if_eq hV 71 dX11_loan_63 (by decide) (by unfold z_rg; first | omega | (split <;> omega)) (fun c63 => ?_) (fun c63 => ?_)
          · refine r_iload_n hV dX11_loan_71 rfl ?_
            first
              | rw [show iI (-x) = iI (if b = 0 then x else -x) by rw [if_neg (by omega)]]
              | rw [show iI x = iI (if b = 0 then x else -x) by rw [if_pos (by omega)]]
            refine r_iv1 hV dX11_loan_72 mv_X11_199 (m_addLoan I2 J P 3 h3 S hS2 (S 5) rfl g7 g8 (by omega) (if b = 0 then x else -x)) (by first | decide | omega) (by first | rfl | assumption | exact h3.2.1 | (rcases hdd with ⟨rfl, rfl⟩ | ⟨rfl, rfl⟩ <;> rfl)) (by decide) (Nat.le_refl _) (Nat.le_of_ble_eq_true rfl) (fun w3 I3 J3 P3 hq => ?_)
            obtain ⟨rfl, ej, ep, b1, b2⟩ := hq
            rw [ej, ep]
            show V 108 I3 J P _ _ []
            clear ej ep
            refine r_aload_n hV dX11_loan_75 rfl rfl ?_
            refine r_getR hV dX11_loan_76 fl_X11_19 (by first | decide | omega) (by first | rfl | assumption | exact h3.2.1 | (rcases hdd with ⟨rfl, rfl⟩ | ⟨rfl, rfl⟩ <;> rfl)) q1 ?_
            refine r_getI hV dX11_loan_79 fl_X11_127 (by first | decide | omega) (by first | rfl | assumption | exact h3.2.1 | (rcases hdd with ⟨rfl, rfl⟩ | ⟨rfl, rfl⟩ <;> rfl)) ((b1.1 2 (by omega) (by omega)).trans (by rw [zup, if_pos rfl])) ?_
            refine r_iret hV dX11_loan_82 rfl rfl ?_
            show ite _ _ _
            rw [if_neg (by omega), if_neg (by omega), if_neg (by omega)]
            exact q_act_of a1 a2 a3 af b1 b2
          · refine r_iload_n hV dX11_loan_66 rfl ?_
            refine s_ineg hV dX11_loan_67 ?_
            refine r_goto hV 72 dX11_loan_68 (by decide) ?_
            first
              | rw [show iI (-x) = iI (if b = 0 then x else -x) by rw [if_neg (by omega)]]
              | rw [show iI x = iI (if b = 0 then x else -x) by rw [if_pos (by omega)]]
            refine r_iv1 hV dX11_loan_72 mv_X11_199 (m_addLoan I2 J P 3 h3 S hS2 (S 5) rfl g7 g8 (by omega) (if b = 0 then x else -x)) (by first | decide | omega) (by first | rfl | assumption | exact h3.2.1 | (rcases hdd with ⟨rfl, rfl⟩ | ⟨rfl, rfl⟩ <;> rfl)) (by decide) (Nat.le_refl _) (Nat.le_of_ble_eq_true rfl) (fun w3 I3 J3 P3 hq => ?_)
            obtain ⟨rfl, ej, ep, b1, b2⟩ := hq
            rw [ej, ep]
            show V 108 I3 J P _ _ []
            clear ej ep
            refine r_aload_n hV dX11_loan_75 rfl rfl ?_
            refine r_getR hV dX11_loan_76 fl_X11_19 (by first | decide | omega) (by first | rfl | assumption | exact h3.2.1 | (rcases hdd with ⟨rfl, rfl⟩ | ⟨rfl, rfl⟩ <;> rfl)) q1 ?_
            refine r_getI hV dX11_loan_79 fl_X11_127 (by first | decide | omega) (by first | rfl | assumption | exact h3.2.1 | (rcases hdd with ⟨rfl, rfl⟩ | ⟨rfl, rfl⟩ <;> rfl)) ((b1.1 2 (by omega) (by omega)).trans (by rw [zup, if_pos rfl])) ?_
            refine r_iret hV dX11_loan_82 rfl rfl ?_
            show ite _ _ _
            rw [if_neg (by omega), if_neg (by omega), if_neg (by omega)]
            exact q_act_of a1 a2 a3 af b1 b2
        · refine s_bipush hV dX11_loan_44 (-4) (by decide) ?_
          refine r_iret hV dX11_loan_46 rfl rfl ?_
          show ite _ _ _
          rw [if_neg (by omega), if_neg (by omega), if_pos (by omega)]
          exact ⟨rfl, rfl, rfl, rfl⟩
      · refine r_iload_n hV dX11_loan_18 rfl ?_
        refine r_aload_n hV dX11_loan_19 rfl rfl ?_
        refine r_getR hV dX11_loan_20 fl_X11_19 (by first | decide | omega) (by first | rfl | assumption | exact h3.2.1 | (rcases hdd with ⟨rfl, rfl⟩ | ⟨rfl, rfl⟩ <;> rfl)) q1 ?_
        refine r_getI hV dX11_loan_23 fl_X11_127 (by first | decide | omega) (by first | rfl | assumption | exact h3.2.1 | (rcases hdd with ⟨rfl, rfl⟩ | ⟨rfl, rfl⟩ <;> rfl)) (hS.1 2 (by omega) (by omega)) ?_
        refine s_icmp_le hV 32 dX11_loan_26 (by decide) (by unfold z_rg; first | omega | (split <;> omega)) (by unfold z_rg; first | omega | (split <;> omega)) (fun c26 => ?_) (fun c26 => ?_)
        · refine r_aload_n hV dX11_loan_32 rfl rfl ?_
          refine r_getR hV dX11_loan_33 fl_X11_19 (by first | decide | omega) (by first | rfl | assumption | exact h3.2.1 | (rcases hdd with ⟨rfl, rfl⟩ | ⟨rfl, rfl⟩ <;> rfl)) q1 ?_
          refine r_getI hV dX11_loan_36 fl_X11_140 (by first | decide | omega) (by first | rfl | assumption | exact h3.2.1 | (rcases hdd with ⟨rfl, rfl⟩ | ⟨rfl, rfl⟩ <;> rfl)) (hS.1 5 (by omega) (by omega)) ?_
          refine s_bipush hV dX11_loan_39 (8) (by decide) ?_
          refine s_icmp_lt hV 47 dX11_loan_41 (by decide) (by unfold z_rg; first | omega | (split <;> omega)) (by unfold z_rg; first | omega | (split <;> omega)) (fun c41 => ?_) (fun c41 => ?_)
          · refine r_aload_n hV dX11_loan_47 rfl rfl ?_
            refine r_getR hV dX11_loan_48 fl_X11_26 (by first | decide | omega) (by first | rfl | assumption | exact h3.2.1 | (rcases hdd with ⟨rfl, rfl⟩ | ⟨rfl, rfl⟩ <;> rfl)) q2 ?_
            refine r_aload_n hV dX11_loan_51 rfl rfl ?_
            refine r_getR hV dX11_loan_52 fl_X11_19 (by first | decide | omega) (by first | rfl | assumption | exact h3.2.1 | (rcases hdd with ⟨rfl, rfl⟩ | ⟨rfl, rfl⟩ <;> rfl)) q1 ?_
            refine r_iv1 hV dX11_loan_55 mv_X11_184 (m_remember I J P hA h3 c nx hc hnx hcb hxb S hS) (by first | decide | omega) (by first | rfl | assumption | exact h3.2.1 | (rcases hdd with ⟨rfl, rfl⟩ | ⟨rfl, rfl⟩ <;> rfl)) (by decide) (Nat.le_refl _) (Nat.le_of_ble_eq_true rfl) (fun w2 I2 J2 P2 hq => ?_)
            obtain ⟨rfl, ej, ep, a1, a2, a3, af⟩ := hq
            rw [ej, ep]
            show V 108 I2 J P _ _ []
            have hS2 : cSt I2 3 S := cSt_fr hS (af 3 (by omega) (by omega) (by omega)) (af 4 (by omega) (by omega) (by omega))
            clear ej ep
            refine r_aload_n hV dX11_loan_58 rfl rfl ?_
            refine r_getR hV dX11_loan_59 fl_X11_19 (by first | decide | omega) (by first | rfl | assumption | exact h3.2.1 | (rcases hdd with ⟨rfl, rfl⟩ | ⟨rfl, rfl⟩ <;> rfl)) q1 ?_
            refine r_iload_n hV dX11_loan_62 rfl ?_
            refine s_if_eq hV 71 dX11_loan_63 (by decide) (by unfold z_rg; first | omega | (split <;> omega)) (fun c63 => ?_) (fun c63 => ?_)
            · refine r_iload_n hV dX11_loan_71 rfl ?_
              first
                | rw [show iI (-x) = iI (if b = 0 then x else -x) by rw [if_neg (by omega)]]
                | rw [show iI x = iI (if b = 0 then x else -x) by rw [if_pos (by omega)]]
              refine r_iv1 hV dX11_loan_72 mv_X11_199 (m_addLoan I2 J P 3 h3 S hS2 (S 5) rfl g7 g8 (by omega) (if b = 0 then x else -x)) (by first | decide | omega) (by first | rfl | assumption | exact h3.2.1 | (rcases hdd with ⟨rfl, rfl⟩ | ⟨rfl, rfl⟩ <;> rfl)) (by decide) (Nat.le_refl _) (Nat.le_of_ble_eq_true rfl) (fun w3 I3 J3 P3 hq => ?_)
              obtain ⟨rfl, ej, ep, b1, b2⟩ := hq
              rw [ej, ep]
              show V 108 I3 J P _ _ []
              clear ej ep
              refine r_aload_n hV dX11_loan_75 rfl rfl ?_
              refine r_getR hV dX11_loan_76 fl_X11_19 (by first | decide | omega) (by first | rfl | assumption | exact h3.2.1 | (rcases hdd with ⟨rfl, rfl⟩ | ⟨rfl, rfl⟩ <;> rfl)) q1 ?_
              refine r_getI hV dX11_loan_79 fl_X11_127 (by first | decide | omega) (by first | rfl | assumption | exact h3.2.1 | (rcases hdd with ⟨rfl, rfl⟩ | ⟨rfl, rfl⟩ <;> rfl)) ((b1.1 2 (by omega) (by omega)).trans (by rw [zup, if_pos rfl])) ?_
              refine r_iret hV dX11_loan_82 rfl rfl ?_
              show ite _ _ _
              rw [if_neg (by omega), if_neg (by omega), if_neg (by omega)]
              exact q_act_of a1 a2 a3 af b1 b2
            · refine r_iload_n hV dX11_loan_66 rfl ?_
              refine s_ineg hV dX11_loan_67 ?_
              refine r_goto hV 72 dX11_loan_68 (by decide) ?_
              first
                | rw [show iI (-x) = iI (if b = 0 then x else -x) by rw [if_neg (by omega)]]
                | rw [show iI x = iI (if b = 0 then x else -x) by rw [if_pos (by omega)]]
              refine r_iv1 hV dX11_loan_72 mv_X11_199 (m_addLoan I2 J P 3 h3 S hS2 (S 5) rfl g7 g8 (by omega) (if b = 0 then x else -x)) (by first | decide | omega) (by first | rfl | assumption | exact h3.2.1 | (rcases hdd with ⟨rfl, rfl⟩ | ⟨rfl, rfl⟩ <;> rfl)) (by decide) (Nat.le_refl _) (Nat.le_of_ble_eq_true rfl) (fun w3 I3 J3 P3 hq => ?_)
              obtain ⟨rfl, ej, ep, b1, b2⟩ := hq
              rw [ej, ep]
              show V 108 I3 J P _ _ []
              clear ej ep
              refine r_aload_n hV dX11_loan_75 rfl rfl ?_
              refine r_getR hV dX11_loan_76 fl_X11_19 (by first | decide | omega) (by first | rfl | assumption | exact h3.2.1 | (rcases hdd with ⟨rfl, rfl⟩ | ⟨rfl, rfl⟩ <;> rfl)) q1 ?_
              refine r_getI hV dX11_loan_79 fl_X11_127 (by first | decide | omega) (by first | rfl | assumption | exact h3.2.1 | (rcases hdd with ⟨rfl, rfl⟩ | ⟨rfl, rfl⟩ <;> rfl)) ((b1.1 2 (by omega) (by omega)).trans (by rw [zup, if_pos rfl])) ?_
              refine r_iret hV dX11_loan_82 rfl rfl ?_
              show ite _ _ _
              rw [if_neg (by omega), if_neg (by omega), if_neg (by omega)]
              exact q_act_of a1 a2 a3 af b1 b2
          · refine s_bipush hV dX11_loan_44 (-4) (by decide) ?_
            refine r_iret hV dX11_loan_46 rfl rfl ?_
            show ite _ _ _
            rw [if_neg (by omega), if_neg (by omega), if_pos (by omega)]
            exact ⟨rfl, rfl, rfl, rfl⟩
        · refine s_bipush hV dX11_loan_29 (-3) (by decide) ?_
          refine r_iret hV dX11_loan_31 rfl rfl ?_
          show ite _ _ _
          rw [if_neg (by omega), if_pos (by omega)]
          exact ⟨rfl, rfl, rfl, rfl⟩
    · refine s_bipush hV dX11_loan_11 (-2) (by decide) ?_
      refine r_iret hV dX11_loan_13 rfl rfl ?_
      show ite _ _ _
      rw [if_pos (by omega)]
      exact ⟨rfl, rfl, rfl, rfl⟩

set_option maxRecDepth 20000 in
theorem m_back (I : zI) (J : zJ) (P : zP) (d d1 : Nat) (hK : cK P) (q10 : P 0 10 = some d) (q11 : P 0 11 = some d1) (hdd : (d = 66 ∧ d1 = 72) ∨ (d = 72 ∧ d1 = 66)) (n : Nat) (S : Int → Int) (hS : cSt I 3 S) (dn dh : Nat) (hg : cG n S dn dh) (c nx : Int) (hc : I 5 1 = iI c) (hnx : I 5 2 = iI nx) (hcb : 0 ≤ c ∧ c ≤ 16) (hxb : 0 ≤ nx ∧ nx < 16) : z_Sp 4 yX11_back cX11_back 1 (some .int) 108 108 I J P [.ref 0] (fun v I1 J1 P1 => if S 5 < 1 ∨ S 2 + zowed (S 6) < 0 then q_no I J P (-3) v I1 J1 P1 else q_act I J P c nx S (f_gb S) (S 2 + zowed (S 6)) v I1 J1 P1) := by
  obtain ⟨q0, q1, q2, q3, q4, q5, q6, q7, q8, q9, p1, h3, hA, hL, hTr0, hTr1, hTr2, hPn, hGs, hD66, hD72⟩ := id hK
  have hD : zDay P d := by rcases hdd with ⟨rfl, rfl⟩ | ⟨rfl, rfl⟩ <;> assumption
  obtain ⟨hd, p4, p5, p6, p7, p8⟩ := id hD
  have hD1 : zDay P d1 := by rcases hdd with ⟨rfl, rfl⟩ | ⟨rfl, rfl⟩ <;> assumption
  obtain ⟨g0, g1, g2, g3, g4, g5, g6, g7, g8⟩ := id hg
  have how := zowed_b (g8 0 (by omega) (by omega))
  rw [show (6 : Int) + 0 = 6 from rfl] at how
  refine z_met false (by decide +kernel) (fun h => by cases h) (Nat.le_of_ble_eq_true rfl) (by first | decide | omega) (fun V hV => ?_)
  show V 108 I J P 0 [.ref 0] []
  refine r_aload_n hV dX11_back_0 rfl rfl ?_
  refine r_getR hV dX11_back_1 fl_X11_19 (by first | decide | omega) (by first | rfl | assumption | exact h3.2.1 | (rcases hdd with ⟨rfl, rfl⟩ | ⟨rfl, rfl⟩ <;> rfl)) q1 ?_
  refine r_getI hV dX11_back_4 fl_X11_140 (by first | decide | omega) (by first | rfl | assumption | exact h3.2.1 | (rcases hdd with ⟨rfl, rfl⟩ | ⟨rfl, rfl⟩ <;> rfl)) (hS.1 5 (by omega) (by omega)) ?_
  refine s_iconst hV dX11_back_7 (1) (by decide) ?_
  refine s_icmp_lt hV 29 dX11_back_8 (by decide) (by unfold z_rg; first | omega | (split <;> omega)) (by unfold z_rg; first | omega | (split <;> omega)) (fun c8 => ?_) (fun c8 => ?_)
  · refine s_bipush hV dX11_back_29 (-3) (by decide) ?_
    refine r_iret hV dX11_back_31 rfl rfl ?_
    show ite _ _ _
    rw [if_pos (by omega)]
    exact ⟨rfl, rfl, rfl, rfl⟩
  · refine r_aload_n hV dX11_back_11 rfl rfl ?_
    refine r_getR hV dX11_back_12 fl_X11_19 (by first | decide | omega) (by first | rfl | assumption | exact h3.2.1 | (rcases hdd with ⟨rfl, rfl⟩ | ⟨rfl, rfl⟩ <;> rfl)) q1 ?_
    refine r_getI hV dX11_back_15 fl_X11_127 (by first | decide | omega) (by first | rfl | assumption | exact h3.2.1 | (rcases hdd with ⟨rfl, rfl⟩ | ⟨rfl, rfl⟩ <;> rfl)) (hS.1 2 (by omega) (by omega)) ?_
    refine r_aload_n hV dX11_back_18 rfl rfl ?_
    refine r_getR hV dX11_back_19 fl_X11_19 (by first | decide | omega) (by first | rfl | assumption | exact h3.2.1 | (rcases hdd with ⟨rfl, rfl⟩ | ⟨rfl, rfl⟩ <;> rfl)) q1 ?_
    refine q_iv0v hV dX11_back_22 mv_X11_202 (m_owedFirst I J P 3 h3 S hS (S 5) rfl g7 g8) (by first | decide | omega) (by first | rfl | assumption | exact h3.2.1 | (rcases hdd with ⟨rfl, rfl⟩ | ⟨rfl, rfl⟩ <;> rfl)) (by decide) (Nat.le_refl _) (Nat.le_of_ble_eq_true rfl) ?_
    rw [if_neg (by omega)]
    refine s_iadd hV dX11_back_25 ?_
    refine s_if_ge hV 32 dX11_back_26 (by decide) (by unfold z_rg; first | omega | (split <;> omega)) (fun c26 => ?_) (fun c26 => ?_)
    · refine r_aload_n hV dX11_back_32 rfl rfl ?_
      refine r_getR hV dX11_back_33 fl_X11_26 (by first | decide | omega) (by first | rfl | assumption | exact h3.2.1 | (rcases hdd with ⟨rfl, rfl⟩ | ⟨rfl, rfl⟩ <;> rfl)) q2 ?_
      refine r_aload_n hV dX11_back_36 rfl rfl ?_
      refine r_getR hV dX11_back_37 fl_X11_19 (by first | decide | omega) (by first | rfl | assumption | exact h3.2.1 | (rcases hdd with ⟨rfl, rfl⟩ | ⟨rfl, rfl⟩ <;> rfl)) q1 ?_
      refine r_iv1 hV dX11_back_40 mv_X11_184 (m_remember I J P hA h3 c nx hc hnx hcb hxb S hS) (by first | decide | omega) (by first | rfl | assumption | exact h3.2.1 | (rcases hdd with ⟨rfl, rfl⟩ | ⟨rfl, rfl⟩ <;> rfl)) (by decide) (Nat.le_refl _) (Nat.le_of_ble_eq_true rfl) (fun w2 I2 J2 P2 hq => ?_)
      obtain ⟨rfl, ej, ep, a1, a2, a3, af⟩ := hq
      rw [ej, ep]
      show V 108 I2 J P _ _ []
      have hS2 : cSt I2 3 S := cSt_fr hS (af 3 (by omega) (by omega) (by omega)) (af 4 (by omega) (by omega) (by omega))
      clear ej ep
      refine r_aload_n hV dX11_back_43 rfl rfl ?_
      refine r_getR hV dX11_back_44 fl_X11_19 (by first | decide | omega) (by first | rfl | assumption | exact h3.2.1 | (rcases hdd with ⟨rfl, rfl⟩ | ⟨rfl, rfl⟩ <;> rfl)) q1 ?_
      refine r_iv0 hV dX11_back_47 mv_X11_205 (m_giveBack I2 J P 3 h3 S hS2 (S 5) rfl g7 g8 (by omega) (by omega)) (by first | decide | omega) (by first | rfl | assumption | exact h3.2.1 | (rcases hdd with ⟨rfl, rfl⟩ | ⟨rfl, rfl⟩ <;> rfl)) (by decide) (Nat.le_refl _) (Nat.le_of_ble_eq_true rfl) (fun w3 I3 J3 P3 hq => ?_)
      obtain ⟨rfl, ej, ep, b1, b2⟩ := hq
      rw [ej, ep]
      show V 108 I3 J P _ _ []
      clear ej ep
      refine r_aload_n hV dX11_back_50 rfl rfl ?_
      refine r_getR hV dX11_back_51 fl_X11_19 (by first | decide | omega) (by first | rfl | assumption | exact h3.2.1 | (rcases hdd with ⟨rfl, rfl⟩ | ⟨rfl, rfl⟩ <;> rfl)) q1 ?_
      refine r_getI hV dX11_back_54 fl_X11_127 (by first | decide | omega) (by first | rfl | assumption | exact h3.2.1 | (rcases hdd with ⟨rfl, rfl⟩ | ⟨rfl, rfl⟩ <;> rfl)) ((b1.1 2 (by omega) (by omega)).trans (by rw [f_gb, if_pos rfl])) ?_
      refine r_iret hV dX11_back_57 rfl rfl ?_
      show ite _ _ _
      rw [if_neg (by omega)]
      exact q_act_of a1 a2 a3 af b1 b2
    · refine s_bipush hV dX11_back_29 (-3) (by decide) ?_
      refine r_iret hV dX11_back_31 rfl rfl ?_
      show ite _ _ _
      rw [if_pos (by omega)]
      exact ⟨rfl, rfl, rfl, rfl⟩

/-- the last act undone: S2 stands again -/
def q_undo (I : zI) (J : zJ) (P : zP) (c nx : Int) (S2 : Int → Int) (v : Option Value) (I1 : zI) (J1 : zJ) (P1 : zP) : Prop := v = some (.int (iI (c - 1))) ∧ J1 = J ∧ P1 = P ∧ I1 5 1 = iI (c - 1) ∧ I1 5 2 = iI ((nx - 1) % 16) ∧ cSt I1 3 S2 ∧ ∀ q, q ≠ 3 → q ≠ 4 → q ≠ 5 → I1 q = I q
set_option maxRecDepth 20000 in
theorem m_undo (I : zI) (J : zJ) (P : zP) (d d1 : Nat) (hK : cK P) (q10 : P 0 10 = some d) (q11 : P 0 11 = some d1) (hdd : (d = 66 ∧ d1 = 72) ∨ (d = 72 ∧ d1 = 66)) (c nx : Int) (hc : I 5 1 = iI c) (hnx : I 5 2 = iI nx) (hcb : 0 ≤ c ∧ c ≤ 16) (hxb : 0 ≤ nx ∧ nx < 16) (S2 : Int → Int) (hS2 : 1 ≤ c → cSt I (7 + 2 * ((nx - 1) % 16).toNat) S2) : z_Sp 2 yX11_undo cX11_undo 1 (some .int) 108 108 I J P [.ref 0] (fun v I1 J1 P1 => if c < 1 then q_no I J P (-3) v I1 J1 P1 else q_undo I J P c nx S2 v I1 J1 P1) := by
  obtain ⟨q0, q1, q2, q3, q4, q5, q6, q7, q8, q9, p1, h3, hA, hL, hTr0, hTr1, hTr2, hPn, hGs, hD66, hD72⟩ := id hK
  have hD : zDay P d := by rcases hdd with ⟨rfl, rfl⟩ | ⟨rfl, rfl⟩ <;> assumption
  obtain ⟨hd, p4, p5, p6, p7, p8⟩ := id hD
  have hD1 : zDay P d1 := by rcases hdd with ⟨rfl, rfl⟩ | ⟨rfl, rfl⟩ <;> assumption
  refine z_met false (by decide +kernel) (fun h => by cases h) (Nat.le_of_ble_eq_true rfl) (by first | decide | omega) (fun V hV => ?_)
  show V 108 I J P 0 [.ref 0] []
  refine r_aload_n hV dX11_undo_0 rfl rfl ?_
  refine r_getR hV dX11_undo_1 fl_X11_26 (by first | decide | omega) (by first | rfl | assumption | exact h3.2.1 | (rcases hdd with ⟨rfl, rfl⟩ | ⟨rfl, rfl⟩ <;> rfl)) q2 ?_
  refine r_getI hV dX11_undo_4 fl_X11_137 (by first | decide | omega) (by first | rfl | assumption | exact h3.2.1 | (rcases hdd with ⟨rfl, rfl⟩ | ⟨rfl, rfl⟩ <;> rfl)) (by first | assumption | rfl) ?_
  refine s_iconst hV dX11_undo_7 (1) (by decide) ?_
  refine s_icmp_ge hV 14 dX11_undo_8 (by decide) (by unfold z_rg; first | omega | (split <;> omega)) (by unfold z_rg; first | omega | (split <;> omega)) (fun c8 => ?_) (fun c8 => ?_)
  · refine r_aload_n hV dX11_undo_14 rfl rfl ?_
    refine r_getR hV dX11_undo_15 fl_X11_26 (by first | decide | omega) (by first | rfl | assumption | exact h3.2.1 | (rcases hdd with ⟨rfl, rfl⟩ | ⟨rfl, rfl⟩ <;> rfl)) q2 ?_
    refine r_aload_n hV dX11_undo_18 rfl rfl ?_
    refine r_getR hV dX11_undo_19 fl_X11_19 (by first | decide | omega) (by first | rfl | assumption | exact h3.2.1 | (rcases hdd with ⟨rfl, rfl⟩ | ⟨rfl, rfl⟩ <;> rfl)) q1 ?_
    refine r_iv1 hV dX11_undo_22 mv_X11_208 (m_takeLast I J P hA h3 c nx hc hnx hcb hxb (by omega) S2 (hS2 (by omega))) (by first | decide | omega) (by first | rfl | assumption | exact h3.2.1 | (rcases hdd with ⟨rfl, rfl⟩ | ⟨rfl, rfl⟩ <;> rfl)) (by decide) (Nat.le_refl _) (Nat.le_of_ble_eq_true rfl) (fun w2 I2 J2 P2 hq => ?_)
    obtain ⟨rfl, ej, ep, a1, a2, a3, af⟩ := hq
    rw [ej, ep]
    show V 108 I2 J P _ _ []
    refine r_aload_n hV dX11_undo_25 rfl rfl ?_
    refine r_getR hV dX11_undo_26 fl_X11_26 (by first | decide | omega) (by first | rfl | assumption | exact h3.2.1 | (rcases hdd with ⟨rfl, rfl⟩ | ⟨rfl, rfl⟩ <;> rfl)) q2 ?_
    refine r_getI hV dX11_undo_29 fl_X11_137 (by first | decide | omega) (by first | rfl | assumption | exact h3.2.1 | (rcases hdd with ⟨rfl, rfl⟩ | ⟨rfl, rfl⟩ <;> rfl)) a1 ?_
    refine r_iret hV dX11_undo_32 rfl rfl ?_
    show ite _ _ _
    rw [if_neg (by omega)]
    exact ⟨rfl, rfl, rfl, a1, a2, a3, fun q e3 e4 e5 => af q e5 e3 e4⟩
  · refine s_bipush hV dX11_undo_11 (-3) (by decide) ?_
    refine r_iret hV dX11_undo_13 rfl rfl ?_
    show ite _ _ _
    rw [if_pos (by omega)]
    exact ⟨rfl, rfl, rfl, rfl⟩

