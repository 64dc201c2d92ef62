/-- THE TEXT is THE DAY -/
def q_dayT (T : Int → Int) (tl : Int) (S : Int → Int) (I : zI) (J : zJ) (P : zP) (d d1 : Nat) (W U K : Int → Int) (v : Option Value) (I1 : zI) (J1 : zJ) (P1 : zP) : Prop := f_hf T tl = -9 ∧ (2 ≤ zfg T tl 4 ∧ zfg T tl 4 ≤ 6) ∧ ∃ r e R' W' U' K', f_parse T tl (zfg T tl 4) 81 5 0 0 (fun _ => 0) W U K = (-9, r, e, R', W', U', K') ∧ q_bds r e R' W' U' K' ∧ v = some (.int (iI (zfg T tl 4))) ∧ J1 = J ∧ (cK P1 ∧ P1 0 10 = some d1 ∧ P1 0 11 = some d ∧ ∀ q, q ≠ 0 → P1 q = P q) ∧ (I1 d1 0 = iI (zfg T tl 4) ∧ I1 d1 1 = iI (f_st T tl) ∧ I1 d1 2 = iI r ∧ I1 d1 3 = iI e ∧ z_ar I1 (d1 + 2) 36 (f_ms R') ∧ z_bd (f_ms R') 36 0 1000000 ∧ z_ar I1 (d1 + 3) 6 W' ∧ z_ar I1 (d1 + 4) 6 U' ∧ z_ar I1 (d1 + 5) 6 K') ∧ cSt I1 3 (f_beg (f_st T tl) S) ∧ (I1 5 1 = iI 0 ∧ I1 5 2 = iI 0) ∧ z_ar I1 41 2 (fun _ => 0) ∧ ∀ q, (q < d1 ∨ d1 + 5 < q) → q ≠ 3 → q ≠ 4 → q ≠ 5 → q ≠ 41 → I1 q = I q
def q_day (T : Int → Int) (tl : Int) (S : Int → Int) (I : zI) (J : zJ) (P : zP) (d d1 : Nat) (W U K : Int → Int) (v : Option Value) (I1 : zI) (J1 : zJ) (P1 : zP) : Prop := (¬ f_flt T tl W U K = -9 ∧ v = some (.int (iI (-3))) ∧ J1 = J ∧ P1 = P ∧ q_dft I1 d1 ∧ q_out I I1 d1) ∨ (f_flt T tl W U K = -9 ∧ q_dayT T tl S I J P d d1 W U K v I1 J1 P1)
set_option maxRecDepth 20000 in
theorem m_day (I : zI) (J : zJ) (P : zP) (d d1 : Nat) (hK : cK P) (q10 : P 0 10 = some d) (q11 : P 0 11 = some d1) (hdd : (d = 66 ∧ d1 = 72) ∨ (d = 72 ∧ d1 = 66)) (tl : Int) (htl : I 1 1 = iI tl) (htb : 0 ≤ tl ∧ tl ≤ 80) (T : Int → Int) (hT : z_ar I 2 80 T) (hTb : z_bd T 80 0 255) (W0 U0 K0 : Int → Int) (hW0 : z_ar I (d1 + 3) 6 W0) (hU0 : z_ar I (d1 + 4) 6 U0) (hK0 : z_ar I (d1 + 5) 6 K0) (hW0b : z_bd W0 6 0 5) (hU0b : z_bd U0 6 0 9) (hK0b : z_bd K0 6 0 2) (S : Int → Int) (hS : cSt I 3 S) : z_Sp 6 yX11_day cX11_day 2 (some .int) 108 108 I J P [.ref 0] (q_day T tl S I J P d d1 W0 U0 K0) := by
  obtain ⟨q0, q1, q2, q3, q4, q5, q6, q7, q8, q9, p1, h3, hA, hL, hTr0, hTr1, hTr2, hPn, hGs, hD66, hD72⟩ := id hK
  have hD : zDay P d := by rcases hdd with ⟨rfl, rfl⟩ | ⟨rfl, rfl⟩ <;> assumption
  obtain ⟨hd, p4, p5, p6, p7, p8⟩ := id hD
  have hD1 : zDay P d1 := by rcases hdd with ⟨rfl, rfl⟩ | ⟨rfl, rfl⟩ <;> assumption
  refine z_met false (by decide +kernel) (fun h => by cases h) (Nat.le_of_ble_eq_true rfl) (by first | decide | omega) (fun V hV => ?_)
  show V 108 I J P 0 [.ref 0, .null] []
  refine r_aload_n hV dX11_day_0 rfl rfl ?_
  refine r_getR hV dX11_day_1 fl_X11_10 (by first | decide | omega) (by first | rfl | assumption | exact h3.2.1 | (rcases hdd with ⟨rfl, rfl⟩ | ⟨rfl, rfl⟩ <;> rfl)) q0 ?_
  refine r_aload_n hV dX11_day_4 rfl rfl ?_
  refine r_getR hV dX11_day_5 fl_X11_83 (by first | decide | omega) (by first | rfl | assumption | exact h3.2.1 | (rcases hdd with ⟨rfl, rfl⟩ | ⟨rfl, rfl⟩ <;> rfl)) q11 ?_
  refine r_is2 hV dX11_day_8 ms_X11_97 (m_firstFault I J P d1 hD1 p1 tl htl htb T hT hTb W0 U0 K0 hW0 hU0 hK0 hW0b hU0b hK0b) (by decide) (Nat.le_refl _) (Nat.le_of_ble_eq_true rfl) (fun w I2 J2 P2 hq => ?_)
  have hq := q_flt_of hq hW0 hU0 hK0 hW0b hU0b hK0b
  obtain ⟨ej, ep, rfl, f1, f2, f3⟩ := id hq
  rw [ej, ep]
  show V 108 I2 J P _ _ [.int (iI (f_flt T tl W0 U0 K0))]
  have hfb := f_flt_b (T := T) (W := W0) (U := U0) (K := K0) htb
  refine s_bipush hV dX11_day_11 (-9) (by decide) ?_
  refine s_icmp_eq hV 19 dX11_day_13 (by decide) (by unfold z_rg; first | omega | (split <;> omega)) (by unfold z_rg; first | omega | (split <;> omega)) (fun c13 => ?_) (fun c13 => ?_)
  · obtain ⟨b1, b2, r, e, R2, W2, U2, K2, c1, ⟨d0, dd1, dd2, dd3, dR, dW, dU, dK⟩, c4⟩ := f3 c13
    have hfr2 : ∀ q, (q < d1 ∨ d1 + 5 < q) → I2 q = I q := f2
    refine r_aload_n hV dX11_day_19 rfl rfl ?_
    refine r_getR hV dX11_day_20 fl_X11_83 (by first | decide | omega) (by first | rfl | assumption | exact h3.2.1 | (rcases hdd with ⟨rfl, rfl⟩ | ⟨rfl, rfl⟩ <;> rfl)) q11 ?_
    refine r_astore_n hV dX11_day_23 (Nat.le_of_ble_eq_true rfl) (z_st1_2_1 rfl) ?_
    refine r_aload_n hV dX11_day_24 rfl rfl ?_
    refine r_aload_n hV dX11_day_25 rfl rfl ?_
    refine r_getR hV dX11_day_26 fl_X11_79 (by first | decide | omega) (by first | rfl | assumption | exact h3.2.1 | (rcases hdd with ⟨rfl, rfl⟩ | ⟨rfl, rfl⟩ <;> rfl)) q10 ?_
    refine r_putR hV dX11_day_29 fl_X11_83 (pf_X11_83 _) (by first | decide | omega) (by first | rfl | assumption | exact h3.2.1 | (rcases hdd with ⟨rfl, rfl⟩ | ⟨rfl, rfl⟩ <;> rfl)) ?_
    refine r_aload_n hV dX11_day_32 rfl rfl ?_
    refine r_aload_n hV dX11_day_33 rfl rfl ?_
    refine r_putR hV dX11_day_34 fl_X11_79 (pf_X11_79 _) (by first | decide | omega) (by first | rfl | assumption | exact h3.2.1 | (rcases hdd with ⟨rfl, rfl⟩ | ⟨rfl, rfl⟩ <;> rfl)) ?_
    generalize hP3 : zu P 0 (zu (P 0) 11 (some d)) = P3
    generalize hP4 : zu P3 0 (zu (P3 0) 10 (some d1)) = P4
    have eK : ∀ k, k < 10 → P4 0 k = P 0 k := fun k hk => by rw [← hP4, zu_s, zu_n _ _ (by omega), ← hP3, zu_s, zu_n _ _ (by omega)]
    have eQ : ∀ q, q ≠ 0 → P4 q = P q := fun q hq => by rw [← hP4, zu_n _ _ hq, ← hP3, zu_n _ _ hq]
    have e10 : P4 0 10 = some d1 := by rw [← hP4, zu_s, zu_s]
    have e11 : P4 0 11 = some d := by rw [← hP4, zu_s, zu_n _ _ (by omega), ← hP3, zu_s, zu_s]
    have hK4 : cK P4 := cK_fr hK eK (fun q a _ _ => eQ q a)
    obtain ⟨k0, k1, k2, k3, k4, k5, k6, k7, k8, k9, kp1, kh3, kA, kL, kTa, kTb, kTc, kPn, kGs, kD66, kD72⟩ := id hK4
    have kD1 : zDay P4 d1 := zDay_fr hD1 (eQ _ (by omega))
    obtain ⟨kd, kp4, kp5, kp6, kp7, kp8⟩ := id kD1
    clear hP3 hP4
    have ks0 : zSH d1 = .inl 1 := by rcases kd with rfl | rfl <;> rfl
    have ks1 : zSH (d1 + 1) = .inr (.int, 36) := by rcases kd with rfl | rfl <;> rfl
    have ks2 : zSH (d1 + 2) = .inr (.int, 36) := by rcases kd with rfl | rfl <;> rfl
    refine r_aload_n hV dX11_day_37 rfl rfl ?_
    refine r_getR hV dX11_day_38 fl_X11_79 (by first | decide | omega) (by first | rfl | assumption | exact h3.2.1 | (rcases hdd with ⟨rfl, rfl⟩ | ⟨rfl, rfl⟩ <;> rfl)) e10 ?_
    refine r_iv0 hV dX11_day_41 mv_X11_103 (m_measure 108 I2 J P4 d1 (by omega) kp4 kp5 ks0 ks1 ks2 R2 dR c4.2.2.1) (by first | decide | omega) ks0 (by decide) (Nat.le_refl _) (Nat.le_of_ble_eq_true rfl) (fun w I3 J3 P3 hm => ?_)
    obtain ⟨rfl, ej3, ep3, m1, m2, m3⟩ := hm
    rw [ej3, ep3]
    show V 108 I3 J P4 _ _ []
    refine r_aload_n hV dX11_day_44 rfl rfl ?_
    refine r_getR hV dX11_day_45 fl_X11_19 (by first | decide | omega) (by first | rfl | assumption | exact h3.2.1 | (rcases hdd with ⟨rfl, rfl⟩ | ⟨rfl, rfl⟩ <;> rfl)) k1 ?_
    refine r_aload_n hV dX11_day_48 rfl rfl ?_
    refine r_getR hV dX11_day_49 fl_X11_79 (by first | decide | omega) (by first | rfl | assumption | exact h3.2.1 | (rcases hdd with ⟨rfl, rfl⟩ | ⟨rfl, rfl⟩ <;> rfl)) e10 ?_
    refine r_getI hV dX11_day_52 fl_X11_106 (by first | decide | omega) ks0 ((congrFun (m3 _ (by omega)) 1).trans dd1) ?_
    refine r_iv1 hV dX11_day_55 mv_X11_110 (m_sbegin I3 J P4 3 kh3 S (cSt_fr hS ((m3 _ (by omega)).trans (hfr2 _ (by omega))) ((m3 _ (by omega)).trans (hfr2 _ (by omega)))) (f_st T tl)) (by first | decide | omega) (by first | rfl | assumption | exact h3.2.1 | (rcases hdd with ⟨rfl, rfl⟩ | ⟨rfl, rfl⟩ <;> rfl)) (by decide) (Nat.le_refl _) (Nat.le_of_ble_eq_true rfl) (fun w I4 J4 P5 hs => ?_)
    obtain ⟨rfl, ej4, ep4, s1, s2⟩ := hs
    rw [ej4, ep4]
    show V 108 I4 J P4 _ _ []
    refine r_aload_n hV dX11_day_58 rfl rfl ?_
    refine r_getR hV dX11_day_59 fl_X11_26 (by first | decide | omega) (by first | rfl | assumption | exact h3.2.1 | (rcases hdd with ⟨rfl, rfl⟩ | ⟨rfl, rfl⟩ <;> rfl)) k2 ?_
    refine q_iv0u hV dX11_day_62 mv_X11_114 (m_aforget I4 J P4) (by first | decide | omega) (by first | rfl | assumption | exact h3.2.1 | (rcases hdd with ⟨rfl, rfl⟩ | ⟨rfl, rfl⟩ <;> rfl)) (by decide) (Nat.le_refl _) (Nat.le_of_ble_eq_true rfl) ?_
    generalize hI5 : zu (zu I4 5 (zu (I4 5) 1 (iI 0))) 5 (zu (zu I4 5 (zu (I4 5) 1 (iI 0)) 5) 2 (iI 0)) = I5
    have a5 : ∀ q, q ≠ 5 → I5 q = I4 q := fun q hq => by rw [← hI5, zu_n _ _ hq, zu_n _ _ hq]
    have a51 : I5 5 1 = iI 0 := by rw [← hI5, zu_s, zu_n _ _ (by omega), zu_s, zu_s]
    have a52 : I5 5 2 = iI 0 := by rw [← hI5, zu_s, zu_s]
    refine r_aload_n hV dX11_day_65 rfl rfl ?_
    refine r_getR hV dX11_day_66 fl_X11_33 (by first | decide | omega) (by first | rfl | assumption | exact h3.2.1 | (rcases hdd with ⟨rfl, rfl⟩ | ⟨rfl, rfl⟩ <;> rfl)) k3 ?_
    refine r_iv0 hV dX11_day_69 mv_X11_117 (m_sforget I5 J P4 kL) (by first | decide | omega) (by first | rfl | assumption | exact h3.2.1 | (rcases hdd with ⟨rfl, rfl⟩ | ⟨rfl, rfl⟩ <;> rfl)) (by decide) (Nat.le_refl _) (Nat.le_of_ble_eq_true rfl) (fun w I6 J6 P6 hf => ?_)
    obtain ⟨rfl, ej6, ep6, l1, l2⟩ := hf
    rw [ej6, ep6]
    show V 108 I6 J P4 _ _ []
    have e63 : ∀ q, q ≠ 41 → q ≠ 5 → q ≠ 3 → q ≠ 4 → I6 q = I3 q := fun q a b c g => (l2 q a).trans ((a5 q b).trans (s2 q c (by omega)))
    have e62 : ∀ q, q ≠ 41 → q ≠ 5 → q ≠ 3 → q ≠ 4 → q ≠ d1 + 2 → I6 q = I2 q := fun q a b c g h => (e63 q a b c g).trans (m3 q h)
    refine r_aload_n hV dX11_day_72 rfl rfl ?_
    refine r_getR hV dX11_day_73 fl_X11_79 (by first | decide | omega) (by first | rfl | assumption | exact h3.2.1 | (rcases hdd with ⟨rfl, rfl⟩ | ⟨rfl, rfl⟩ <;> rfl)) e10 ?_
    refine r_getI hV dX11_day_76 fl_X11_118 (by first | decide | omega) ks0 ((congrFun (e62 _ (by omega) (by omega) (by omega) (by omega) (by omega)) 0).trans d0) ?_
    refine r_iret hV dX11_day_79 rfl rfl ?_
    refine Or.inr ⟨c13, b1, b2, r, e, R2, W2, U2, K2, c1, c4, rfl, rfl, ⟨hK4, e10, e11, eQ⟩, ⟨?_, ?_, ?_, ?_, ?_, m2, ?_, ?_, ?_⟩, ?_, ⟨?_, ?_⟩, l1, ?_⟩
    · exact (congrFun (e62 _ (by omega) (by omega) (by omega) (by omega) (by omega)) 0).trans d0
    · exact (congrFun (e62 _ (by omega) (by omega) (by omega) (by omega) (by omega)) 1).trans dd1
    · exact (congrFun (e62 _ (by omega) (by omega) (by omega) (by omega) (by omega)) 2).trans dd2
    · exact (congrFun (e62 _ (by omega) (by omega) (by omega) (by omega) (by omega)) 3).trans dd3
    · exact z_ar_fr m1 (e63 _ (by omega) (by omega) (by omega) (by omega))
    · exact z_ar_fr dW (e62 _ (by omega) (by omega) (by omega) (by omega) (by omega))
    · exact z_ar_fr dU (e62 _ (by omega) (by omega) (by omega) (by omega) (by omega))
    · exact z_ar_fr dK (e62 _ (by omega) (by omega) (by omega) (by omega) (by omega))
    · exact cSt_fr s1 ((l2 _ (by omega)).trans (a5 _ (by omega))) ((l2 _ (by omega)).trans (a5 _ (by omega)))
    · exact (congrFun (l2 5 (by omega)) 1).trans a51
    · exact (congrFun (l2 5 (by omega)) 2).trans a52
    · exact fun q a b c g h => (e62 q h g b c (by omega)).trans (hfr2 q a)
  · refine s_bipush hV dX11_day_16 (-3) (by decide) ?_
    refine r_iret hV dX11_day_18 rfl rfl ?_
    exact Or.inl ⟨by omega, rfl, rfl, rfl, f1, f2⟩

def f_about (n : Int) (e r : Int) (U S : Int → Int) (dn : Nat) (c tl w : Int) : Int := if w = 0 then n else if w = 1 then e else if w = 2 then r else if w = 3 then S 2 else if w = 4 then (dn : Int) else if w = 5 then zsum (f_wt dn U) e.toNat else if w = 6 then c else if w = 7 then S 5 else if w = 8 then zsum (f_owe S) (S 5).toNat + 10000 else if w = 9 then tl else -2
def f_errand (e : Int) (W U K : Int → Int) (dn dh : Nat) (a w : Int) : Int := if 0 ≤ a ∧ a < e then (if w = 0 then W a else if w = 1 then U a else if w = 2 then K a else if w = 3 then (if dn.testBit a.toNat then 1 else 0) else if w = 4 then (if dn.testBit a.toNat then (if dh.testBit a.toNat then 1 else 0) else -9) else -2) else -1
set_option maxRecDepth 20000 in
theorem m_about (I : zI) (J : zJ) (P : zP) (d d1 : Nat) (hK : cK P) (q10 : P 0 10 = some d) (q11 : P 0 11 = some d1) (hdd : (d = 66 ∧ d1 = 72) ∨ (d = 72 ∧ d1 = 66)) (n : Nat) (hn : I d 0 = iI (n : Int)) (hnb : 2 ≤ n ∧ n ≤ 6) (e : Nat) (he : I d 3 = iI (e : Int)) (he6 : e ≤ 6) (U : Int → Int) (hU : z_ar I (d + 4) 6 U) (hUb : z_bd U 6 0 9) (S : Int → Int) (hS : cSt I 3 S) (dn dh : Nat) (hg : cG n S dn dh) (c nx : Int) (hc : I 5 1 = iI c) (hnx : I 5 2 = iI nx) (hcb : 0 ≤ c ∧ c ≤ 16) (hxb : 0 ≤ nx ∧ nx < 16) (tl : Int) (htl : I 1 1 = iI tl) (htb : 0 ≤ tl ∧ tl ≤ 80) (T : Int → Int) (hT : z_ar I 2 80 T) (hTb : z_bd T 80 0 255) (r : Int) (hr : I d 2 = iI r) (w : Int) (hw : z_rg w) : z_Fn 3 yX11_about cX11_about 2 (some .int) 108 108 I J P [.ref 0, .int (iI w)] (some (.int (iI (f_about n e r U S dn c tl w)))) (I) (J) (P) := by
  obtain ⟨q0, q1, q2, q3, q4, q5, q6, q7, q8, q9, p1, h3, hA, hL, hTr0, hTr1, hTr2, hPn, hGs, hD66, hD72⟩ := id hK
  have hD : zDay P d := by rcases hdd with ⟨rfl, rfl⟩ | ⟨rfl, rfl⟩ <;> assumption
  obtain ⟨hd, p4, p5, p6, p7, p8⟩ := id hD
  have hD1 : zDay P d1 := by rcases hdd with ⟨rfl, rfl⟩ | ⟨rfl, rfl⟩ <;> assumption
  obtain ⟨g0, g1, g2, g3, g4, g5, g6, g7, g8⟩ := id hg
  have hw1 := hw.1
  have hw2 := hw.2
  refine z_met false (by decide +kernel) (fun h => by cases h) (Nat.le_of_ble_eq_true rfl) (by first | decide | omega) (fun V hV => ?_)
  show V 108 I J P 0 [.ref 0, .int (iI w)] []
  refine r_iload_n hV dX11_about_0 rfl ?_
  refine s_tsw hV dX11_about_1 (by unfold z_rg; first | omega | (split <;> omega)) (fun ho1 => ⟨147, by decide, ?_⟩) (fun hl1 hh1 => ?_)
  · refine s_bipush hV dX11_about_147 (-2) (by decide) ?_
    refine r_iret hV dX11_about_149 rfl rfl ?_
    refine ⟨?_, rfl, rfl, rfl⟩
    unfold f_about
    first | (subst w1; rfl) | (rw [if_neg (by omega), if_neg (by omega), if_neg (by omega), if_neg (by omega), if_neg (by omega), if_neg (by omega), if_neg (by omega), if_neg (by omega), if_neg (by omega), if_neg (by omega)])
  · rcases (show w = 0 ∨ w = 1 ∨ w = 2 ∨ w = 3 ∨ w = 4 ∨ w = 5 ∨ w = 6 ∨ w = 7 ∨ w = 8 ∨ w = 9 by omega) with w1 | w1 | w1 | w1 | w1 | w1 | w1 | w1 | w1 | w1
    · rw [w1]
      refine ⟨55, 56, rfl, by decide, ?_⟩
      refine r_aload_n hV dX11_about_56 rfl rfl ?_
      refine r_getR hV dX11_about_57 fl_X11_79 (by first | decide | omega) (by first | rfl | assumption | exact h3.2.1 | (rcases hdd with ⟨rfl, rfl⟩ | ⟨rfl, rfl⟩ <;> rfl)) q10 ?_
      refine r_getI hV dX11_about_60 fl_X11_118 (by first | decide | omega) (by first | rfl | assumption | exact h3.2.1 | (rcases hdd with ⟨rfl, rfl⟩ | ⟨rfl, rfl⟩ <;> rfl)) (by first | assumption | rfl) ?_
      refine r_iret hV dX11_about_63 rfl rfl ?_
      refine ⟨?_, rfl, rfl, rfl⟩
      unfold f_about
      first | (subst w1; rfl) | (rw [if_neg (by omega), if_neg (by omega), if_neg (by omega), if_neg (by omega), if_neg (by omega), if_neg (by omega), if_neg (by omega), if_neg (by omega), if_neg (by omega), if_neg (by omega)])
    · rw [w1]
      refine ⟨63, 64, rfl, by decide, ?_⟩
      refine r_aload_n hV dX11_about_64 rfl rfl ?_
      refine r_getR hV dX11_about_65 fl_X11_79 (by first | decide | omega) (by first | rfl | assumption | exact h3.2.1 | (rcases hdd with ⟨rfl, rfl⟩ | ⟨rfl, rfl⟩ <;> rfl)) q10 ?_
      refine r_getI hV dX11_about_68 fl_X11_121 (by first | decide | omega) (by first | rfl | assumption | exact h3.2.1 | (rcases hdd with ⟨rfl, rfl⟩ | ⟨rfl, rfl⟩ <;> rfl)) (by first | assumption | rfl) ?_
      refine r_iret hV dX11_about_71 rfl rfl ?_
      refine ⟨?_, rfl, rfl, rfl⟩
      unfold f_about
      first | (subst w1; rfl) | (rw [if_neg (by omega), if_neg (by omega), if_neg (by omega), if_neg (by omega), if_neg (by omega), if_neg (by omega), if_neg (by omega), if_neg (by omega), if_neg (by omega), if_neg (by omega)])
    · rw [w1]
      refine ⟨71, 72, rfl, by decide, ?_⟩
      refine r_aload_n hV dX11_about_72 rfl rfl ?_
      refine r_getR hV dX11_about_73 fl_X11_79 (by first | decide | omega) (by first | rfl | assumption | exact h3.2.1 | (rcases hdd with ⟨rfl, rfl⟩ | ⟨rfl, rfl⟩ <;> rfl)) q10 ?_
      refine r_getI hV dX11_about_76 fl_X11_124 (by first | decide | omega) (by first | rfl | assumption | exact h3.2.1 | (rcases hdd with ⟨rfl, rfl⟩ | ⟨rfl, rfl⟩ <;> rfl)) (by first | assumption | rfl) ?_
      refine r_iret hV dX11_about_79 rfl rfl ?_
      refine ⟨?_, rfl, rfl, rfl⟩
      unfold f_about
      first | (subst w1; rfl) | (rw [if_neg (by omega), if_neg (by omega), if_neg (by omega), if_neg (by omega), if_neg (by omega), if_neg (by omega), if_neg (by omega), if_neg (by omega), if_neg (by omega), if_neg (by omega)])
    · rw [w1]
      refine ⟨79, 80, rfl, by decide, ?_⟩
      refine r_aload_n hV dX11_about_80 rfl rfl ?_
      refine r_getR hV dX11_about_81 fl_X11_19 (by first | decide | omega) (by first | rfl | assumption | exact h3.2.1 | (rcases hdd with ⟨rfl, rfl⟩ | ⟨rfl, rfl⟩ <;> rfl)) q1 ?_
      refine r_getI hV dX11_about_84 fl_X11_127 (by first | decide | omega) (by first | rfl | assumption | exact h3.2.1 | (rcases hdd with ⟨rfl, rfl⟩ | ⟨rfl, rfl⟩ <;> rfl)) (hS.1 2 (by omega) (by omega)) ?_
      refine r_iret hV dX11_about_87 rfl rfl ?_
      refine ⟨?_, rfl, rfl, rfl⟩
      unfold f_about
      first | (subst w1; rfl) | (rw [if_neg (by omega), if_neg (by omega), if_neg (by omega), if_neg (by omega), if_neg (by omega), if_neg (by omega), if_neg (by omega), if_neg (by omega), if_neg (by omega), if_neg (by omega)])
    · rw [w1]
      refine ⟨87, 88, rfl, by decide, ?_⟩
      refine r_aload_n hV dX11_about_88 rfl rfl ?_
      refine r_getR hV dX11_about_89 fl_X11_19 (by first | decide | omega) (by first | rfl | assumption | exact h3.2.1 | (rcases hdd with ⟨rfl, rfl⟩ | ⟨rfl, rfl⟩ <;> rfl)) q1 ?_
      refine r_getI hV dX11_about_92 fl_X11_130 (by first | decide | omega) (by first | rfl | assumption | exact h3.2.1 | (rcases hdd with ⟨rfl, rfl⟩ | ⟨rfl, rfl⟩ <;> rfl)) (hS.1 3 (by omega) (by omega)) ?_
      rw [g3]
      refine r_iret hV dX11_about_95 rfl rfl ?_
      refine ⟨?_, rfl, rfl, rfl⟩
      unfold f_about
      first | (subst w1; rfl) | (rw [if_neg (by omega), if_neg (by omega), if_neg (by omega), if_neg (by omega), if_neg (by omega), if_neg (by omega), if_neg (by omega), if_neg (by omega), if_neg (by omega), if_neg (by omega)])
    · rw [w1]
      refine ⟨95, 96, rfl, by decide, ?_⟩
      refine r_aload_n hV dX11_about_96 rfl rfl ?_
      refine r_getR hV dX11_about_97 fl_X11_79 (by first | decide | omega) (by first | rfl | assumption | exact h3.2.1 | (rcases hdd with ⟨rfl, rfl⟩ | ⟨rfl, rfl⟩ <;> rfl)) q10 ?_
      refine r_aload_n hV dX11_about_100 rfl rfl ?_
      refine r_getR hV dX11_about_101 fl_X11_19 (by first | decide | omega) (by first | rfl | assumption | exact h3.2.1 | (rcases hdd with ⟨rfl, rfl⟩ | ⟨rfl, rfl⟩ <;> rfl)) q1 ?_
      refine r_getI hV dX11_about_104 fl_X11_130 (by first | decide | omega) (by first | rfl | assumption | exact h3.2.1 | (rcases hdd with ⟨rfl, rfl⟩ | ⟨rfl, rfl⟩ <;> rfl)) (hS.1 3 (by omega) (by omega)) ?_
      rw [g3]
      refine q_iv1v hV dX11_about_107 mv_X11_133 (m_worthOfSet I J P d hD (e : Int) he (by omega) dn g4 U hU hUb) (by first | decide | omega) (by first | rfl | assumption | exact h3.2.1 | (rcases hdd with ⟨rfl, rfl⟩ | ⟨rfl, rfl⟩ <;> rfl)) (by decide) (Nat.le_refl _) (Nat.le_of_ble_eq_true rfl) ?_
      refine r_iret hV dX11_about_110 rfl rfl ?_
      refine ⟨?_, rfl, rfl, rfl⟩
      unfold f_about
      first | (subst w1; rfl) | (rw [if_neg (by omega), if_neg (by omega), if_neg (by omega), if_neg (by omega), if_neg (by omega), if_neg (by omega), if_neg (by omega), if_neg (by omega), if_neg (by omega), if_neg (by omega)])
    · rw [w1]
      refine ⟨110, 111, rfl, by decide, ?_⟩
      refine r_aload_n hV dX11_about_111 rfl rfl ?_
      refine r_getR hV dX11_about_112 fl_X11_26 (by first | decide | omega) (by first | rfl | assumption | exact h3.2.1 | (rcases hdd with ⟨rfl, rfl⟩ | ⟨rfl, rfl⟩ <;> rfl)) q2 ?_
      refine r_getI hV dX11_about_115 fl_X11_137 (by first | decide | omega) (by first | rfl | assumption | exact h3.2.1 | (rcases hdd with ⟨rfl, rfl⟩ | ⟨rfl, rfl⟩ <;> rfl)) (by first | assumption | rfl) ?_
      refine r_iret hV dX11_about_118 rfl rfl ?_
      refine ⟨?_, rfl, rfl, rfl⟩
      unfold f_about
      first | (subst w1; rfl) | (rw [if_neg (by omega), if_neg (by omega), if_neg (by omega), if_neg (by omega), if_neg (by omega), if_neg (by omega), if_neg (by omega), if_neg (by omega), if_neg (by omega), if_neg (by omega)])
    · rw [w1]
      refine ⟨118, 119, rfl, by decide, ?_⟩
      refine r_aload_n hV dX11_about_119 rfl rfl ?_
      refine r_getR hV dX11_about_120 fl_X11_19 (by first | decide | omega) (by first | rfl | assumption | exact h3.2.1 | (rcases hdd with ⟨rfl, rfl⟩ | ⟨rfl, rfl⟩ <;> rfl)) q1 ?_
      refine r_getI hV dX11_about_123 fl_X11_140 (by first | decide | omega) (by first | rfl | assumption | exact h3.2.1 | (rcases hdd with ⟨rfl, rfl⟩ | ⟨rfl, rfl⟩ <;> rfl)) (hS.1 5 (by omega) (by omega)) ?_
      refine r_iret hV dX11_about_126 rfl rfl ?_
      refine ⟨?_, rfl, rfl, rfl⟩
      unfold f_about
      first | (subst w1; rfl) | (rw [if_neg (by omega), if_neg (by omega), if_neg (by omega), if_neg (by omega), if_neg (by omega), if_neg (by omega), if_neg (by omega), if_neg (by omega), if_neg (by omega), if_neg (by omega)])
    · rw [w1]
      refine ⟨126, 127, rfl, by decide, ?_⟩
      refine r_aload_n hV dX11_about_127 rfl rfl ?_
      refine r_getR hV dX11_about_128 fl_X11_19 (by first | decide | omega) (by first | rfl | assumption | exact h3.2.1 | (rcases hdd with ⟨rfl, rfl⟩ | ⟨rfl, rfl⟩ <;> rfl)) q1 ?_
      refine q_iv0v hV dX11_about_131 mv_X11_143 (m_owedToThem I J P 3 h3 S hS (S 5) rfl g7 g8) (by first | decide | omega) (by first | rfl | assumption | exact h3.2.1 | (rcases hdd with ⟨rfl, rfl⟩ | ⟨rfl, rfl⟩ <;> rfl)) (by decide) (Nat.le_refl _) (Nat.le_of_ble_eq_true rfl) ?_
      refine s_sipush hV dX11_about_134 (10000) (by decide) ?_
      have hob := f_owe_b (n := (S 5).toNat) g8 (by omega)
      refine s_iadd hV dX11_about_137 ?_
      refine r_iret hV dX11_about_138 rfl rfl ?_
      refine ⟨?_, rfl, rfl, rfl⟩
      unfold f_about
      first | (subst w1; rfl) | (rw [if_neg (by omega), if_neg (by omega), if_neg (by omega), if_neg (by omega), if_neg (by omega), if_neg (by omega), if_neg (by omega), if_neg (by omega), if_neg (by omega), if_neg (by omega)])
    · rw [w1]
      refine ⟨138, 139, rfl, by decide, ?_⟩
      refine r_aload_n hV dX11_about_139 rfl rfl ?_
      refine r_getR hV dX11_about_140 fl_X11_10 (by first | decide | omega) (by first | rfl | assumption | exact h3.2.1 | (rcases hdd with ⟨rfl, rfl⟩ | ⟨rfl, rfl⟩ <;> rfl)) q0 ?_
      refine q_iv0v hV dX11_about_143 mv_X11_86 (m_size I J P tl htl htb) (by first | decide | omega) (by first | rfl | assumption | exact h3.2.1 | (rcases hdd with ⟨rfl, rfl⟩ | ⟨rfl, rfl⟩ <;> rfl)) (by decide) (Nat.le_refl _) (Nat.le_of_ble_eq_true rfl) ?_
      refine r_iret hV dX11_about_146 rfl rfl ?_
      refine ⟨?_, rfl, rfl, rfl⟩
      unfold f_about
      first | (subst w1; rfl) | (rw [if_neg (by omega), if_neg (by omega), if_neg (by omega), if_neg (by omega), if_neg (by omega), if_neg (by omega), if_neg (by omega), if_neg (by omega), if_neg (by omega), if_neg (by omega)])

set_option maxRecDepth 20000 in
theorem m_at (I : zI) (J : zJ) (P : zP) (d d1 : Nat) (hK : cK P) (q10 : P 0 10 = some d) (q11 : P 0 11 = some d1) (hdd : (d = 66 ∧ d1 = 72) ∨ (d = 72 ∧ d1 = 66)) (S : Int → Int) (hS : cSt I 3 S) (dn dh : Nat) (n : Nat) (hg : cG n S dn dh) (w : Int) (hw : z_rg w) : z_Fn 1 yX11_at cX11_at 2 (some .int) 108 108 I J P [.ref 0, .int (iI w)] (some (.int (iI (if 0 ≤ w ∧ w < 2 then if w = 0 then S 0 else S 1 else -1)))) (I) (J) (P) := by
  obtain ⟨q0, q1, q2, q3, q4, q5, q6, q7, q8, q9, p1, h3, hA, hL, hTr0, hTr1, hTr2, hPn, hGs, hD66, hD72⟩ := id hK
  have hD : zDay P d := by rcases hdd with ⟨rfl, rfl⟩ | ⟨rfl, rfl⟩ <;> assumption
  obtain ⟨hd, p4, p5, p6, p7, p8⟩ := id hD
  have hD1 : zDay P d1 := by rcases hdd with ⟨rfl, rfl⟩ | ⟨rfl, rfl⟩ <;> assumption
  have hw1 := hw.1
  have hw2 := hw.2
  refine z_met false (by decide +kernel) (fun h => by cases h) (Nat.le_of_ble_eq_true rfl) (by first | decide | omega) (fun V hV => ?_)
  show V 108 I J P 0 [.ref 0, .int (iI w)] []
  refine r_iload_n hV dX11_at_0 rfl ?_
  refine q_is1v hV dX11_at_1 ms_X11_146 (m_isWalker I J P w hw) (by decide) (Nat.le_refl _) (Nat.le_of_ble_eq_true rfl) ?_
  refine s_if_eq hV 18 dX11_at_4 (by decide) (by unfold z_rg; first | omega | (split <;> omega)) (fun c4 => ?_) (fun c4 => ?_)
  · refine s_iconst hV dX11_at_18 (-1) (by decide) ?_
    refine r_iret hV dX11_at_19 rfl rfl ?_
    refine ⟨?_, rfl, rfl, rfl⟩
    (repeat' split) <;> first | rfl | (exfalso; omega)
  · refine r_aload_n hV dX11_at_7 rfl rfl ?_
    refine r_getR hV dX11_at_8 fl_X11_19 (by first | decide | omega) (by first | rfl | assumption | exact h3.2.1 | (rcases hdd with ⟨rfl, rfl⟩ | ⟨rfl, rfl⟩ <;> rfl)) q1 ?_
    refine r_iload_n hV dX11_at_11 rfl ?_
    refine q_iv1v hV dX11_at_12 mv_X11_150 (m_placeOf I J P 3 h3 S hS w hw) (by first | decide | omega) (by first | rfl | assumption | exact h3.2.1 | (rcases hdd with ⟨rfl, rfl⟩ | ⟨rfl, rfl⟩ <;> rfl)) (by decide) (Nat.le_refl _) (Nat.le_of_ble_eq_true rfl) ?_
    refine r_goto hV 19 dX11_at_15 (by decide) ?_
    refine r_iret hV dX11_at_19 rfl rfl ?_
    refine ⟨?_, rfl, rfl, rfl⟩
    (repeat' split) <;> first | rfl | (exfalso; omega)

set_option maxRecDepth 20000 in
theorem m_far (I : zI) (J : zJ) (P : zP) (d d1 : Nat) (hK : cK P) (q10 : P 0 10 = some d) (q11 : P 0 11 = some d1) (hdd : (d = 66 ∧ d1 = 72) ∨ (d = 72 ∧ d1 = 66)) (n : Nat) (hn : I d 0 = iI (n : Int)) (hnb : 2 ≤ n ∧ n ≤ 6) (F : Int → Int) (hF : z_ar I (d + 2) 36 F) (hFb : z_bd F 36 0 1000000) (a : Int) (ha : z_rg a) (b : Int) (hb : z_rg b) : z_Fn 2 yX11_far cX11_far 3 (some .int) 108 108 I J P [.ref 0, .int (iI a), .int (iI b)] (some (.int (iI (if (0 ≤ a ∧ a < n) ∧ (0 ≤ b ∧ b < n) then if F (a * 6 + b) < 1000000 then F (a * 6 + b) else -9 else -1)))) (I) (J) (P) := by
  obtain ⟨q0, q1, q2, q3, q4, q5, q6, q7, q8, q9, p1, h3, hA, hL, hTr0, hTr1, hTr2, hPn, hGs, hD66, hD72⟩ := id hK
  have hD : zDay P d := by rcases hdd with ⟨rfl, rfl⟩ | ⟨rfl, rfl⟩ <;> assumption
  obtain ⟨hd, p4, p5, p6, p7, p8⟩ := id hD
  have hD1 : zDay P d1 := by rcases hdd with ⟨rfl, rfl⟩ | ⟨rfl, rfl⟩ <;> assumption
  have ha1 := ha.1
  have ha2 := ha.2
  have hb1 := hb.1
  have hb2 := hb.2
  refine z_met false (by decide +kernel) (fun h => by cases h) (Nat.le_of_ble_eq_true rfl) (by first | decide | omega) (fun V hV => ?_)
  show V 108 I J P 0 [.ref 0, .int (iI a), .int (iI b)] []
  refine r_aload_n hV dX11_far_0 rfl rfl ?_
  refine r_getR hV dX11_far_1 fl_X11_79 (by first | decide | omega) (by first | rfl | assumption | exact h3.2.1 | (rcases hdd with ⟨rfl, rfl⟩ | ⟨rfl, rfl⟩ <;> rfl)) q10 ?_
  refine r_iload_n hV dX11_far_4 rfl ?_
  refine q_iv1v hV dX11_far_5 mv_X11_153 (m_isPlace I J P d hD (n : Int) hn (by omega) (a) (by unfold z_rg; omega)) (by first | decide | omega) (by first | rfl | assumption | exact h3.2.1 | (rcases hdd with ⟨rfl, rfl⟩ | ⟨rfl, rfl⟩ <;> rfl)) (by decide) (Nat.le_refl _) (Nat.le_of_ble_eq_true rfl) ?_
  refine s_if_eq hV 22 dX11_far_8 (by decide) (by unfold z_rg; first | omega | (split <;> omega)) (fun c8 => ?_) (fun c8 => ?_)
  · refine s_iconst hV dX11_far_22 (-1) (by decide) ?_
    refine r_iret hV dX11_far_23 rfl rfl ?_
    refine ⟨?_, rfl, rfl, rfl⟩
    (repeat' split) <;> first | rfl | (exfalso; omega)
  · refine r_aload_n hV dX11_far_11 rfl rfl ?_
    refine r_getR hV dX11_far_12 fl_X11_79 (by first | decide | omega) (by first | rfl | assumption | exact h3.2.1 | (rcases hdd with ⟨rfl, rfl⟩ | ⟨rfl, rfl⟩ <;> rfl)) q10 ?_
    refine r_iload_n hV dX11_far_15 rfl ?_
    refine q_iv1v hV dX11_far_16 mv_X11_153 (m_isPlace I J P d hD (n : Int) hn (by omega) (b) (by unfold z_rg; omega)) (by first | decide | omega) (by first | rfl | assumption | exact h3.2.1 | (rcases hdd with ⟨rfl, rfl⟩ | ⟨rfl, rfl⟩ <;> rfl)) (by decide) (Nat.le_refl _) (Nat.le_of_ble_eq_true rfl) ?_
    refine s_if_ne hV 24 dX11_far_19 (by decide) (by unfold z_rg; first | omega | (split <;> omega)) (fun c19 => ?_) (fun c19 => ?_)
    · refine r_aload_n hV dX11_far_24 rfl rfl ?_
      refine r_getR hV dX11_far_25 fl_X11_79 (by first | decide | omega) (by first | rfl | assumption | exact h3.2.1 | (rcases hdd with ⟨rfl, rfl⟩ | ⟨rfl, rfl⟩ <;> rfl)) q10 ?_
      refine r_iload_n hV dX11_far_28 rfl ?_
      refine r_iload_n hV dX11_far_29 rfl ?_
      refine q_iv2v hV dX11_far_30 mv_X11_156 (m_between I J P d hD (n : Int) hn (by omega) (a) (by unfold z_rg; omega) (b) (by unfold z_rg; omega) F hF) (by first | decide | omega) (by first | rfl | assumption | exact h3.2.1 | (rcases hdd with ⟨rfl, rfl⟩ | ⟨rfl, rfl⟩ <;> rfl)) (by decide) (Nat.le_refl _) (Nat.le_of_ble_eq_true rfl) ?_
      rw [if_pos (by omega)]
      have hfb := hFb (a * 6 + b) (by omega) (by omega)
      refine q_is1v hV dX11_far_33 ms_X11_160 (m_toldSteps I J P (F (a * 6 + b)) (by unfold z_rg; omega)) (by decide) (Nat.le_refl _) (Nat.le_of_ble_eq_true rfl) ?_
      refine r_iret hV dX11_far_36 rfl rfl ?_
      refine ⟨?_, rfl, rfl, rfl⟩
      (repeat' split) <;> first | rfl | (exfalso; omega)
    · refine s_iconst hV dX11_far_22 (-1) (by decide) ?_
      refine r_iret hV dX11_far_23 rfl rfl ?_
      refine ⟨?_, rfl, rfl, rfl⟩
      (repeat' split) <;> first | rfl | (exfalso; omega)

set_option maxRecDepth 20000 in
theorem m_errand (I : zI) (J : zJ) (P : zP) (d d1 : Nat) (hK : cK P) (q10 : P 0 10 = some d) (q11 : P 0 11 = some d1) (hdd : (d = 66 ∧ d1 = 72) ∨ (d = 72 ∧ d1 = 66)) (n : Nat) (hn : I d 0 = iI (n : Int)) (hnb : 2 ≤ n ∧ n ≤ 6) (e : Nat) (he : I d 3 = iI (e : Int)) (he6 : e ≤ 6) (W : Int → Int) (hW : z_ar I (d + 3) 6 W) (hWb : z_bd W e 0 (n - 1)) (U : Int → Int) (hU : z_ar I (d + 4) 6 U) (hUb : z_bd U 6 0 9) (K : Int → Int) (hKk : z_ar I (d + 5) 6 K) (hKb : z_bd K 6 0 2) (S : Int → Int) (hS : cSt I 3 S) (dn dh : Nat) (hg : cG n S dn dh) (a : Int) (ha : z_rg a) (w : Int) (hw : z_rg w) : z_Fn 2 yX11_errand cX11_errand 3 (some .int) 108 108 I J P [.ref 0, .int (iI a), .int (iI w)] (some (.int (iI (f_errand e W U K dn dh a w)))) (I) (J) (P) := by
  obtain ⟨q0, q1, q2, q3, q4, q5, q6, q7, q8, q9, p1, h3, hA, hL, hTr0, hTr1, hTr2, hPn, hGs, hD66, hD72⟩ := id hK
  have hD : zDay P d := by rcases hdd with ⟨rfl, rfl⟩ | ⟨rfl, rfl⟩ <;> assumption
  obtain ⟨hd, p4, p5, p6, p7, p8⟩ := id hD
  have hD1 : zDay P d1 := by rcases hdd with ⟨rfl, rfl⟩ | ⟨rfl, rfl⟩ <;> assumption
  obtain ⟨g0, g1, g2, g3, g4, g5, g6, g7, g8⟩ := id hg
  have ha1 := ha.1
  have ha2 := ha.2
  have hw1 := hw.1
  have hw2 := hw.2
  refine z_met false (by decide +kernel) (fun h => by cases h) (Nat.le_of_ble_eq_true rfl) (by first | decide | omega) (fun V hV => ?_)
  show V 108 I J P 0 [.ref 0, .int (iI a), .int (iI w)] []
  refine r_aload_n hV dX11_errand_0 rfl rfl ?_
  refine r_getR hV dX11_errand_1 fl_X11_79 (by first | decide | omega) (by first | rfl | assumption | exact h3.2.1 | (rcases hdd with ⟨rfl, rfl⟩ | ⟨rfl, rfl⟩ <;> rfl)) q10 ?_
  refine r_iload_n hV dX11_errand_4 rfl ?_
  refine q_iv1v hV dX11_errand_5 mv_X11_163 (m_isErrand I J P d hD (e : Int) he (by omega) (a) (by unfold z_rg; omega)) (by first | decide | omega) (by first | rfl | assumption | exact h3.2.1 | (rcases hdd with ⟨rfl, rfl⟩ | ⟨rfl, rfl⟩ <;> rfl)) (by decide) (Nat.le_refl _) (Nat.le_of_ble_eq_true rfl) ?_
  refine s_if_ne hV 13 dX11_errand_8 (by decide) (by unfold z_rg; first | omega | (split <;> omega)) (fun c8 => ?_) (fun c8 => ?_)
  · refine r_iload_n hV dX11_errand_13 rfl ?_
    refine s_tsw hV dX11_errand_14 (by unfold z_rg; first | omega | (split <;> omega)) (fun ho14 => ⟨117, by decide, ?_⟩) (fun hl14 hh14 => ?_)
    · refine s_bipush hV dX11_errand_117 (-2) (by decide) ?_
      refine r_iret hV dX11_errand_119 rfl rfl ?_
      refine ⟨?_, rfl, rfl, rfl⟩
      unfold f_errand
      (repeat' split) <;> first | rfl | contradiction | (exfalso; omega)
    · rcases (show w = 0 ∨ w = 1 ∨ w = 2 ∨ w = 3 ∨ w = 4 by omega) with w14 | w14 | w14 | w14 | w14
      · rw [w14]
        refine ⟨34, 48, rfl, by decide, ?_⟩
        refine r_aload_n hV dX11_errand_48 rfl rfl ?_
        refine r_getR hV dX11_errand_49 fl_X11_79 (by first | decide | omega) (by first | rfl | assumption | exact h3.2.1 | (rcases hdd with ⟨rfl, rfl⟩ | ⟨rfl, rfl⟩ <;> rfl)) q10 ?_
        refine r_iload_n hV dX11_errand_52 rfl ?_
        refine q_iv1v hV dX11_errand_53 mv_X11_166 (m_siteOf I J P d hD (e : Int) he (by omega) a ha W hW) (by first | decide | omega) (by first | rfl | assumption | exact h3.2.1 | (rcases hdd with ⟨rfl, rfl⟩ | ⟨rfl, rfl⟩ <;> rfl)) (by decide) (Nat.le_refl _) (Nat.le_of_ble_eq_true rfl) ?_
        refine r_iret hV dX11_errand_56 rfl rfl ?_
        refine ⟨?_, rfl, rfl, rfl⟩
        unfold f_errand
        (repeat' split) <;> first | rfl | contradiction | (exfalso; omega)
      · rw [w14]
        refine ⟨43, 57, rfl, by decide, ?_⟩
        refine r_aload_n hV dX11_errand_57 rfl rfl ?_
        refine r_getR hV dX11_errand_58 fl_X11_79 (by first | decide | omega) (by first | rfl | assumption | exact h3.2.1 | (rcases hdd with ⟨rfl, rfl⟩ | ⟨rfl, rfl⟩ <;> rfl)) q10 ?_
        refine r_iload_n hV dX11_errand_61 rfl ?_
        refine q_iv1v hV dX11_errand_62 mv_X11_169 (m_worthOf I J P d hD (e : Int) he (by omega) a ha U hU) (by first | decide | omega) (by first | rfl | assumption | exact h3.2.1 | (rcases hdd with ⟨rfl, rfl⟩ | ⟨rfl, rfl⟩ <;> rfl)) (by decide) (Nat.le_refl _) (Nat.le_of_ble_eq_true rfl) ?_
        refine r_iret hV dX11_errand_65 rfl rfl ?_
        refine ⟨?_, rfl, rfl, rfl⟩
        unfold f_errand
        (repeat' split) <;> first | rfl | contradiction | (exfalso; omega)
      · rw [w14]
        refine ⟨52, 66, rfl, by decide, ?_⟩
        refine r_aload_n hV dX11_errand_66 rfl rfl ?_
        refine r_getR hV dX11_errand_67 fl_X11_79 (by first | decide | omega) (by first | rfl | assumption | exact h3.2.1 | (rcases hdd with ⟨rfl, rfl⟩ | ⟨rfl, rfl⟩ <;> rfl)) q10 ?_
        refine r_iload_n hV dX11_errand_70 rfl ?_
        refine q_iv1v hV dX11_errand_71 mv_X11_172 (m_doerOf I J P d hD (e : Int) he (by omega) a ha K hKk) (by first | decide | omega) (by first | rfl | assumption | exact h3.2.1 | (rcases hdd with ⟨rfl, rfl⟩ | ⟨rfl, rfl⟩ <;> rfl)) (by decide) (Nat.le_refl _) (Nat.le_of_ble_eq_true rfl) ?_
        refine r_iret hV dX11_errand_74 rfl rfl ?_
        refine ⟨?_, rfl, rfl, rfl⟩
        unfold f_errand
        (repeat' split) <;> first | rfl | contradiction | (exfalso; omega)
      · rw [w14]
        refine ⟨61, 75, rfl, by decide, ?_⟩
        refine r_aload_n hV dX11_errand_75 rfl rfl ?_
        refine r_getR hV dX11_errand_76 fl_X11_19 (by first | decide | omega) (by first | rfl | assumption | exact h3.2.1 | (rcases hdd with ⟨rfl, rfl⟩ | ⟨rfl, rfl⟩ <;> rfl)) q1 ?_
        refine r_iload_n hV dX11_errand_79 rfl ?_
        rw [show iI a = iI ((a.toNat : Nat) : Int) by rw [Int.toNat_of_nonneg (by omega)]]
        refine q_iv1v hV dX11_errand_80 mv_X11_175 (m_isDone I J P 3 h3 S hS dn (by assumption) (by assumption) a.toNat (by omega)) (by first | decide | omega) (by first | rfl | assumption | exact h3.2.1 | (rcases hdd with ⟨rfl, rfl⟩ | ⟨rfl, rfl⟩ <;> rfl)) (by decide) (Nat.le_refl _) (Nat.le_of_ble_eq_true rfl) ?_
        refine s_if_eq hV 90 dX11_errand_83 (by decide) (by unfold z_rg; first | omega | (split <;> omega)) (fun c83 => ?_) (fun c83 => ?_)
        · have hb := z_ite0 c83
          refine s_iconst hV dX11_errand_90 (0) (by decide) ?_
          refine r_iret hV dX11_errand_91 rfl rfl ?_
          refine ⟨?_, rfl, rfl, rfl⟩
          unfold f_errand
          (repeat' split) <;> first | rfl | contradiction | (exfalso; omega)
        · have hb := z_ite1 c83
          refine s_iconst hV dX11_errand_86 (1) (by decide) ?_
          refine r_goto hV 91 dX11_errand_87 (by decide) ?_
          refine r_iret hV dX11_errand_91 rfl rfl ?_
          refine ⟨?_, rfl, rfl, rfl⟩
          unfold f_errand
          (repeat' split) <;> first | rfl | contradiction | (exfalso; omega)
      · rw [w14]
        refine ⟨78, 92, rfl, by decide, ?_⟩
        refine r_aload_n hV dX11_errand_92 rfl rfl ?_
        refine r_getR hV dX11_errand_93 fl_X11_19 (by first | decide | omega) (by first | rfl | assumption | exact h3.2.1 | (rcases hdd with ⟨rfl, rfl⟩ | ⟨rfl, rfl⟩ <;> rfl)) q1 ?_
        refine r_iload_n hV dX11_errand_96 rfl ?_
        rw [show iI a = iI ((a.toNat : Nat) : Int) by rw [Int.toNat_of_nonneg (by omega)]]
        refine q_iv1v hV dX11_errand_97 mv_X11_175 (m_isDone I J P 3 h3 S hS dn (by assumption) (by assumption) a.toNat (by omega)) (by first | decide | omega) (by first | rfl | assumption | exact h3.2.1 | (rcases hdd with ⟨rfl, rfl⟩ | ⟨rfl, rfl⟩ <;> rfl)) (by decide) (Nat.le_refl _) (Nat.le_of_ble_eq_true rfl) ?_
        refine s_if_eq hV 114 dX11_errand_100 (by decide) (by unfold z_rg; first | omega | (split <;> omega)) (fun c100 => ?_) (fun c100 => ?_)
        · have hb := z_ite0 c100
          refine s_bipush hV dX11_errand_114 (-9) (by decide) ?_
          refine r_iret hV dX11_errand_116 rfl rfl ?_
          refine ⟨?_, rfl, rfl, rfl⟩
          unfold f_errand
          (repeat' split) <;> first | rfl | contradiction | (exfalso; omega)
        · have hb := z_ite1 c100
          refine r_aload_n hV dX11_errand_103 rfl rfl ?_
          refine r_getR hV dX11_errand_104 fl_X11_19 (by first | decide | omega) (by first | rfl | assumption | exact h3.2.1 | (rcases hdd with ⟨rfl, rfl⟩ | ⟨rfl, rfl⟩ <;> rfl)) q1 ?_
          refine r_iload_n hV dX11_errand_107 rfl ?_
          refine q_iv1v hV dX11_errand_108 mv_X11_178 (m_whoDid I J P 3 h3 S hS dh (by assumption) (by assumption) a.toNat (by omega)) (by first | decide | omega) (by first | rfl | assumption | exact h3.2.1 | (rcases hdd with ⟨rfl, rfl⟩ | ⟨rfl, rfl⟩ <;> rfl)) (by decide) (Nat.le_refl _) (Nat.le_of_ble_eq_true rfl) ?_
          refine r_goto hV 116 dX11_errand_111 (by decide) ?_
          refine r_iret hV dX11_errand_116 rfl rfl ?_
          refine ⟨?_, rfl, rfl, rfl⟩
          unfold f_errand
          (repeat' split) <;> first | rfl | contradiction | (exfalso; omega)
  · refine s_iconst hV dX11_errand_11 (-1) (by decide) ?_
    refine r_iret hV dX11_errand_12 rfl rfl ?_
    refine ⟨?_, rfl, rfl, rfl⟩
    unfold f_errand
    (repeat' split) <;> first | rfl | contradiction | (exfalso; omega)

