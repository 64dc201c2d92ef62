/-- the Day's cells: two there are -/
def zDay (P : zP) (d : Nat) : Prop := (d = 66 ∨ d = 72) ∧ P d 4 = some (d + 1) ∧ P d 5 = some (d + 2) ∧ P d 6 = some (d + 3) ∧ P d 7 = some (d + 4) ∧ P d 8 = some (d + 5)
theorem zDay_s {P : zP} {d : Nat} (h : zDay P d) : d < 78 ∧ zSH d = .inl 1 ∧ zSH (d + 1) = .inr (.int, 36) ∧ zSH (d + 2) = .inr (.int, 36) ∧ zSH (d + 3) = .inr (.int, 6) ∧ zSH (d + 4) = .inr (.int, 6) ∧ zSH (d + 5) = .inr (.int, 6) := by
  rcases h.1 with rfl | rfl <;> exact ⟨by decide, rfl, rfl, rfl, rfl, rfl, rfl⟩
set_option maxRecDepth 20000 in
theorem m_isPlace (I : zI) (J : zJ) (P : zP) (d : Nat) (hD : zDay P d) (n : Int) (hn : I d 0 = iI n) (hnb : 0 ≤ n ∧ n ≤ 6) (a : Int) (ha : z_rg a) : z_Fn 0 yX1_isPlace cX1_isPlace 2 (some .boolean) 108 108 I J P [.ref d, .int (iI a)] (some (.int (iI (if 0 ≤ a ∧ a < n then 1 else 0)))) (I) (J) (P) := by
  obtain ⟨hd, p4, p5, p6, p7, p8⟩ := id hD
  obtain ⟨hlt, s0, s1, s2, s3, s4, s5⟩ := zDay_s hD
  have ha1 := ha.1
  have ha2 := ha.2
  refine z_met false (by decide +kernel) (fun h => by cases h) (Nat.le_of_ble_eq_true rfl) (by first | decide | omega) (fun V hV => ?_)
  show V 108 I J P 0 [.ref d, .int (iI a)] []
  refine r_iload_n hV dX1_isPlace_0 rfl ?_
  refine s_if_lt hV 16 dX1_isPlace_1 (by decide) (by unfold z_rg; omega) (fun c1 => ?_) (fun c1 => ?_)
  · refine s_iconst hV dX1_isPlace_16 (0) (by decide) ?_
    refine s_zret hV dX1_isPlace_17 rfl (by omega) rfl ?_
    refine ⟨?_, rfl, rfl, rfl⟩
    first | rw [if_pos (by omega)] | rw [if_neg (by omega)]
  · refine r_iload_n hV dX1_isPlace_4 rfl ?_
    refine r_aload_n hV dX1_isPlace_5 rfl rfl ?_
    refine r_getI hV dX1_isPlace_6 fl_X1_43 (by first | decide | omega) (by first | rfl | assumption) (by first | assumption | rfl) ?_
    refine s_icmp_ge hV 16 dX1_isPlace_9 (by decide) (by unfold z_rg; omega) (by unfold z_rg; omega) (fun c9 => ?_) (fun c9 => ?_)
    · refine s_iconst hV dX1_isPlace_16 (0) (by decide) ?_
      refine s_zret hV dX1_isPlace_17 rfl (by omega) rfl ?_
      refine ⟨?_, rfl, rfl, rfl⟩
      first | rw [if_pos (by omega)] | rw [if_neg (by omega)]
    · refine s_iconst hV dX1_isPlace_12 (1) (by decide) ?_
      refine r_goto hV 17 dX1_isPlace_13 (by decide) ?_
      refine s_zret hV dX1_isPlace_17 rfl (by omega) rfl ?_
      refine ⟨?_, rfl, rfl, rfl⟩
      first | rw [if_pos (by omega)] | rw [if_neg (by omega)]

set_option maxRecDepth 20000 in
theorem m_isErrand (I : zI) (J : zJ) (P : zP) (d : Nat) (hD : zDay P d) (e : Int) (he : I d 3 = iI e) (heb : 0 ≤ e ∧ e ≤ 6) (a : Int) (ha : z_rg a) : z_Fn 0 yX1_isErrand cX1_isErrand 2 (some .boolean) 108 108 I J P [.ref d, .int (iI a)] (some (.int (iI (if 0 ≤ a ∧ a < e then 1 else 0)))) (I) (J) (P) := by
  obtain ⟨hd, p4, p5, p6, p7, p8⟩ := id hD
  obtain ⟨hlt, s0, s1, s2, s3, s4, s5⟩ := zDay_s hD
  have ha1 := ha.1
  have ha2 := ha.2
  refine z_met false (by decide +kernel) (fun h => by cases h) (Nat.le_of_ble_eq_true rfl) (by first | decide | omega) (fun V hV => ?_)
  show V 108 I J P 0 [.ref d, .int (iI a)] []
  refine r_iload_n hV dX1_isErrand_0 rfl ?_
  refine s_if_lt hV 16 dX1_isErrand_1 (by decide) (by unfold z_rg; omega) (fun c1 => ?_) (fun c1 => ?_)
  · refine s_iconst hV dX1_isErrand_16 (0) (by decide) ?_
    refine s_zret hV dX1_isErrand_17 rfl (by omega) rfl ?_
    refine ⟨?_, rfl, rfl, rfl⟩
    first | rw [if_pos (by omega)] | rw [if_neg (by omega)]
  · refine r_iload_n hV dX1_isErrand_4 rfl ?_
    refine r_aload_n hV dX1_isErrand_5 rfl rfl ?_
    refine r_getI hV dX1_isErrand_6 fl_X1_53 (by first | decide | omega) (by first | rfl | assumption) (by first | assumption | rfl) ?_
    refine s_icmp_ge hV 16 dX1_isErrand_9 (by decide) (by unfold z_rg; omega) (by unfold z_rg; omega) (fun c9 => ?_) (fun c9 => ?_)
    · refine s_iconst hV dX1_isErrand_16 (0) (by decide) ?_
      refine s_zret hV dX1_isErrand_17 rfl (by omega) rfl ?_
      refine ⟨?_, rfl, rfl, rfl⟩
      first | rw [if_pos (by omega)] | rw [if_neg (by omega)]
    · refine s_iconst hV dX1_isErrand_12 (1) (by decide) ?_
      refine r_goto hV 17 dX1_isErrand_13 (by decide) ?_
      refine s_zret hV dX1_isErrand_17 rfl (by omega) rfl ?_
      refine ⟨?_, rfl, rfl, rfl⟩
      first | rw [if_pos (by omega)] | rw [if_neg (by omega)]

set_option maxRecDepth 20000 in
theorem m_between (I : zI) (J : zJ) (P : zP) (d : Nat) (hD : zDay P d) (n : Int) (hn : I d 0 = iI n) (hnb : 0 ≤ n ∧ n ≤ 6) (a : Int) (ha : z_rg a) (b : Int) (hb : z_rg b) (D : Int → Int) (hL : z_ar I (d + 2) 36 D) : z_Fn 1 yX1_between cX1_between 3 (some .int) 108 108 I J P [.ref d, .int (iI a), .int (iI b)] (some (.int (iI (if (0 ≤ a ∧ a < n) ∧ (0 ≤ b ∧ b < n) then D (a * 6 + b) else 1000000)))) (I) (J) (P) := by
  obtain ⟨hd, p4, p5, p6, p7, p8⟩ := id hD
  obtain ⟨hlt, s0, s1, s2, s3, s4, s5⟩ := zDay_s hD
  have ha1 := ha.1
  have ha2 := ha.2
  have hb1 := hb.1
  have hb2 := hb.2
  refine z_met false (by decide +kernel) (fun h => by cases h) (Nat.le_of_ble_eq_true rfl) (by first | decide | omega) (fun V hV => ?_)
  show V 108 I J P 0 [.ref d, .int (iI a), .int (iI b)] []
  refine r_aload_n hV dX1_between_0 rfl rfl ?_
  refine r_iload_n hV dX1_between_1 rfl ?_
  refine q_iv1v hV dX1_between_2 mv_X1_56 (m_isPlace I J P d hD n hn hnb (a) (by unfold z_rg; omega)) (by first | decide | omega) (by first | rfl | assumption) (by decide) (Nat.le_refl _) (Nat.le_of_ble_eq_true rfl) ?_
  refine s_if_eq hV 30 dX1_between_5 (by decide) (by unfold z_rg; omega) (fun c5 => ?_) (fun c5 => ?_)
  · refine s_ldc hV dX1_between_30 ct_X1_68 (1000000) (by decide) ?_
    refine r_iret hV dX1_between_32 rfl rfl ?_
    refine ⟨?_, rfl, rfl, rfl⟩
    first | rw [if_pos (by omega)] | rw [if_neg (by omega)]
  · refine r_aload_n hV dX1_between_8 rfl rfl ?_
    refine r_iload_n hV dX1_between_9 rfl ?_
    refine q_iv1v hV dX1_between_10 mv_X1_56 (m_isPlace I J P d hD n hn hnb (b) (by unfold z_rg; omega)) (by first | decide | omega) (by first | rfl | assumption) (by decide) (Nat.le_refl _) (Nat.le_of_ble_eq_true rfl) ?_
    refine s_if_eq hV 30 dX1_between_13 (by decide) (by unfold z_rg; omega) (fun c13 => ?_) (fun c13 => ?_)
    · refine s_ldc hV dX1_between_30 ct_X1_68 (1000000) (by decide) ?_
      refine r_iret hV dX1_between_32 rfl rfl ?_
      refine ⟨?_, rfl, rfl, rfl⟩
      first | rw [if_pos (by omega)] | rw [if_neg (by omega)]
    · refine r_aload_n hV dX1_between_16 rfl rfl ?_
      refine r_getR hV dX1_between_17 fl_X1_15 (by first | decide | omega) (by first | rfl | assumption) (by first | assumption | rfl) ?_
      refine r_iload_n hV dX1_between_20 rfl ?_
      refine s_bipush hV dX1_between_21 (6) (by decide) ?_
      refine s_imul hV dX1_between_23 ?_
      refine r_iload_n hV dX1_between_24 rfl ?_
      refine s_iadd hV dX1_between_25 ?_
      refine s_iaload hV dX1_between_26 (by first | decide | omega) (by first | rfl | assumption) (by decide) (by omega) (by omega) (hL _ (by omega) (by omega)) ?_
      refine r_goto hV 32 dX1_between_27 (by decide) ?_
      refine r_iret hV dX1_between_32 rfl rfl ?_
      refine ⟨?_, rfl, rfl, rfl⟩
      first | rw [if_pos (by omega)] | rw [if_neg (by omega)]

set_option maxRecDepth 20000 in
theorem m_siteOf (I : zI) (J : zJ) (P : zP) (d : Nat) (hD : zDay P d) (e : Int) (he : I d 3 = iI e) (heb : 0 ≤ e ∧ e ≤ 6) (a : Int) (ha : z_rg a) (W : Int → Int) (hW : z_ar I (d + 3) 6 W) : z_Fn 1 yX1_siteOf cX1_siteOf 2 (some .int) 108 108 I J P [.ref d, .int (iI a)] (some (.int (iI (if 0 ≤ a ∧ a < e then W a else 0)))) (I) (J) (P) := by
  obtain ⟨hd, p4, p5, p6, p7, p8⟩ := id hD
  obtain ⟨hlt, s0, s1, s2, s3, s4, s5⟩ := zDay_s hD
  have ha1 := ha.1
  have ha2 := ha.2
  refine z_met false (by decide +kernel) (fun h => by cases h) (Nat.le_of_ble_eq_true rfl) (by first | decide | omega) (fun V hV => ?_)
  show V 108 I J P 0 [.ref d, .int (iI a)] []
  refine r_aload_n hV dX1_siteOf_0 rfl rfl ?_
  refine r_iload_n hV dX1_siteOf_1 rfl ?_
  refine q_iv1v hV dX1_siteOf_2 mv_X1_72 (m_isErrand I J P d hD e he heb (a) (by unfold z_rg; omega)) (by first | decide | omega) (by first | rfl | assumption) (by decide) (Nat.le_refl _) (Nat.le_of_ble_eq_true rfl) ?_
  refine s_if_eq hV 17 dX1_siteOf_5 (by decide) (by unfold z_rg; omega) (fun c5 => ?_) (fun c5 => ?_)
  · refine s_iconst hV dX1_siteOf_17 (0) (by decide) ?_
    refine r_iret hV dX1_siteOf_18 rfl rfl ?_
    refine ⟨?_, rfl, rfl, rfl⟩
    first | rw [if_pos (by omega)] | rw [if_neg (by omega)]
  · refine r_aload_n hV dX1_siteOf_8 rfl rfl ?_
    refine r_getR hV dX1_siteOf_9 fl_X1_18 (by first | decide | omega) (by first | rfl | assumption) (by first | assumption | rfl) ?_
    refine r_iload_n hV dX1_siteOf_12 rfl ?_
    refine s_iaload hV dX1_siteOf_13 (by first | decide | omega) (by first | rfl | assumption) (by decide) (by omega) (by omega) (hW _ (by omega) (by omega)) ?_
    refine r_goto hV 18 dX1_siteOf_14 (by decide) ?_
    refine r_iret hV dX1_siteOf_18 rfl rfl ?_
    refine ⟨?_, rfl, rfl, rfl⟩
    first | rw [if_pos (by omega)] | rw [if_neg (by omega)]

set_option maxRecDepth 20000 in
theorem m_worthOf (I : zI) (J : zJ) (P : zP) (d : Nat) (hD : zDay P d) (e : Int) (he : I d 3 = iI e) (heb : 0 ≤ e ∧ e ≤ 6) (a : Int) (ha : z_rg a) (W : Int → Int) (hW : z_ar I (d + 4) 6 W) : z_Fn 1 yX1_worthOf cX1_worthOf 2 (some .int) 108 108 I J P [.ref d, .int (iI a)] (some (.int (iI (if 0 ≤ a ∧ a < e then W a else 0)))) (I) (J) (P) := by
  obtain ⟨hd, p4, p5, p6, p7, p8⟩ := id hD
  obtain ⟨hlt, s0, s1, s2, s3, s4, s5⟩ := zDay_s hD
  have ha1 := ha.1
  have ha2 := ha.2
  refine z_met false (by decide +kernel) (fun h => by cases h) (Nat.le_of_ble_eq_true rfl) (by first | decide | omega) (fun V hV => ?_)
  show V 108 I J P 0 [.ref d, .int (iI a)] []
  refine r_aload_n hV dX1_worthOf_0 rfl rfl ?_
  refine r_iload_n hV dX1_worthOf_1 rfl ?_
  refine q_iv1v hV dX1_worthOf_2 mv_X1_72 (m_isErrand I J P d hD e he heb (a) (by unfold z_rg; omega)) (by first | decide | omega) (by first | rfl | assumption) (by decide) (Nat.le_refl _) (Nat.le_of_ble_eq_true rfl) ?_
  refine s_if_eq hV 17 dX1_worthOf_5 (by decide) (by unfold z_rg; omega) (fun c5 => ?_) (fun c5 => ?_)
  · refine s_iconst hV dX1_worthOf_17 (0) (by decide) ?_
    refine r_iret hV dX1_worthOf_18 rfl rfl ?_
    refine ⟨?_, rfl, rfl, rfl⟩
    first | rw [if_pos (by omega)] | rw [if_neg (by omega)]
  · refine r_aload_n hV dX1_worthOf_8 rfl rfl ?_
    refine r_getR hV dX1_worthOf_9 fl_X1_21 (by first | decide | omega) (by first | rfl | assumption) (by first | assumption | rfl) ?_
    refine r_iload_n hV dX1_worthOf_12 rfl ?_
    refine s_iaload hV dX1_worthOf_13 (by first | decide | omega) (by first | rfl | assumption) (by decide) (by omega) (by omega) (hW _ (by omega) (by omega)) ?_
    refine r_goto hV 18 dX1_worthOf_14 (by decide) ?_
    refine r_iret hV dX1_worthOf_18 rfl rfl ?_
    refine ⟨?_, rfl, rfl, rfl⟩
    first | rw [if_pos (by omega)] | rw [if_neg (by omega)]

set_option maxRecDepth 20000 in
theorem m_doerOf (I : zI) (J : zJ) (P : zP) (d : Nat) (hD : zDay P d) (e : Int) (he : I d 3 = iI e) (heb : 0 ≤ e ∧ e ≤ 6) (a : Int) (ha : z_rg a) (W : Int → Int) (hW : z_ar I (d + 5) 6 W) : z_Fn 1 yX1_doerOf cX1_doerOf 2 (some .int) 108 108 I J P [.ref d, .int (iI a)] (some (.int (iI (if 0 ≤ a ∧ a < e then W a else 2)))) (I) (J) (P) := by
  obtain ⟨hd, p4, p5, p6, p7, p8⟩ := id hD
  obtain ⟨hlt, s0, s1, s2, s3, s4, s5⟩ := zDay_s hD
  have ha1 := ha.1
  have ha2 := ha.2
  refine z_met false (by decide +kernel) (fun h => by cases h) (Nat.le_of_ble_eq_true rfl) (by first | decide | omega) (fun V hV => ?_)
  show V 108 I J P 0 [.ref d, .int (iI a)] []
  refine r_aload_n hV dX1_doerOf_0 rfl rfl ?_
  refine r_iload_n hV dX1_doerOf_1 rfl ?_
  refine q_iv1v hV dX1_doerOf_2 mv_X1_72 (m_isErrand I J P d hD e he heb (a) (by unfold z_rg; omega)) (by first | decide | omega) (by first | rfl | assumption) (by decide) (Nat.le_refl _) (Nat.le_of_ble_eq_true rfl) ?_
  refine s_if_eq hV 17 dX1_doerOf_5 (by decide) (by unfold z_rg; omega) (fun c5 => ?_) (fun c5 => ?_)
  · refine s_iconst hV dX1_doerOf_17 (2) (by decide) ?_
    refine r_iret hV dX1_doerOf_18 rfl rfl ?_
    refine ⟨?_, rfl, rfl, rfl⟩
    first | rw [if_pos (by omega)] | rw [if_neg (by omega)]
  · refine r_aload_n hV dX1_doerOf_8 rfl rfl ?_
    refine r_getR hV dX1_doerOf_9 fl_X1_24 (by first | decide | omega) (by first | rfl | assumption) (by first | assumption | rfl) ?_
    refine r_iload_n hV dX1_doerOf_12 rfl ?_
    refine s_iaload hV dX1_doerOf_13 (by first | decide | omega) (by first | rfl | assumption) (by decide) (by omega) (by omega) (hW _ (by omega) (by omega)) ?_
    refine r_goto hV 18 dX1_doerOf_14 (by decide) ?_
    refine r_iret hV dX1_doerOf_18 rfl rfl ?_
    refine ⟨?_, rfl, rfl, rfl⟩
    first | rw [if_pos (by omega)] | rw [if_neg (by omega)]

set_option maxRecDepth 20000 in
theorem m_isFreePair (I : zI) (J : zJ) (P : zP) (d : Nat) (hD : zDay P d) (n : Int) (hn : I d 0 = iI n) (hnb : 0 ≤ n ∧ n ≤ 6) (a : Int) (ha : z_rg a) (b : Int) (hb : z_rg b) (R : Int → Int) (hR : z_ar I (d + 1) 36 R) (hRb : z_bd R 36 0 99) : z_Fn 1 yX1_isFreePair cX1_isFreePair 3 (some .boolean) 108 108 I J P [.ref d, .int (iI a), .int (iI b)] (some (.int (iI (if ((0 ≤ a ∧ a < n) ∧ (0 ≤ b ∧ b < n)) ∧ ¬ a = b ∧ R (a * 6 + b) = 0 then 1 else 0)))) (I) (J) (P) := by
  obtain ⟨hd, p4, p5, p6, p7, p8⟩ := id hD
  obtain ⟨hlt, s0, s1, s2, s3, s4, s5⟩ := zDay_s hD
  have ha1 := ha.1
  have ha2 := ha.2
  have hb1 := hb.1
  have hb2 := hb.2
  refine z_met false (by decide +kernel) (fun h => by cases h) (Nat.le_of_ble_eq_true rfl) (by first | decide | omega) (fun V hV => ?_)
  show V 108 I J P 0 [.ref d, .int (iI a), .int (iI b)] []
  refine r_aload_n hV dX1_isFreePair_0 rfl rfl ?_
  refine r_iload_n hV dX1_isFreePair_1 rfl ?_
  refine q_iv1v hV dX1_isFreePair_2 mv_X1_56 (m_isPlace I J P d hD n hn hnb (a) (by unfold z_rg; omega)) (by first | decide | omega) (by first | rfl | assumption) (by decide) (Nat.le_refl _) (Nat.le_of_ble_eq_true rfl) ?_
  refine s_if_eq hV 39 dX1_isFreePair_5 (by decide) (by unfold z_rg; omega) (fun c5 => ?_) (fun c5 => ?_)
  · refine s_iconst hV dX1_isFreePair_39 (0) (by decide) ?_
    refine s_zret hV dX1_isFreePair_40 rfl (by omega) rfl ?_
    refine ⟨?_, rfl, rfl, rfl⟩
    first | rw [if_pos (by omega)] | rw [if_neg (by omega)]
  · refine r_aload_n hV dX1_isFreePair_8 rfl rfl ?_
    refine r_iload_n hV dX1_isFreePair_9 rfl ?_
    refine q_iv1v hV dX1_isFreePair_10 mv_X1_56 (m_isPlace I J P d hD n hn hnb (b) (by unfold z_rg; omega)) (by first | decide | omega) (by first | rfl | assumption) (by decide) (Nat.le_refl _) (Nat.le_of_ble_eq_true rfl) ?_
    refine s_if_eq hV 39 dX1_isFreePair_13 (by decide) (by unfold z_rg; omega) (fun c13 => ?_) (fun c13 => ?_)
    · refine s_iconst hV dX1_isFreePair_39 (0) (by decide) ?_
      refine s_zret hV dX1_isFreePair_40 rfl (by omega) rfl ?_
      refine ⟨?_, rfl, rfl, rfl⟩
      first | rw [if_pos (by omega)] | rw [if_neg (by omega)]
    · refine r_iload_n hV dX1_isFreePair_16 rfl ?_
      refine r_iload_n hV dX1_isFreePair_17 rfl ?_
      refine s_icmp_eq hV 39 dX1_isFreePair_18 (by decide) (by unfold z_rg; omega) (by unfold z_rg; omega) (fun c18 => ?_) (fun c18 => ?_)
      · refine s_iconst hV dX1_isFreePair_39 (0) (by decide) ?_
        refine s_zret hV dX1_isFreePair_40 rfl (by omega) rfl ?_
        refine ⟨?_, rfl, rfl, rfl⟩
        first | rw [if_pos (by omega)] | rw [if_neg (by omega)]
      · refine r_aload_n hV dX1_isFreePair_21 rfl rfl ?_
        refine r_getR hV dX1_isFreePair_22 fl_X1_9 (by first | decide | omega) (by first | rfl | assumption) (by first | assumption | rfl) ?_
        refine r_iload_n hV dX1_isFreePair_25 rfl ?_
        refine s_bipush hV dX1_isFreePair_26 (6) (by decide) ?_
        refine s_imul hV dX1_isFreePair_28 ?_
        refine r_iload_n hV dX1_isFreePair_29 rfl ?_
        refine s_iadd hV dX1_isFreePair_30 ?_
        refine s_iaload hV dX1_isFreePair_31 (by first | decide | omega) (by first | rfl | assumption) (by decide) (by omega) (by omega) (hR _ (by omega) (by omega)) ?_
        have hrb := hRb (a * 6 + b) (by omega) (by omega)
        refine s_if_ne hV 39 dX1_isFreePair_32 (by decide) (by unfold z_rg; omega) (fun c32 => ?_) (fun c32 => ?_)
        · refine s_iconst hV dX1_isFreePair_39 (0) (by decide) ?_
          refine s_zret hV dX1_isFreePair_40 rfl (by omega) rfl ?_
          refine ⟨?_, rfl, rfl, rfl⟩
          first | rw [if_pos (by omega)] | rw [if_neg (by omega)]
        · refine s_iconst hV dX1_isFreePair_35 (1) (by decide) ?_
          refine r_goto hV 40 dX1_isFreePair_36 (by decide) ?_
          refine s_zret hV dX1_isFreePair_40 rfl (by omega) rfl ?_
          refine ⟨?_, rfl, rfl, rfl⟩
          first | rw [if_pos (by omega)] | rw [if_neg (by omega)]

def f_fr (n : Int) (R : Int → Int) (a : Int) (b : Nat) : Bool := decide (((0 ≤ a ∧ a < n) ∧ (0 ≤ (b : Int) ∧ (b : Int) < n)) ∧ ¬ a = (b : Int) ∧ R (a * 6 + (b : Int)) = 0)
set_option maxRecDepth 20000 in
theorem m_hasFreePairAt (I : zI) (J : zJ) (P : zP) (d : Nat) (hD : zDay P d) (n : Int) (hn : I d 0 = iI n) (hnb : 0 ≤ n ∧ n ≤ 6) (a : Int) (ha : z_rg a) (R : Int → Int) (hR : z_ar I (d + 1) 36 R) (hRb : z_bd R 36 0 99) : z_Fn 2 yX1_hasFreePairAt cX1_hasFreePairAt 3 (some .boolean) 108 108 I J P [.ref d, .int (iI a)] (some (.int (iI (if zany (f_fr n R a) n.toNat = true then 1 else 0)))) (I) (J) (P) := by
  obtain ⟨hd, p4, p5, p6, p7, p8⟩ := id hD
  obtain ⟨hlt, s0, s1, s2, s3, s4, s5⟩ := zDay_s hD
  have ha1 := ha.1
  have ha2 := ha.2
  refine z_met false (by decide +kernel) (fun h => by cases h) (Nat.le_of_ble_eq_true rfl) (by first | decide | omega) (fun V hV => ?_)
  show V 108 I J P 0 [.ref d, .int (iI a), .null] []
  refine s_iconst hV dX1_hasFreePairAt_0 (0) (by decide) ?_
  refine r_istore_n hV dX1_hasFreePairAt_1 (Nat.le_of_ble_eq_true rfl) rfl ?_
  have L2 : ∀ (k2 j : Nat), n.toNat - j < k2 → j ≤ n.toNat → ((∀ i, i < j → f_fr n R a i = false)) → V 108 I J P 2 [.ref d, .int (iI a), .int (iI (j : Int))] [] := by
    intro k2
    induction k2 with
    | zero => intro j  hk1 hk2; omega
    | succ k2 ih2 =>
      intro j  hk2 hl2 hno
      refine r_iload_n hV dX1_hasFreePairAt_2 rfl ?_
      refine r_aload_n hV dX1_hasFreePairAt_3 rfl rfl ?_
      refine r_getI hV dX1_hasFreePairAt_4 fl_X1_43 (by first | decide | omega) (by first | rfl | assumption) (by first | assumption | rfl) ?_
      refine s_icmp_ge hV 27 dX1_hasFreePairAt_7 (by decide) (by unfold z_rg; omega) (by unfold z_rg; omega) (fun c7 => ?_) (fun c7 => ?_)
      · refine s_iconst hV dX1_hasFreePairAt_27 (0) (by decide) ?_
        refine s_zret hV dX1_hasFreePairAt_28 rfl (by omega) rfl ?_
        refine ⟨?_, rfl, rfl, rfl⟩
        rw [zany_no (fun i hi => hno i (by omega))]
        rfl
      · refine r_aload_n hV dX1_hasFreePairAt_10 rfl rfl ?_
        refine r_iload_n hV dX1_hasFreePairAt_11 rfl ?_
        refine r_iload_n hV dX1_hasFreePairAt_12 rfl ?_
        refine q_iv2v hV dX1_hasFreePairAt_13 mv_X1_60 (m_isFreePair I J P d hD n hn hnb a ha (j : Int) (by unfold z_rg; omega) R hR hRb) (by first | decide | omega) (by first | rfl | assumption) (by decide) (Nat.le_refl _) (Nat.le_of_ble_eq_true rfl) ?_
        refine s_if_eq hV 21 dX1_hasFreePairAt_16 (by decide) (by unfold z_rg; omega) (fun c16 => ?_) (fun c16 => ?_)
        · refine s_iinc hV dX1_hasFreePairAt_21 rfl rfl ?_
          refine r_goto hV 2 dX1_hasFreePairAt_24 (by decide) ?_
          exact ih2 (j + 1) (by omega) (by omega) (fun i hi => by rcases Nat.lt_or_ge i j with q | q; exact hno i q; rw [show i = j by omega]; simp only [f_fr, decide_eq_false_iff_not]; omega)
        · refine s_iconst hV dX1_hasFreePairAt_19 (1) (by decide) ?_
          refine s_zret hV dX1_hasFreePairAt_20 rfl (by omega) rfl ?_
          refine ⟨?_, rfl, rfl, rfl⟩
          rw [if_pos (zany_iff.mpr ⟨j, by omega, by simp only [f_fr, decide_eq_true_eq]; omega⟩)]
  exact L2 (n.toNat + 1) 0 (by omega) (by omega) (fun i h => absurd h (by omega))

set_option maxRecDepth 20000 in
theorem m_hasRoomForRoad (I : zI) (J : zJ) (P : zP) (d : Nat) (hD : zDay P d) (n : Int) (hn : I d 0 = iI n) (hnb : 0 ≤ n ∧ n ≤ 6) (r : Int) (hr : I d 2 = iI r) (hrb : 0 ≤ r ∧ r ≤ 100) : z_Fn 0 yX1_hasRoomForRoad cX1_hasRoomForRoad 1 (some .boolean) 108 108 I J P [.ref d] (some (.int (iI (if r < 10 ∧ r < n * (n - 1) / 2 then 1 else 0)))) (I) (J) (P) := by
  obtain ⟨hd, p4, p5, p6, p7, p8⟩ := id hD
  obtain ⟨hlt, s0, s1, s2, s3, s4, s5⟩ := zDay_s hD
  have hm : 0 ≤ n * (n - 1) ∧ n * (n - 1) ≤ 30 := by
    rcases (show n = 0 ∨ n = 1 ∨ n = 2 ∨ n = 3 ∨ n = 4 ∨ n = 5 ∨ n = 6 by omega) with rfl | rfl | rfl | rfl | rfl | rfl | rfl <;> decide
  refine z_met false (by decide +kernel) (fun h => by cases h) (Nat.le_of_ble_eq_true rfl) (by first | decide | omega) (fun V hV => ?_)
  show V 108 I J P 0 [.ref d] []
  refine r_aload_n hV dX1_hasRoomForRoad_0 rfl rfl ?_
  refine r_getI hV dX1_hasRoomForRoad_1 fl_X1_50 (by first | decide | omega) (by first | rfl | assumption) (by first | assumption | rfl) ?_
  refine s_bipush hV dX1_hasRoomForRoad_4 (10) (by decide) ?_
  refine s_icmp_ge hV 33 dX1_hasRoomForRoad_6 (by decide) (by unfold z_rg; omega) (by unfold z_rg; omega) (fun c6 => ?_) (fun c6 => ?_)
  · refine s_iconst hV dX1_hasRoomForRoad_33 (0) (by decide) ?_
    refine s_zret hV dX1_hasRoomForRoad_34 rfl (by omega) rfl ?_
    refine ⟨?_, rfl, rfl, rfl⟩
    first | rw [if_pos (by omega)] | rw [if_neg (by omega)]
  · refine r_aload_n hV dX1_hasRoomForRoad_9 rfl rfl ?_
    refine r_getI hV dX1_hasRoomForRoad_10 fl_X1_50 (by first | decide | omega) (by first | rfl | assumption) (by first | assumption | rfl) ?_
    refine r_aload_n hV dX1_hasRoomForRoad_13 rfl rfl ?_
    refine r_getI hV dX1_hasRoomForRoad_14 fl_X1_43 (by first | decide | omega) (by first | rfl | assumption) (by first | assumption | rfl) ?_
    refine r_aload_n hV dX1_hasRoomForRoad_17 rfl rfl ?_
    refine r_getI hV dX1_hasRoomForRoad_18 fl_X1_43 (by first | decide | omega) (by first | rfl | assumption) (by first | assumption | rfl) ?_
    refine s_iconst hV dX1_hasRoomForRoad_21 (1) (by decide) ?_
    refine s_isub hV dX1_hasRoomForRoad_22 ?_
    refine s_imul hV dX1_hasRoomForRoad_23 ?_
    refine s_iconst hV dX1_hasRoomForRoad_24 (2) (by decide) ?_
    refine s_idiv hV dX1_hasRoomForRoad_25 (by unfold z_rg; omega) (by unfold z_rg; omega) (by omega) (by omega) ?_
    refine s_icmp_ge hV 33 dX1_hasRoomForRoad_26 (by decide) (by unfold z_rg; omega) (by unfold z_rg; omega) (fun c26 => ?_) (fun c26 => ?_)
    · refine s_iconst hV dX1_hasRoomForRoad_33 (0) (by decide) ?_
      refine s_zret hV dX1_hasRoomForRoad_34 rfl (by omega) rfl ?_
      refine ⟨?_, rfl, rfl, rfl⟩
      first | rw [if_pos (by omega)] | rw [if_neg (by omega)]
    · refine s_iconst hV dX1_hasRoomForRoad_29 (1) (by decide) ?_
      refine r_goto hV 34 dX1_hasRoomForRoad_30 (by decide) ?_
      refine s_zret hV dX1_hasRoomForRoad_34 rfl (by omega) rfl ?_
      refine ⟨?_, rfl, rfl, rfl⟩
      first | rw [if_pos (by omega)] | rw [if_neg (by omega)]

set_option maxRecDepth 20000 in
theorem m_hasRoomForErrand (I : zI) (J : zJ) (P : zP) (d : Nat) (hD : zDay P d) (e : Int) (he : I d 3 = iI e) (heb : 0 ≤ e ∧ e ≤ 6) : z_Fn 0 yX1_hasRoomForErrand cX1_hasRoomForErrand 1 (some .boolean) 108 108 I J P [.ref d] (some (.int (iI (if e < 6 then 1 else 0)))) (I) (J) (P) := by
  obtain ⟨hd, p4, p5, p6, p7, p8⟩ := id hD
  obtain ⟨hlt, s0, s1, s2, s3, s4, s5⟩ := zDay_s hD
  refine z_met false (by decide +kernel) (fun h => by cases h) (Nat.le_of_ble_eq_true rfl) (by first | decide | omega) (fun V hV => ?_)
  show V 108 I J P 0 [.ref d] []
  refine r_aload_n hV dX1_hasRoomForErrand_0 rfl rfl ?_
  refine r_getI hV dX1_hasRoomForErrand_1 fl_X1_53 (by first | decide | omega) (by first | rfl | assumption) (by first | assumption | rfl) ?_
  refine s_bipush hV dX1_hasRoomForErrand_4 (6) (by decide) ?_
  refine s_icmp_ge hV 13 dX1_hasRoomForErrand_6 (by decide) (by unfold z_rg; omega) (by unfold z_rg; omega) (fun c6 => ?_) (fun c6 => ?_)
  · refine s_iconst hV dX1_hasRoomForErrand_13 (0) (by decide) ?_
    refine s_zret hV dX1_hasRoomForErrand_14 rfl (by omega) rfl ?_
    refine ⟨?_, rfl, rfl, rfl⟩
    first | rw [if_pos (by omega)] | rw [if_neg (by omega)]
  · refine s_iconst hV dX1_hasRoomForErrand_9 (1) (by decide) ?_
    refine r_goto hV 14 dX1_hasRoomForErrand_10 (by decide) ?_
    refine s_zret hV dX1_hasRoomForErrand_14 rfl (by omega) rfl ?_
    refine ⟨?_, rfl, rfl, rfl⟩
    first | rw [if_pos (by omega)] | rw [if_neg (by omega)]

set_option maxRecDepth 20000 in
theorem m_canDo (I : zI) (J : zJ) (P : zP) (d : Nat) (hD : zDay P d) (e : Int) (he : I d 3 = iI e) (heb : 0 ≤ e ∧ e ≤ 6) (w : Int) (hw : z_rg w) (a : Int) (ha : z_rg a) (K : Int → Int) (hK : z_ar I (d + 5) 6 K) (hKb : z_bd K 6 0 2) : z_Fn 1 yX1_canDo cX1_canDo 3 (some .boolean) 108 108 I J P [.ref d, .int (iI w), .int (iI a)] (some (.int (iI (if (0 ≤ a ∧ a < e) ∧ (K a = 2 ∨ K a = w) then 1 else 0)))) (I) (J) (P) := by
  obtain ⟨hd, p4, p5, p6, p7, p8⟩ := id hD
  obtain ⟨hlt, s0, s1, s2, s3, s4, s5⟩ := zDay_s hD
  have ha1 := ha.1
  have ha2 := ha.2
  have hw1 := hw.1
  have hw2 := hw.2
  refine z_met false (by decide +kernel) (fun h => by cases h) (Nat.le_of_ble_eq_true rfl) (by first | decide | omega) (fun V hV => ?_)
  show V 108 I J P 0 [.ref d, .int (iI w), .int (iI a)] []
  refine r_aload_n hV dX1_canDo_0 rfl rfl ?_
  refine r_iload_n hV dX1_canDo_1 rfl ?_
  refine q_iv1v hV dX1_canDo_2 mv_X1_72 (m_isErrand I J P d hD e he heb (a) (by unfold z_rg; omega)) (by first | decide | omega) (by first | rfl | assumption) (by decide) (Nat.le_refl _) (Nat.le_of_ble_eq_true rfl) ?_
  refine s_if_eq hV 32 dX1_canDo_5 (by decide) (by unfold z_rg; omega) (fun c5 => ?_) (fun c5 => ?_)
  · refine s_iconst hV dX1_canDo_32 (0) (by decide) ?_
    refine s_zret hV dX1_canDo_33 rfl (by omega) rfl ?_
    refine ⟨?_, rfl, rfl, rfl⟩
    first | rw [if_pos (by omega)] | rw [if_neg (by omega)]
  · refine r_aload_n hV dX1_canDo_8 rfl rfl ?_
    refine r_getR hV dX1_canDo_9 fl_X1_24 (by first | decide | omega) (by first | rfl | assumption) (by first | assumption | rfl) ?_
    refine r_iload_n hV dX1_canDo_12 rfl ?_
    refine s_iaload hV dX1_canDo_13 (by first | decide | omega) (by first | rfl | assumption) (by decide) (by omega) (by omega) (hK _ (by omega) (by omega)) ?_
    refine s_iconst hV dX1_canDo_14 (2) (by decide) ?_
    have hkb := hKb a (by omega) (by omega)
    refine s_icmp_eq hV 28 dX1_canDo_15 (by decide) (by unfold z_rg; omega) (by unfold z_rg; omega) (fun c15 => ?_) (fun c15 => ?_)
    · refine s_iconst hV dX1_canDo_28 (1) (by decide) ?_
      refine r_goto hV 33 dX1_canDo_29 (by decide) ?_
      refine s_zret hV dX1_canDo_33 rfl (by omega) rfl ?_
      refine ⟨?_, rfl, rfl, rfl⟩
      first | rw [if_pos (by omega)] | rw [if_neg (by omega)]
    · refine r_aload_n hV dX1_canDo_18 rfl rfl ?_
      refine r_getR hV dX1_canDo_19 fl_X1_24 (by first | decide | omega) (by first | rfl | assumption) (by first | assumption | rfl) ?_
      refine r_iload_n hV dX1_canDo_22 rfl ?_
      refine s_iaload hV dX1_canDo_23 (by first | decide | omega) (by first | rfl | assumption) (by decide) (by omega) (by omega) (hK _ (by omega) (by omega)) ?_
      refine r_iload_n hV dX1_canDo_24 rfl ?_
      refine s_icmp_ne hV 32 dX1_canDo_25 (by decide) (by unfold z_rg; omega) (by unfold z_rg; omega) (fun c25 => ?_) (fun c25 => ?_)
      · refine s_iconst hV dX1_canDo_32 (0) (by decide) ?_
        refine s_zret hV dX1_canDo_33 rfl (by omega) rfl ?_
        refine ⟨?_, rfl, rfl, rfl⟩
        first | rw [if_pos (by omega)] | rw [if_neg (by omega)]
      · refine s_iconst hV dX1_canDo_28 (1) (by decide) ?_
        refine r_goto hV 33 dX1_canDo_29 (by decide) ?_
        refine s_zret hV dX1_canDo_33 rfl (by omega) rfl ?_
        refine ⟨?_, rfl, rfl, rfl⟩
        first | rw [if_pos (by omega)] | rw [if_neg (by omega)]

set_option maxRecDepth 20000 in
theorem m_allErrands (I : zI) (J : zJ) (P : zP) (d : Nat) (hD : zDay P d) (e : Int) (he : I d 3 = iI e) (heb : 0 ≤ e ∧ e ≤ 6) : z_Fn 0 yX1_allErrands cX1_allErrands 1 (some .int) 108 108 I J P [.ref d] (some (.int (iI (((2 ^ e.toNat : Nat) : Int) - 1)))) (I) (J) (P) := by
  obtain ⟨hd, p4, p5, p6, p7, p8⟩ := id hD
  obtain ⟨hlt, s0, s1, s2, s3, s4, s5⟩ := zDay_s hD
  refine z_met false (by decide +kernel) (fun h => by cases h) (Nat.le_of_ble_eq_true rfl) (by first | decide | omega) (fun V hV => ?_)
  show V 108 I J P 0 [.ref d] []
  refine s_iconst hV dX1_allErrands_0 (1) (by decide) ?_
  refine r_aload_n hV dX1_allErrands_1 rfl rfl ?_
  refine r_getI hV dX1_allErrands_2 fl_X1_53 (by first | decide | omega) (by first | rfl | assumption) (by first | assumption | rfl) ?_
  refine s_ishl hV dX1_allErrands_5 (zb_shl' (by omega) (by omega)) ?_
  refine s_iconst hV dX1_allErrands_6 (1) (by decide) ?_
  refine s_isub hV dX1_allErrands_7 ?_
  refine r_iret hV dX1_allErrands_8 rfl rfl ?_
  exact ⟨rfl, rfl, rfl, rfl⟩

def f_can (K : Int → Int) (w : Int) (a : Nat) : Bool := decide (K a = 2 ∨ K a = w)
set_option maxRecDepth 20000 in
theorem m_allFor (I : zI) (J : zJ) (P : zP) (d : Nat) (hD : zDay P d) (e : Int) (he : I d 3 = iI e) (heb : 0 ≤ e ∧ e ≤ 6) (w : Int) (hw : z_rg w) (K : Int → Int) (hK : z_ar I (d + 5) 6 K) (hKb : z_bd K 6 0 2) : z_Fn 2 yX1_allFor cX1_allFor 4 (some .int) 108 108 I J P [.ref d, .int (iI w)] (some (.int (iI ((zset (f_can K w) e.toNat : Nat))))) (I) (J) (P) := by
  obtain ⟨hd, p4, p5, p6, p7, p8⟩ := id hD
  obtain ⟨hlt, s0, s1, s2, s3, s4, s5⟩ := zDay_s hD
  have hw1 := hw.1
  have hw2 := hw.2
  refine z_met false (by decide +kernel) (fun h => by cases h) (Nat.le_of_ble_eq_true rfl) (by first | decide | omega) (fun V hV => ?_)
  show V 108 I J P 0 [.ref d, .int (iI w), .null, .null] []
  refine s_iconst hV dX1_allFor_0 (0) (by decide) ?_
  refine r_istore_n hV dX1_allFor_1 (Nat.le_of_ble_eq_true rfl) rfl ?_
  refine s_iconst hV dX1_allFor_2 (0) (by decide) ?_
  refine r_istore_n hV dX1_allFor_3 (Nat.le_of_ble_eq_true rfl) rfl ?_
  have L4 : ∀ (k4 j : Nat), e.toNat - j < k4 → j ≤ e.toNat → V 108 I J P 4 [.ref d, .int (iI w), .int (iI (zset (f_can K w) j : Nat)), .int (iI (j : Int))] [] := by
    intro k4
    induction k4 with
    | zero => intro j  hk1 hk2; omega
    | succ k4 ih4 =>
      intro j  hk4 hl4 
      have hlt2 : zset (f_can K w) j < 64 := Nat.lt_of_lt_of_le zset_lt (Nat.pow_le_pow_right (n := 2) (by omega) (show j ≤ 6 by omega))
      have hnx : ∀ s : Nat, zset (f_can K w) (j + 1) = s → j < e.toNat → V 108 I J P 4 [.ref d, .int (iI w), .int (iI (s : Int)), .int (iI ((j : Int) + 1))] [] := fun s hs hj => by subst hs; exact ih4 (j + 1) (by omega) (by omega)
      refine r_iload_n hV dX1_allFor_4 rfl ?_
      refine r_aload_n hV dX1_allFor_5 rfl rfl ?_
      refine r_getI hV dX1_allFor_6 fl_X1_53 (by first | decide | omega) (by first | rfl | assumption) (by first | assumption | rfl) ?_
      refine s_icmp_ge hV 33 dX1_allFor_9 (by decide) (by unfold z_rg; omega) (by unfold z_rg; omega) (fun c9 => ?_) (fun c9 => ?_)
      · refine r_iload_n hV dX1_allFor_33 rfl ?_
        refine r_iret hV dX1_allFor_34 rfl rfl ?_
        rw [show j = e.toNat by omega]
        exact ⟨rfl, rfl, rfl, rfl⟩
      · refine r_aload_n hV dX1_allFor_12 rfl rfl ?_
        refine r_iload_n hV dX1_allFor_13 rfl ?_
        refine r_iload_n hV dX1_allFor_14 rfl ?_
        refine q_iv2v hV dX1_allFor_15 mv_X1_75 (m_canDo I J P d hD e he heb w hw (j : Int) (by unfold z_rg; omega) K hK hKb) (by first | decide | omega) (by first | rfl | assumption) (by decide) (Nat.le_refl _) (Nat.le_of_ble_eq_true rfl) ?_
        refine s_if_eq hV 27 dX1_allFor_18 (by decide) (by unfold z_rg; omega) (fun c18 => ?_) (fun c18 => ?_)
        · refine s_iinc hV dX1_allFor_27 rfl rfl ?_
          refine r_goto hV 4 dX1_allFor_30 (by decide) ?_
          refine hnx _ (by first | rw [zset, if_pos (by simp only [f_can, decide_eq_true_eq]; omega)] | rw [zset, if_neg (by simp only [f_can, decide_eq_true_eq]; omega)]) (by omega)
        · refine r_iload_n hV dX1_allFor_21 rfl ?_
          refine s_iconst hV dX1_allFor_22 (1) (by decide) ?_
          refine r_iload_n hV dX1_allFor_23 rfl ?_
          refine s_ishl hV dX1_allFor_24 (by first | exact zb_shl (by omega) | exact zb_shl' (by omega) (by omega)) ?_
          have hpw := z_pw (k := j) (by omega)
          refine s_ior hV dX1_allFor_25 (zb_or (by omega) (by omega)) ?_
          refine r_istore_n hV dX1_allFor_26 (Nat.le_of_ble_eq_true rfl) rfl ?_
          refine s_iinc hV dX1_allFor_27 rfl rfl ?_
          refine r_goto hV 4 dX1_allFor_30 (by decide) ?_
          refine hnx _ (by first | rw [zset, if_pos (by simp only [f_can, decide_eq_true_eq]; omega)] | rw [zset, if_neg (by simp only [f_can, decide_eq_true_eq]; omega)]) (by omega)
  exact L4 (e.toNat + 1) 0 (by omega) (by omega)

def f_wt (s : Nat) (W : Int → Int) (a : Nat) : Int := if s.testBit a then W a else 0
theorem f_wt_b {s : Nat} {W : Int → Int} {n : Nat} (h : z_bd W 6 0 9) (hn : n ≤ 6) : 0 ≤ zsum (f_wt s W) n ∧ zsum (f_wt s W) n ≤ 9 * n := by
  induction n with
  | zero => simp [zsum]
  | succ n ih =>
    have h1 := ih (by omega)
    have h2 := h (n : Int) (by omega) (by omega)
    have h3 : f_wt s W n = W n ∨ f_wt s W n = 0 := by unfold f_wt; split <;> simp
    unfold zsum
    omega
set_option maxRecDepth 20000 in
theorem m_worthOfSet (I : zI) (J : zJ) (P : zP) (d : Nat) (hD : zDay P d) (e : Int) (he : I d 3 = iI e) (heb : 0 ≤ e ∧ e ≤ 6) (s : Nat) (hs : s < 64) (W : Int → Int) (hW : z_ar I (d + 4) 6 W) (hWb : z_bd W 6 0 9) : z_Fn 2 yX1_worthOfSet cX1_worthOfSet 4 (some .int) 108 108 I J P [.ref d, .int (iI (s : Int))] (some (.int (iI (zsum (f_wt s W) e.toNat)))) (I) (J) (P) := by
  obtain ⟨hd, p4, p5, p6, p7, p8⟩ := id hD
  obtain ⟨hlt, s0, s1, s2, s3, s4, s5⟩ := zDay_s hD
  refine z_met false (by decide +kernel) (fun h => by cases h) (Nat.le_of_ble_eq_true rfl) (by first | decide | omega) (fun V hV => ?_)
  show V 108 I J P 0 [.ref d, .int (iI (s : Int)), .null, .null] []
  refine s_iconst hV dX1_worthOfSet_0 (0) (by decide) ?_
  refine r_istore_n hV dX1_worthOfSet_1 (Nat.le_of_ble_eq_true rfl) rfl ?_
  refine s_iconst hV dX1_worthOfSet_2 (0) (by decide) ?_
  refine r_istore_n hV dX1_worthOfSet_3 (Nat.le_of_ble_eq_true rfl) rfl ?_
  have L4 : ∀ (k4 j : Nat), e.toNat - j < k4 → j ≤ e.toNat → V 108 I J P 4 [.ref d, .int (iI (s : Int)), .int (iI (zsum (f_wt s W) j)), .int (iI (j : Int))] [] := by
    intro k4
    induction k4 with
    | zero => intro j  hk1 hk2; omega
    | succ k4 ih4 =>
      intro j  hk4 hl4 
      have hnx : ∀ t : Int, t = zsum (f_wt s W) (j + 1) → j < e.toNat → V 108 I J P 4 [.ref d, .int (iI (s : Int)), .int (iI t), .int (iI ((j : Int) + 1))] [] := fun t ht hj => by subst ht; exact ih4 (j + 1) (by omega) (by omega)
      refine r_iload_n hV dX1_worthOfSet_4 rfl ?_
      refine r_aload_n hV dX1_worthOfSet_5 rfl rfl ?_
      refine r_getI hV dX1_worthOfSet_6 fl_X1_53 (by first | decide | omega) (by first | rfl | assumption) (by first | assumption | rfl) ?_
      refine s_icmp_ge hV 35 dX1_worthOfSet_9 (by decide) (by unfold z_rg; omega) (by unfold z_rg; omega) (fun c9 => ?_) (fun c9 => ?_)
      · refine r_iload_n hV dX1_worthOfSet_35 rfl ?_
        refine r_iret hV dX1_worthOfSet_36 rfl rfl ?_
        rw [show j = e.toNat by omega]
        exact ⟨rfl, rfl, rfl, rfl⟩
      · refine r_iload_n hV dX1_worthOfSet_12 rfl ?_
        refine r_iload_n hV dX1_worthOfSet_13 rfl ?_
        refine s_ishr hV dX1_worthOfSet_14 (zb_shr (by omega) (by omega)) ?_
        refine s_iconst hV dX1_worthOfSet_15 (1) (by decide) ?_
        refine s_iand hV dX1_worthOfSet_16 (by first | exact zb_one (by omega) (by omega) | exact zb_and (by omega) (by omega) | exact zb_df' (by omega) (by omega)) ?_
        refine s_iconst hV dX1_worthOfSet_17 (1) (by decide) ?_
        refine s_icmp_ne hV 29 dX1_worthOfSet_18 (by decide) (by unfold z_rg; omega) (by unfold z_rg; omega) (fun c18 => ?_) (fun c18 => ?_)
        · refine s_iinc hV dX1_worthOfSet_29 rfl rfl ?_
          refine r_goto hV 4 dX1_worthOfSet_32 (by decide) ?_
          exact hnx _ (by rw [zsum, f_wt]; by_cases hb : s.testBit j = true <;> simp_all) (by omega)
        · refine r_iload_n hV dX1_worthOfSet_21 rfl ?_
          refine r_aload_n hV dX1_worthOfSet_22 rfl rfl ?_
          refine r_iload_n hV dX1_worthOfSet_23 rfl ?_
          refine q_iv1v hV dX1_worthOfSet_24 mv_X1_78 (m_worthOf I J P d hD e he heb (j : Int) (by unfold z_rg; omega) W hW) (by first | decide | omega) (by first | rfl | assumption) (by decide) (Nat.le_refl _) (Nat.le_of_ble_eq_true rfl) ?_
          refine s_iadd hV dX1_worthOfSet_27 ?_
          refine r_istore_n hV dX1_worthOfSet_28 (Nat.le_of_ble_eq_true rfl) rfl ?_
          refine s_iinc hV dX1_worthOfSet_29 rfl rfl ?_
          refine r_goto hV 4 dX1_worthOfSet_32 (by decide) ?_
          exact hnx _ (by rw [zsum, f_wt]; by_cases hb : s.testBit j = true <;> simp_all) (by omega)
  exact L4 (e.toNat + 1) 0 (by omega) (by omega)

def zpl (s : Nat) (W : Int → Int) : Nat → Nat
  | 0 => 0
  | a + 1 => if s.testBit a then zpl s W a ||| 2 ^ (W a).toNat else zpl s W a
theorem zpl_lt {s : Nat} {W : Int → Int} {n : Nat} (h : z_bd W n 0 5) : zpl s W n < 64 := by
  induction n with
  | zero => show 0 < 64; omega
  | succ n ih =>
    have h1 := ih (fun z h0 h1 => h z h0 (by omega))
    have h2 := h (n : Int) (by omega) (by omega)
    unfold zpl
    split
    · exact z_or_lt h1 (z_pw (by omega))
    · exact h1
set_option maxRecDepth 20000 in
theorem m_placesOfSet (I : zI) (J : zJ) (P : zP) (d : Nat) (hD : zDay P d) (e : Int) (he : I d 3 = iI e) (heb : 0 ≤ e ∧ e ≤ 6) (s : Nat) (hs : s < 64) (W : Int → Int) (hW : z_ar I (d + 3) 6 W) (hWb : z_bd W e 0 5) : z_Fn 2 yX1_placesOfSet cX1_placesOfSet 4 (some .int) 108 108 I J P [.ref d, .int (iI (s : Int))] (some (.int (iI ((zpl s W e.toNat : Nat))))) (I) (J) (P) := by
  obtain ⟨hd, p4, p5, p6, p7, p8⟩ := id hD
  obtain ⟨hlt, s0, s1, s2, s3, s4, s5⟩ := zDay_s hD
  refine z_met false (by decide +kernel) (fun h => by cases h) (Nat.le_of_ble_eq_true rfl) (by first | decide | omega) (fun V hV => ?_)
  show V 108 I J P 0 [.ref d, .int (iI (s : Int)), .null, .null] []
  refine s_iconst hV dX1_placesOfSet_0 (0) (by decide) ?_
  refine r_istore_n hV dX1_placesOfSet_1 (Nat.le_of_ble_eq_true rfl) rfl ?_
  refine s_iconst hV dX1_placesOfSet_2 (0) (by decide) ?_
  refine r_istore_n hV dX1_placesOfSet_3 (Nat.le_of_ble_eq_true rfl) rfl ?_
  have L4 : ∀ (k4 j : Nat), e.toNat - j < k4 → j ≤ e.toNat → V 108 I J P 4 [.ref d, .int (iI (s : Int)), .int (iI (zpl s W j : Nat)), .int (iI (j : Int))] [] := by
    intro k4
    induction k4 with
    | zero => intro j  hk1 hk2; omega
    | succ k4 ih4 =>
      intro j  hk4 hl4 
      have hpl : zpl s W j < 64 := zpl_lt (fun z h0 h1 => hWb z h0 (by omega))
      have hnx : ∀ t : Nat, t = zpl s W (j + 1) → j < e.toNat → V 108 I J P 4 [.ref d, .int (iI (s : Int)), .int (iI (t : Int)), .int (iI ((j : Int) + 1))] [] := fun t ht hj => by subst ht; exact ih4 (j + 1) (by omega) (by omega)
      refine r_iload_n hV dX1_placesOfSet_4 rfl ?_
      refine r_aload_n hV dX1_placesOfSet_5 rfl rfl ?_
      refine r_getI hV dX1_placesOfSet_6 fl_X1_53 (by first | decide | omega) (by first | rfl | assumption) (by first | assumption | rfl) ?_
      refine s_icmp_ge hV 37 dX1_placesOfSet_9 (by decide) (by unfold z_rg; omega) (by unfold z_rg; omega) (fun c9 => ?_) (fun c9 => ?_)
      · refine r_iload_n hV dX1_placesOfSet_37 rfl ?_
        refine r_iret hV dX1_placesOfSet_38 rfl rfl ?_
        rw [show j = e.toNat by omega]
        exact ⟨rfl, rfl, rfl, rfl⟩
      · refine r_iload_n hV dX1_placesOfSet_12 rfl ?_
        refine r_iload_n hV dX1_placesOfSet_13 rfl ?_
        refine s_ishr hV dX1_placesOfSet_14 (zb_shr (by omega) (by omega)) ?_
        refine s_iconst hV dX1_placesOfSet_15 (1) (by decide) ?_
        refine s_iand hV dX1_placesOfSet_16 (by first | exact zb_one (by omega) (by omega) | exact zb_and (by omega) (by omega) | exact zb_df' (by omega) (by omega)) ?_
        refine s_iconst hV dX1_placesOfSet_17 (1) (by decide) ?_
        refine s_icmp_ne hV 31 dX1_placesOfSet_18 (by decide) (by unfold z_rg; omega) (by unfold z_rg; omega) (fun c18 => ?_) (fun c18 => ?_)
        · refine s_iinc hV dX1_placesOfSet_31 rfl rfl ?_
          refine r_goto hV 4 dX1_placesOfSet_34 (by decide) ?_
          exact hnx _ (by rw [zpl]; by_cases hb : s.testBit j = true <;> simp_all) (by omega)
        · refine r_iload_n hV dX1_placesOfSet_21 rfl ?_
          refine s_iconst hV dX1_placesOfSet_22 (1) (by decide) ?_
          refine r_aload_n hV dX1_placesOfSet_23 rfl rfl ?_
          refine r_iload_n hV dX1_placesOfSet_24 rfl ?_
          refine q_iv1v hV dX1_placesOfSet_25 mv_X1_82 (m_siteOf I J P d hD e he heb (j : Int) (by unfold z_rg; omega) W hW) (by first | decide | omega) (by first | rfl | assumption) (by decide) (Nat.le_refl _) (Nat.le_of_ble_eq_true rfl) ?_
          rw [if_pos (show 0 ≤ (j : Int) ∧ (j : Int) < e by omega)]
          have hwb := hWb (j : Int) (by omega) (by omega)
          have hpw := z_pw (k := (W (j : Int)).toNat) (by omega)
          refine s_ishl hV dX1_placesOfSet_28 (zb_shl' (by omega) (by omega)) ?_
          refine s_ior hV dX1_placesOfSet_29 (zb_or (by omega) (by omega)) ?_
          refine r_istore_n hV dX1_placesOfSet_30 (Nat.le_of_ble_eq_true rfl) rfl ?_
          refine s_iinc hV dX1_placesOfSet_31 rfl rfl ?_
          refine r_goto hV 4 dX1_placesOfSet_34 (by decide) ?_
          exact hnx _ (by rw [zpl]; by_cases hb : s.testBit j = true <;> simp_all) (by omega)
  exact L4 (e.toNat + 1) 0 (by omega) (by omega)
