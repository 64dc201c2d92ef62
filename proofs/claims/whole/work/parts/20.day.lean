/-- the Day's cells: two there are -/
def zDay (P : zP) (d : Nat) : Prop := (d = 66 ∨ d = 72) ∧ P d 4 = some (d + 1) ∧ P d 5 = some (d + 2) ∧ P d 6 = some (d + 3) ∧ P d 7 = some (d + 4) ∧ P d 8 = some (d + 5)
theorem zDay_s {P : zP} {d : Nat} (h : zDay P d) : d < 78 ∧ zSH d = .inl 1 ∧ zSH (d + 1) = .inr (.int, 36) ∧ zSH (d + 2) = .inr (.int, 36) ∧ zSH (d + 3) = .inr (.int, 6) ∧ zSH (d + 4) = .inr (.int, 6) ∧ zSH (d + 5) = .inr (.int, 6) := by
  rcases h.1 with rfl | rfl <;> exact ⟨by decide, rfl, rfl, rfl, rfl, rfl, rfl⟩
/-- an array of numbers holds f at its places below N -/
def z_ar (I : zI) (q : Nat) (N : Int) (f : Int → Int) : Prop := ∀ z : Int, 0 ≤ z → z < N → I q z.toNat = iI (f z)
def z_bd (f : Int → Int) (N lo hi : Int) : Prop := ∀ z : Int, 0 ≤ z → z < N → lo ≤ f z ∧ f z ≤ hi
set_option maxRecDepth 20000 in
theorem m_isPlace (I : zI) (J : zJ) (P : zP) (d : Nat) (hD : zDay P d) (n : Int) (hn : I d 0 = iI n) (hnb : 0 ≤ n ∧ n ≤ 6) (a : Int) (ha : z_rg a) : z_Fn 0 yX1_isPlace cX1_isPlace 2 (some .boolean) 108 108 I J P [.ref d, .int (iI a)] (some (.int (iI (if 0 ≤ a ∧ a < n then 1 else 0)))) (I) (J) (P) := by
  obtain ⟨hd, p4, p5, p6, p7, p8⟩ := id hD
  obtain ⟨hlt, s0, s1, s2, s3, s4, s5⟩ := zDay_s hD
  have ha1 := ha.1
  have ha2 := ha.2
  refine z_met false rfl (fun h => by cases h) (Nat.le_of_ble_eq_true rfl) (by first | decide | omega) (fun V hV => ?_)
  show V 108 I J P 0 [.ref d, .int (iI a)] []
  refine r_iload_n hV dX1_isPlace_0 rfl ?_
  refine s_if_lt hV 16 dX1_isPlace_1 (by decide) (by unfold z_rg; omega) (fun c1 => ?_) (fun c1 => ?_)
  · refine s_iconst hV dX1_isPlace_16 (0) (by decide) ?_
    refine s_zret hV dX1_isPlace_17 rfl (by omega) rfl ?_
    refine ⟨?_, rfl, rfl, rfl⟩
    first | rw [if_pos (by omega)] | rw [if_neg (by omega)]
  · refine r_iload_n hV dX1_isPlace_4 rfl ?_
    refine r_aload_n hV dX1_isPlace_5 rfl rfl ?_
    refine r_getI hV dX1_isPlace_6 fl_X1_43 (by first | decide | omega) (by first | rfl | assumption) (by first | assumption | rfl) ?_
    refine s_icmp_ge hV 16 dX1_isPlace_9 (by decide) (by unfold z_rg; omega) (by unfold z_rg; omega) (fun c9 => ?_) (fun c9 => ?_)
    · refine s_iconst hV dX1_isPlace_16 (0) (by decide) ?_
      refine s_zret hV dX1_isPlace_17 rfl (by omega) rfl ?_
      refine ⟨?_, rfl, rfl, rfl⟩
      first | rw [if_pos (by omega)] | rw [if_neg (by omega)]
    · refine s_iconst hV dX1_isPlace_12 (1) (by decide) ?_
      refine r_goto hV 17 dX1_isPlace_13 (by decide) ?_
      refine s_zret hV dX1_isPlace_17 rfl (by omega) rfl ?_
      refine ⟨?_, rfl, rfl, rfl⟩
      first | rw [if_pos (by omega)] | rw [if_neg (by omega)]

set_option maxRecDepth 20000 in
theorem m_isErrand (I : zI) (J : zJ) (P : zP) (d : Nat) (hD : zDay P d) (e : Int) (he : I d 3 = iI e) (heb : 0 ≤ e ∧ e ≤ 6) (a : Int) (ha : z_rg a) : z_Fn 0 yX1_isErrand cX1_isErrand 2 (some .boolean) 108 108 I J P [.ref d, .int (iI a)] (some (.int (iI (if 0 ≤ a ∧ a < e then 1 else 0)))) (I) (J) (P) := by
  obtain ⟨hd, p4, p5, p6, p7, p8⟩ := id hD
  obtain ⟨hlt, s0, s1, s2, s3, s4, s5⟩ := zDay_s hD
  have ha1 := ha.1
  have ha2 := ha.2
  refine z_met false rfl (fun h => by cases h) (Nat.le_of_ble_eq_true rfl) (by first | decide | omega) (fun V hV => ?_)
  show V 108 I J P 0 [.ref d, .int (iI a)] []
  refine r_iload_n hV dX1_isErrand_0 rfl ?_
  refine s_if_lt hV 16 dX1_isErrand_1 (by decide) (by unfold z_rg; omega) (fun c1 => ?_) (fun c1 => ?_)
  · refine s_iconst hV dX1_isErrand_16 (0) (by decide) ?_
    refine s_zret hV dX1_isErrand_17 rfl (by omega) rfl ?_
    refine ⟨?_, rfl, rfl, rfl⟩
    first | rw [if_pos (by omega)] | rw [if_neg (by omega)]
  · refine r_iload_n hV dX1_isErrand_4 rfl ?_
    refine r_aload_n hV dX1_isErrand_5 rfl rfl ?_
    refine r_getI hV dX1_isErrand_6 fl_X1_53 (by first | decide | omega) (by first | rfl | assumption) (by first | assumption | rfl) ?_
    refine s_icmp_ge hV 16 dX1_isErrand_9 (by decide) (by unfold z_rg; omega) (by unfold z_rg; omega) (fun c9 => ?_) (fun c9 => ?_)
    · refine s_iconst hV dX1_isErrand_16 (0) (by decide) ?_
      refine s_zret hV dX1_isErrand_17 rfl (by omega) rfl ?_
      refine ⟨?_, rfl, rfl, rfl⟩
      first | rw [if_pos (by omega)] | rw [if_neg (by omega)]
    · refine s_iconst hV dX1_isErrand_12 (1) (by decide) ?_
      refine r_goto hV 17 dX1_isErrand_13 (by decide) ?_
      refine s_zret hV dX1_isErrand_17 rfl (by omega) rfl ?_
      refine ⟨?_, rfl, rfl, rfl⟩
      first | rw [if_pos (by omega)] | rw [if_neg (by omega)]

set_option maxRecDepth 20000 in
theorem m_between (I : zI) (J : zJ) (P : zP) (d : Nat) (hD : zDay P d) (n : Int) (hn : I d 0 = iI n) (hnb : 0 ≤ n ∧ n ≤ 6) (a : Int) (ha : z_rg a) (b : Int) (hb : z_rg b) (D : Int → Int) (hL : z_ar I (d + 2) 36 D) : z_Fn 1 yX1_between cX1_between 3 (some .int) 108 108 I J P [.ref d, .int (iI a), .int (iI b)] (some (.int (iI (if (0 ≤ a ∧ a < n) ∧ (0 ≤ b ∧ b < n) then D (a * 6 + b) else 1000000)))) (I) (J) (P) := by
  obtain ⟨hd, p4, p5, p6, p7, p8⟩ := id hD
  obtain ⟨hlt, s0, s1, s2, s3, s4, s5⟩ := zDay_s hD
  have ha1 := ha.1
  have ha2 := ha.2
  have hb1 := hb.1
  have hb2 := hb.2
  refine z_met false rfl (fun h => by cases h) (Nat.le_of_ble_eq_true rfl) (by first | decide | omega) (fun V hV => ?_)
  show V 108 I J P 0 [.ref d, .int (iI a), .int (iI b)] []
  refine r_aload_n hV dX1_between_0 rfl rfl ?_
  refine r_iload_n hV dX1_between_1 rfl ?_
  refine q_iv1v hV dX1_between_2 mv_X1_56 (m_isPlace I J P d hD n hn hnb (a) (by unfold z_rg; omega)) (by first | decide | omega) (by first | rfl | assumption) (by decide) (Nat.le_refl _) (Nat.le_of_ble_eq_true rfl) ?_
  refine s_if_eq hV 30 dX1_between_5 (by decide) (by unfold z_rg; omega) (fun c5 => ?_) (fun c5 => ?_)
  · refine s_ldc hV dX1_between_30 ct_X1_68 (1000000) (by decide) ?_
    refine r_iret hV dX1_between_32 rfl rfl ?_
    refine ⟨?_, rfl, rfl, rfl⟩
    first | rw [if_pos (by omega)] | rw [if_neg (by omega)]
  · refine r_aload_n hV dX1_between_8 rfl rfl ?_
    refine r_iload_n hV dX1_between_9 rfl ?_
    refine q_iv1v hV dX1_between_10 mv_X1_56 (m_isPlace I J P d hD n hn hnb (b) (by unfold z_rg; omega)) (by first | decide | omega) (by first | rfl | assumption) (by decide) (Nat.le_refl _) (Nat.le_of_ble_eq_true rfl) ?_
    refine s_if_eq hV 30 dX1_between_13 (by decide) (by unfold z_rg; omega) (fun c13 => ?_) (fun c13 => ?_)
    · refine s_ldc hV dX1_between_30 ct_X1_68 (1000000) (by decide) ?_
      refine r_iret hV dX1_between_32 rfl rfl ?_
      refine ⟨?_, rfl, rfl, rfl⟩
      first | rw [if_pos (by omega)] | rw [if_neg (by omega)]
    · refine r_aload_n hV dX1_between_16 rfl rfl ?_
      refine r_getR hV dX1_between_17 fl_X1_15 (by first | decide | omega) (by first | rfl | assumption) (by first | assumption | rfl) ?_
      refine r_iload_n hV dX1_between_20 rfl ?_
      refine s_bipush hV dX1_between_21 (6) (by decide) ?_
      refine s_imul hV dX1_between_23 ?_
      refine r_iload_n hV dX1_between_24 rfl ?_
      refine s_iadd hV dX1_between_25 ?_
      refine s_iaload hV dX1_between_26 (by first | decide | omega) (by first | rfl | assumption) (by decide) (by omega) (by omega) (hL _ (by omega) (by omega)) ?_
      refine r_goto hV 32 dX1_between_27 (by decide) ?_
      refine r_iret hV dX1_between_32 rfl rfl ?_
      refine ⟨?_, rfl, rfl, rfl⟩
      first | rw [if_pos (by omega)] | rw [if_neg (by omega)]

set_option maxRecDepth 20000 in
theorem m_siteOf (I : zI) (J : zJ) (P : zP) (d : Nat) (hD : zDay P d) (e : Int) (he : I d 3 = iI e) (heb : 0 ≤ e ∧ e ≤ 6) (a : Int) (ha : z_rg a) (W : Int → Int) (hW : z_ar I (d + 3) 6 W) : z_Fn 1 yX1_siteOf cX1_siteOf 2 (some .int) 108 108 I J P [.ref d, .int (iI a)] (some (.int (iI (if 0 ≤ a ∧ a < e then W a else 0)))) (I) (J) (P) := by
  obtain ⟨hd, p4, p5, p6, p7, p8⟩ := id hD
  obtain ⟨hlt, s0, s1, s2, s3, s4, s5⟩ := zDay_s hD
  have ha1 := ha.1
  have ha2 := ha.2
  refine z_met false rfl (fun h => by cases h) (Nat.le_of_ble_eq_true rfl) (by first | decide | omega) (fun V hV => ?_)
  show V 108 I J P 0 [.ref d, .int (iI a)] []
  refine r_aload_n hV dX1_siteOf_0 rfl rfl ?_
  refine r_iload_n hV dX1_siteOf_1 rfl ?_
  refine q_iv1v hV dX1_siteOf_2 mv_X1_72 (m_isErrand I J P d hD e he heb (a) (by unfold z_rg; omega)) (by first | decide | omega) (by first | rfl | assumption) (by decide) (Nat.le_refl _) (Nat.le_of_ble_eq_true rfl) ?_
  refine s_if_eq hV 17 dX1_siteOf_5 (by decide) (by unfold z_rg; omega) (fun c5 => ?_) (fun c5 => ?_)
  · refine s_iconst hV dX1_siteOf_17 (0) (by decide) ?_
    refine r_iret hV dX1_siteOf_18 rfl rfl ?_
    refine ⟨?_, rfl, rfl, rfl⟩
    first | rw [if_pos (by omega)] | rw [if_neg (by omega)]
  · refine r_aload_n hV dX1_siteOf_8 rfl rfl ?_
    refine r_getR hV dX1_siteOf_9 fl_X1_18 (by first | decide | omega) (by first | rfl | assumption) (by first | assumption | rfl) ?_
    refine r_iload_n hV dX1_siteOf_12 rfl ?_
    refine s_iaload hV dX1_siteOf_13 (by first | decide | omega) (by first | rfl | assumption) (by decide) (by omega) (by omega) (hW _ (by omega) (by omega)) ?_
    refine r_goto hV 18 dX1_siteOf_14 (by decide) ?_
    refine r_iret hV dX1_siteOf_18 rfl rfl ?_
    refine ⟨?_, rfl, rfl, rfl⟩
    first | rw [if_pos (by omega)] | rw [if_neg (by omega)]

set_option maxRecDepth 20000 in
theorem m_worthOf (I : zI) (J : zJ) (P : zP) (d : Nat) (hD : zDay P d) (e : Int) (he : I d 3 = iI e) (heb : 0 ≤ e ∧ e ≤ 6) (a : Int) (ha : z_rg a) (W : Int → Int) (hW : z_ar I (d + 4) 6 W) : z_Fn 1 yX1_worthOf cX1_worthOf 2 (some .int) 108 108 I J P [.ref d, .int (iI a)] (some (.int (iI (if 0 ≤ a ∧ a < e then W a else 0)))) (I) (J) (P) := by
  obtain ⟨hd, p4, p5, p6, p7, p8⟩ := id hD
  obtain ⟨hlt, s0, s1, s2, s3, s4, s5⟩ := zDay_s hD
  have ha1 := ha.1
  have ha2 := ha.2
  refine z_met false rfl (fun h => by cases h) (Nat.le_of_ble_eq_true rfl) (by first | decide | omega) (fun V hV => ?_)
  show V 108 I J P 0 [.ref d, .int (iI a)] []
  refine r_aload_n hV dX1_worthOf_0 rfl rfl ?_
  refine r_iload_n hV dX1_worthOf_1 rfl ?_
  refine q_iv1v hV dX1_worthOf_2 mv_X1_72 (m_isErrand I J P d hD e he heb (a) (by unfold z_rg; omega)) (by first | decide | omega) (by first | rfl | assumption) (by decide) (Nat.le_refl _) (Nat.le_of_ble_eq_true rfl) ?_
  refine s_if_eq hV 17 dX1_worthOf_5 (by decide) (by unfold z_rg; omega) (fun c5 => ?_) (fun c5 => ?_)
  · refine s_iconst hV dX1_worthOf_17 (0) (by decide) ?_
    refine r_iret hV dX1_worthOf_18 rfl rfl ?_
    refine ⟨?_, rfl, rfl, rfl⟩
    first | rw [if_pos (by omega)] | rw [if_neg (by omega)]
  · refine r_aload_n hV dX1_worthOf_8 rfl rfl ?_
    refine r_getR hV dX1_worthOf_9 fl_X1_21 (by first | decide | omega) (by first | rfl | assumption) (by first | assumption | rfl) ?_
    refine r_iload_n hV dX1_worthOf_12 rfl ?_
    refine s_iaload hV dX1_worthOf_13 (by first | decide | omega) (by first | rfl | assumption) (by decide) (by omega) (by omega) (hW _ (by omega) (by omega)) ?_
    refine r_goto hV 18 dX1_worthOf_14 (by decide) ?_
    refine r_iret hV dX1_worthOf_18 rfl rfl ?_
    refine ⟨?_, rfl, rfl, rfl⟩
    first | rw [if_pos (by omega)] | rw [if_neg (by omega)]

set_option maxRecDepth 20000 in
theorem m_doerOf (I : zI) (J : zJ) (P : zP) (d : Nat) (hD : zDay P d) (e : Int) (he : I d 3 = iI e) (heb : 0 ≤ e ∧ e ≤ 6) (a : Int) (ha : z_rg a) (W : Int → Int) (hW : z_ar I (d + 5) 6 W) : z_Fn 1 yX1_doerOf cX1_doerOf 2 (some .int) 108 108 I J P [.ref d, .int (iI a)] (some (.int (iI (if 0 ≤ a ∧ a < e then W a else 2)))) (I) (J) (P) := by
  obtain ⟨hd, p4, p5, p6, p7, p8⟩ := id hD
  obtain ⟨hlt, s0, s1, s2, s3, s4, s5⟩ := zDay_s hD
  have ha1 := ha.1
  have ha2 := ha.2
  refine z_met false rfl (fun h => by cases h) (Nat.le_of_ble_eq_true rfl) (by first | decide | omega) (fun V hV => ?_)
  show V 108 I J P 0 [.ref d, .int (iI a)] []
  refine r_aload_n hV dX1_doerOf_0 rfl rfl ?_
  refine r_iload_n hV dX1_doerOf_1 rfl ?_
  refine q_iv1v hV dX1_doerOf_2 mv_X1_72 (m_isErrand I J P d hD e he heb (a) (by unfold z_rg; omega)) (by first | decide | omega) (by first | rfl | assumption) (by decide) (Nat.le_refl _) (Nat.le_of_ble_eq_true rfl) ?_
  refine s_if_eq hV 17 dX1_doerOf_5 (by decide) (by unfold z_rg; omega) (fun c5 => ?_) (fun c5 => ?_)
  · refine s_iconst hV dX1_doerOf_17 (2) (by decide) ?_
    refine r_iret hV dX1_doerOf_18 rfl rfl ?_
    refine ⟨?_, rfl, rfl, rfl⟩
    first | rw [if_pos (by omega)] | rw [if_neg (by omega)]
  · refine r_aload_n hV dX1_doerOf_8 rfl rfl ?_
    refine r_getR hV dX1_doerOf_9 fl_X1_24 (by first | decide | omega) (by first | rfl | assumption) (by first | assumption | rfl) ?_
    refine r_iload_n hV dX1_doerOf_12 rfl ?_
    refine s_iaload hV dX1_doerOf_13 (by first | decide | omega) (by first | rfl | assumption) (by decide) (by omega) (by omega) (hW _ (by omega) (by omega)) ?_
    refine r_goto hV 18 dX1_doerOf_14 (by decide) ?_
    refine r_iret hV dX1_doerOf_18 rfl rfl ?_
    refine ⟨?_, rfl, rfl, rfl⟩
    first | rw [if_pos (by omega)] | rw [if_neg (by omega)]
