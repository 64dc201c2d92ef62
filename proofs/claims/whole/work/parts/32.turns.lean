theorem zb_wsh {x y : Nat} (hx : x < 64) (hy : y < 64) : iI ((x : Int) * 256 + y) >>> (iI 8 &&& 31) = iI (x : Int) ∧ iI ((x : Int) * 256 + y) &&& iI 255 = iI (y : Int) := by
  have key : ∀ x : Nat, x < 64 → ∀ y : Nat, y < 64 → iI ((x : Int) * 256 + y) >>> (iI 8 &&& 31) = iI (x : Int) ∧ iI ((x : Int) * 256 + y) &&& iI 255 = iI (y : Int) := by decide +kernel
  exact key x hx y hy
set_option maxRecDepth 20000 in
theorem m_share (I : zI) (J : zJ) (P : zP) (x y : Nat) (hx : x < 64) (hy : y < 64) (w : Int) (hw : w = 0 ∨ w = 1) : z_Fn 0 yX10_share cX10_share 2 (some .int) 108 108 I J P [.int (iI ((x : Int) * 256 + y)), .int (iI w)] (some (.int (iI (if w = 0 then (x : Int) else y)))) (I) (J) (P) := by
  refine z_met false (by decide +kernel) (fun h => by cases h) (Nat.le_of_ble_eq_true rfl) (by first | decide | omega) (fun V hV => ?_)
  show V 108 I J P 0 [.int (iI ((x : Int) * 256 + y)), .int (iI w)] []
  refine r_iload_n hV dX10_share_0 rfl ?_
  refine s_if_ne hV 11 dX10_share_1 (by decide) (by unfold z_rg; first | omega | (split <;> omega)) (fun c1 => ?_) (fun c1 => ?_)
  · refine r_iload_n hV dX10_share_11 rfl ?_
    refine s_sipush hV dX10_share_12 (255) (by decide) ?_
    refine s_iand hV dX10_share_15 (zb_wsh hx hy).2 ?_
    refine r_iret hV dX10_share_16 rfl rfl ?_
    refine ⟨?_, rfl, rfl, rfl⟩
    first | rw [if_pos (by omega)] | rw [if_neg (by omega)]
  · refine r_iload_n hV dX10_share_4 rfl ?_
    refine s_bipush hV dX10_share_5 (8) (by decide) ?_
    refine s_ishr hV dX10_share_7 (zb_wsh hx hy).1 ?_
    refine r_goto hV 16 dX10_share_8 (by decide) ?_
    refine r_iret hV dX10_share_16 rfl rfl ?_
    refine ⟨?_, rfl, rfl, rfl⟩
    first | rw [if_pos (by omega)] | rw [if_neg (by omega)]

set_option maxRecDepth 20000 in
theorem m_homeward (I : zI) (J : zJ) (P : zP) (d : Nat) (hP : P 58 0 = some d) (hD : zDay P d) (n : Nat) (hn : I d 0 = iI (n : Int)) (hnb : 1 ≤ n ∧ n ≤ 6) (D : Int → Int) (hDl : z_ar I (d + 2) 36 D) (a : Int) (ha : a = -1 ∨ (0 ≤ a ∧ a < n)) : z_Fn 2 yX10_homeward cX10_homeward 2 (some .int) 108 108 I J P [.ref 58, .int (iI a)] (some (.int (iI (if a = -1 then 0 else D (a * 6))))) (I) (J) (P) := by
  obtain ⟨hd, p4, p5, p6, p7, p8⟩ := id hD
  obtain ⟨hlt, s0, s1, s2, s3, s4, s5⟩ := zDay_s hD
  refine z_met false (by decide +kernel) (fun h => by cases h) (Nat.le_of_ble_eq_true rfl) (by first | decide | omega) (fun V hV => ?_)
  show V 108 I J P 0 [.ref 58, .int (iI a)] []
  refine r_iload_n hV dX10_homeward_0 rfl ?_
  refine s_iconst hV dX10_homeward_1 (-1) (by decide) ?_
  refine s_icmp_eq hV 12 dX10_homeward_2 (by decide) (by unfold z_rg; first | omega | (split <;> omega)) (by unfold z_rg; first | omega | (split <;> omega)) (fun c2 => ?_) (fun c2 => ?_)
  · refine s_iconst hV dX10_homeward_12 (0) (by decide) ?_
    refine r_goto hV 25 dX10_homeward_13 (by decide) ?_
    refine r_iret hV dX10_homeward_25 rfl rfl ?_
    refine ⟨?_, rfl, rfl, rfl⟩
    first | rw [if_pos (by omega)] | rw [if_neg (by omega)]
  · refine r_aload_n hV dX10_homeward_5 rfl rfl ?_
    refine r_getR hV dX10_homeward_6 fl_X10_9 (by first | decide | omega) (by first | rfl | assumption) (by first | assumption | rfl) ?_
    refine r_ifnonnull hV 16 dX10_homeward_9 rfl (by decide) ?_
    refine r_aload_n hV dX10_homeward_16 rfl rfl ?_
    refine r_getR hV dX10_homeward_17 fl_X10_9 (by first | decide | omega) (by first | rfl | assumption) (by first | assumption | rfl) ?_
    refine r_iload_n hV dX10_homeward_20 rfl ?_
    refine s_iconst hV dX10_homeward_21 (0) (by decide) ?_
    refine q_iv2v hV dX10_homeward_22 mv_X10_15 (m_between I J P d hD (n : Int) hn (by omega) a (by unfold z_rg; omega) 0 (by unfold z_rg; omega) D hDl) (by first | decide | omega) (by first | rfl | assumption) (by decide) (Nat.le_refl _) (Nat.le_of_ble_eq_true rfl) ?_
    rw [if_pos (show (0 ≤ a ∧ a < (n : Int)) ∧ (0 : Int) ≤ 0 ∧ (0 : Int) < (n : Int) by omega), Int.add_zero]
    refine r_iret hV dX10_homeward_25 rfl rfl ?_
    refine ⟨?_, rfl, rfl, rfl⟩
    first | rw [if_pos (by omega)] | rw [if_neg (by omega)]

def q_tub (I : zI) (J : zJ) (P : zP) (d : Nat) (v : Option Value) (I1 : zI) (J1 : zJ) (P1 : zP) : Prop := v = none ∧ I1 = I ∧ J1 = J ∧ P1 58 0 = some d ∧ ∀ q, q ≠ 58 → P1 q = P q
set_option maxRecDepth 20000 in
theorem m_tubegin (I : zI) (J : zJ) (P : zP) (d : Nat) : z_Sp 0 yX10_begin cX10_begin 2 none 108 108 I J P [.ref 58, .ref d] (q_tub I J P d) := by
  refine z_met false (by decide +kernel) (fun h => by cases h) (Nat.le_of_ble_eq_true rfl) (by first | decide | omega) (fun V hV => ?_)
  show V 108 I J P 0 [.ref 58, .ref d] []
  refine r_aload_n hV dX10_begin_0 rfl rfl ?_
  refine r_aload_n hV dX10_begin_1 rfl rfl ?_
  refine r_putR hV dX10_begin_2 fl_X10_9 (pf_X10_9 _) (by first | decide | omega) (by first | rfl | assumption) ?_
  refine r_vret hV dX10_begin_5 rfl rfl ?_
  exact ⟨rfl, rfl, rfl, by rw [zu_s, zu_s], fun q a => zu_n _ _ a⟩
