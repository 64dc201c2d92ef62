/-- the sign at a place of the text; 0: none -/
def zsg (T : Int → Int) (tl p : Int) : Int := if 0 ≤ p ∧ p < tl then T p else 0
/-- the figure there; -1: none -/
def zfg (T : Int → Int) (tl p : Int) : Int := if 48 ≤ zsg T tl p ∧ zsg T tl p ≤ 57 then zsg T tl p - 48 else -1
theorem zsg_b {T : Int → Int} {tl p : Int} (h : z_bd T 80 0 255) (ht : tl ≤ 80) : 0 ≤ zsg T tl p ∧ zsg T tl p ≤ 255 := by
  unfold zsg
  split
  · exact h p (by omega) (by omega)
  · omega
theorem zfg_b {T : Int → Int} {tl p : Int} : -1 ≤ zfg T tl p ∧ zfg T tl p ≤ 9 := by
  unfold zfg
  split <;> omega
set_option maxRecDepth 20000 in
theorem m_size (I : zI) (J : zJ) (P : zP) (tl : Int) (htl : I 1 1 = iI tl) (htb : 0 ≤ tl ∧ tl ≤ 80) : z_Fn 0 yX8_size cX8_size 1 (some .int) 108 108 I J P [.ref 1] (some (.int (iI (tl)))) (I) (J) (P) := by
  refine z_met false (by decide +kernel) (fun h => by cases h) (Nat.le_of_ble_eq_true rfl) (by first | decide | omega) (fun V hV => ?_)
  show V 108 I J P 0 [.ref 1] []
  refine r_aload_n hV dX8_size_0 rfl rfl ?_
  refine r_getI hV dX8_size_1 fl_X8_15 (by first | decide | omega) (by first | rfl | assumption) (by first | assumption | rfl) ?_
  refine r_iret hV dX8_size_4 rfl rfl ?_
  exact ⟨rfl, rfl, rfl, rfl⟩

set_option maxRecDepth 20000 in
theorem m_empty (I : zI) (J : zJ) (P : zP) : z_Fn 0 yX8_empty cX8_empty 1 none 108 108 I J P [.ref 1] none (zu I 1 (zu (I 1) 1 (iI 0))) (J) (P) := by
  refine z_met false (by decide +kernel) (fun h => by cases h) (Nat.le_of_ble_eq_true rfl) (by first | decide | omega) (fun V hV => ?_)
  show V 108 I J P 0 [.ref 1] []
  refine r_aload_n hV dX8_empty_0 rfl rfl ?_
  refine s_iconst hV dX8_empty_1 (0) (by decide) ?_
  refine r_putI hV dX8_empty_2 fl_X8_15 (pf_X8_15 _) (z_okI_int rfl _) (by first | decide | omega) (by first | rfl | assumption) ?_
  refine r_vret hV dX8_empty_5 rfl rfl ?_
  exact ⟨rfl, rfl, rfl, rfl⟩

set_option maxRecDepth 20000 in
theorem m_signAt (I : zI) (J : zJ) (P : zP) (p1 : P 1 0 = some 2) (tl : Int) (htl : I 1 1 = iI tl) (htb : 0 ≤ tl ∧ tl ≤ 80) (T : Int → Int) (hT : z_ar I 2 80 T) (hTb : z_bd T 80 0 255) (p : Int) (hp : z_rg p) : z_Fn 0 yX8_signAt cX8_signAt 2 (some .int) 108 108 I J P [.ref 1, .int (iI p)] (some (.int (iI (zsg T tl p)))) (I) (J) (P) := by
  have hp1 := hp.1
  have hp2 := hp.2
  unfold zsg
  refine z_met false (by decide +kernel) (fun h => by cases h) (Nat.le_of_ble_eq_true rfl) (by first | decide | omega) (fun V hV => ?_)
  show V 108 I J P 0 [.ref 1, .int (iI p)] []
  refine r_iload_n hV dX8_signAt_0 rfl ?_
  refine s_if_lt hV 21 dX8_signAt_1 (by decide) (by unfold z_rg; omega) (fun c1 => ?_) (fun c1 => ?_)
  · refine s_iconst hV dX8_signAt_21 (0) (by decide) ?_
    refine r_iret hV dX8_signAt_22 rfl rfl ?_
    refine ⟨?_, rfl, rfl, rfl⟩
    first | rw [if_pos (by omega)] | rw [if_neg (by omega)]
  · refine r_iload_n hV dX8_signAt_4 rfl ?_
    refine r_aload_n hV dX8_signAt_5 rfl rfl ?_
    refine r_getI hV dX8_signAt_6 fl_X8_15 (by first | decide | omega) (by first | rfl | assumption) (by first | assumption | rfl) ?_
    refine s_icmp_ge hV 21 dX8_signAt_9 (by decide) (by unfold z_rg; omega) (by unfold z_rg; omega) (fun c9 => ?_) (fun c9 => ?_)
    · refine s_iconst hV dX8_signAt_21 (0) (by decide) ?_
      refine r_iret hV dX8_signAt_22 rfl rfl ?_
      refine ⟨?_, rfl, rfl, rfl⟩
      first | rw [if_pos (by omega)] | rw [if_neg (by omega)]
    · refine r_aload_n hV dX8_signAt_12 rfl rfl ?_
      refine r_getR hV dX8_signAt_13 fl_X8_9 (by first | decide | omega) (by first | rfl | assumption) (by first | assumption | rfl) ?_
      refine r_iload_n hV dX8_signAt_16 rfl ?_
      refine s_iaload hV dX8_signAt_17 (by first | decide | omega) (by first | rfl | assumption) (by decide) (by omega) (by omega) (hT _ (by omega) (by omega)) ?_
      refine r_goto hV 22 dX8_signAt_18 (by decide) ?_
      refine r_iret hV dX8_signAt_22 rfl rfl ?_
      refine ⟨?_, rfl, rfl, rfl⟩
      first | rw [if_pos (by omega)] | rw [if_neg (by omega)]

set_option maxRecDepth 20000 in
theorem m_figureAt (I : zI) (J : zJ) (P : zP) (p1 : P 1 0 = some 2) (tl : Int) (htl : I 1 1 = iI tl) (htb : 0 ≤ tl ∧ tl ≤ 80) (T : Int → Int) (hT : z_ar I 2 80 T) (hTb : z_bd T 80 0 255) (p : Int) (hp : z_rg p) : z_Fn 1 yX8_figureAt cX8_figureAt 3 (some .int) 108 108 I J P [.ref 1, .int (iI p)] (some (.int (iI (zfg T tl p)))) (I) (J) (P) := by
  unfold zfg
  have hsb := zsg_b (p := p) hTb htb.2
  refine z_met false (by decide +kernel) (fun h => by cases h) (Nat.le_of_ble_eq_true rfl) (by first | decide | omega) (fun V hV => ?_)
  show V 108 I J P 0 [.ref 1, .int (iI p), .null] []
  refine r_aload_n hV dX8_figureAt_0 rfl rfl ?_
  refine r_iload_n hV dX8_figureAt_1 rfl ?_
  refine q_iv1v hV dX8_figureAt_2 mv_X8_19 (m_signAt I J P p1 tl htl htb T hT hTb p hp) (by first | decide | omega) (by first | rfl | assumption) (by decide) (Nat.le_refl _) (Nat.le_of_ble_eq_true rfl) ?_
  refine r_istore_n hV dX8_figureAt_5 (Nat.le_of_ble_eq_true rfl) rfl ?_
  refine r_iload_n hV dX8_figureAt_6 rfl ?_
  refine s_bipush hV dX8_figureAt_7 (48) (by decide) ?_
  refine s_icmp_lt hV 25 dX8_figureAt_9 (by decide) (by unfold z_rg; omega) (by unfold z_rg; omega) (fun c9 => ?_) (fun c9 => ?_)
  · refine s_iconst hV dX8_figureAt_25 (-1) (by decide) ?_
    refine r_iret hV dX8_figureAt_26 rfl rfl ?_
    refine ⟨?_, rfl, rfl, rfl⟩
    first | rw [if_pos (by omega)] | rw [if_neg (by omega)]
  · refine r_iload_n hV dX8_figureAt_12 rfl ?_
    refine s_bipush hV dX8_figureAt_13 (57) (by decide) ?_
    refine s_icmp_gt hV 25 dX8_figureAt_15 (by decide) (by unfold z_rg; omega) (by unfold z_rg; omega) (fun c15 => ?_) (fun c15 => ?_)
    · refine s_iconst hV dX8_figureAt_25 (-1) (by decide) ?_
      refine r_iret hV dX8_figureAt_26 rfl rfl ?_
      refine ⟨?_, rfl, rfl, rfl⟩
      first | rw [if_pos (by omega)] | rw [if_neg (by omega)]
    · refine r_iload_n hV dX8_figureAt_18 rfl ?_
      refine s_bipush hV dX8_figureAt_19 (48) (by decide) ?_
      refine s_isub hV dX8_figureAt_21 ?_
      refine r_goto hV 26 dX8_figureAt_22 (by decide) ?_
      refine r_iret hV dX8_figureAt_26 rfl rfl ?_
      refine ⟨?_, rfl, rfl, rfl⟩
      first | rw [if_pos (by omega)] | rw [if_neg (by omega)]

/-- byte i of a long, as the class cuts it -/
def zbC (v : Int64) (i : Int) : Int := ((v.toUInt64 >>> ((iI (8 * i)).toInt64.toUInt64 &&& Int64.toUInt64 63)).toInt64.toInt32 &&& iI 255).toInt
theorem z_255 (x : Int32) : 0 ≤ (x &&& iI 255).toInt ∧ (x &&& iI 255).toInt ≤ 255 := by
  rw [pk_and x (m := iI 255) 8 (by decide), nI_toInt (by omega)]
  omega
def f_app (v : Int64) (n tl : Int) (j : Nat) (T : Int → Int) : Int → Int := zup T (tl + j) (zbC v (n - 1 - j))
def q_app (I : zI) (J : zJ) (P : zP) (tl : Int) (T : Int → Int) (v : Option Value) (I1 : zI) (J1 : zJ) (P1 : zP) : Prop := v = none ∧ J1 = J ∧ P1 = P ∧ I1 1 1 = iI tl ∧ z_ar I1 2 80 T ∧ z_bd T 80 0 255 ∧ ∀ q, q ≠ 1 → q ≠ 2 → I1 q = I q
set_option maxRecDepth 20000 in
theorem m_append (I : zI) (J : zJ) (P : zP) (p1 : P 1 0 = some 2) (tl : Int) (htl : I 1 1 = iI tl) (htb : 0 ≤ tl ∧ tl ≤ 80) (T : Int → Int) (hT : z_ar I 2 80 T) (hTb : z_bd T 80 0 255) (n : Int) (hn : 1 ≤ n ∧ n ≤ 8) (hfit : tl + n ≤ 80) (v : Int64) : z_Sp 0 yX8_append cX8_append 5 none 108 108 I J P [.ref 1, .int (iI n), .long v] (q_app I J P (tl + n) (zit (f_app v n tl) n.toNat T)) := by
  refine z_met false (by decide +kernel) (fun h => by cases h) (Nat.le_of_ble_eq_true rfl) (by first | decide | omega) (fun V hV => ?_)
  show V 108 I J P 0 [.ref 1, .int (iI n), .long v, .null, .null] []
  refine r_iload_n hV dX8_append_0 rfl ?_
  refine s_iconst hV dX8_append_1 (1) (by decide) ?_
  refine s_isub hV dX8_append_2 ?_
  refine r_istore hV dX8_append_3 (Nat.le_of_ble_eq_true rfl) rfl ?_
  have L5 : ∀ (k5 j : Nat) (I1 : zI), n.toNat - j < k5 → j ≤ n.toNat → (I1 1 1 = iI (tl + j)) → (z_ar I1 2 80 (zit (f_app v n tl) j T)) → (z_bd (zit (f_app v n tl) j T) 80 0 255) → (∀ q, q ≠ 1 → q ≠ 2 → I1 q = I q) → V 108 I1 J P 5 [.ref 1, .int (iI n), .long v, .null, .int (iI (n - 1 - (j : Int)))] [] := by
    intro k5
    induction k5 with
    | zero => intro j I1  hk1 hk2; omega
    | succ k5 ih5 =>
      intro j I1  hk5 hl5 hl1 hz hzb hfr
      refine r_iload hV dX8_append_5 rfl ?_
      refine s_if_lt hV 56 dX8_append_7 (by decide) (by unfold z_rg; omega) (fun c7 => ?_) (fun c7 => ?_)
      · refine r_vret hV dX8_append_56 rfl rfl ?_
        rw [show j = n.toNat by omega] at hz hzb hl1
        exact ⟨rfl, rfl, rfl, by rw [hl1]; congr 1; omega, hz, hzb, hfr⟩
      · refine r_aload_n hV dX8_append_10 rfl rfl ?_
        refine r_getI hV dX8_append_11 fl_X8_15 (by first | decide | omega) (by first | rfl | assumption) (by first | assumption | rfl) ?_
        refine s_bipush hV dX8_append_14 (80) (by decide) ?_
        refine s_icmp_ge hV 56 dX8_append_16 (by decide) (by unfold z_rg; omega) (by unfold z_rg; omega) (fun c16 => ?_) (fun c16 => ?_)
        · refine r_vret hV dX8_append_56 rfl rfl ?_
          rw [show j = n.toNat by omega] at hz hzb hl1
          exact ⟨rfl, rfl, rfl, by rw [hl1]; congr 1; omega, hz, hzb, hfr⟩
        · refine r_aload_n hV dX8_append_19 rfl rfl ?_
          refine r_getR hV dX8_append_20 fl_X8_9 (by first | decide | omega) (by first | rfl | assumption) (by first | assumption | rfl) ?_
          refine r_aload_n hV dX8_append_23 rfl rfl ?_
          refine r_getI hV dX8_append_24 fl_X8_15 (by first | decide | omega) (by first | rfl | assumption) (by first | assumption | rfl) ?_
          refine r_lload_n hV dX8_append_27 rfl ?_
          refine s_bipush hV dX8_append_28 (8) (by decide) ?_
          refine r_iload hV dX8_append_30 rfl ?_
          refine s_imul hV dX8_append_32 ?_
          refine s_lushr hV dX8_append_33 rfl ?_
          refine r_l2i hV dX8_append_34 ?_
          refine s_sipush hV dX8_append_35 (255) (by decide) ?_
          refine r_iand hV dX8_append_38 ?_
          rw [iI_of (_ &&& iI 255)]
          have hb5 := z_255 ((v.toUInt64 >>> ((iI (8 * (n - 1 - (j : Int)))).toInt64.toUInt64 &&& Int64.toUInt64 63)).toInt64.toInt32)
          refine s_iastore hV dX8_append_39 (by first | decide | omega) (by first | rfl | assumption) (by decide) (by omega) (by omega) ?_
          generalize hI2 : zu I1 (2) _ = I2
          have hfI2 : ∀ q, q ≠ 2 → I2 q = I1 q := fun q h => by rw [← hI2]; exact zu_n _ _ h
          have hI2' : z_ar I2 2 80 (zit (f_app v n tl) (j + 1) T) := by
            rw [← hI2]; exact z_ar_set hz (by omega) _
          clear hI2
          rename _ => hI2
          refine r_aload_n hV dX8_append_40 rfl rfl ?_
          refine r_dup hV dX8_append_41 rfl ?_
          refine r_getI hV dX8_append_42 fl_X8_15 (by first | decide | omega) (by first | rfl | assumption) ((congrFun (hfI2 _ (by omega)) _).trans hl1) ?_
          refine s_iconst hV dX8_append_45 (1) (by decide) ?_
          refine s_iadd hV dX8_append_46 ?_
          refine r_putI hV dX8_append_47 fl_X8_15 (pf_X8_15 _) (z_okI_int rfl _) (by first | decide | omega) (by first | rfl | assumption) ?_
          refine s_iinc hV dX8_append_50 rfl rfl ?_
          refine r_goto hV 5 dX8_append_53 (by decide) ?_
          rw [show n - 1 - (j : Int) + -1 = n - 1 - ((j + 1 : Nat) : Int) by omega]
          exact ih5 (j + 1) _ (by omega) (by omega) (by rw [zu_s, zu_s]; congr 1; omega) (z_ar_fr hI2 (zu_n _ _ (by omega))) (z_bd_up hzb hb5.1 hb5.2) (fun q a b => by rw [zu_n _ _ a]; exact (hfI2 q b).trans (hfr q a b))
  rw [show n - 1 = n - 1 - ((0 : Nat) : Int) by omega]
  exact L5 (n.toNat + 1) 0 I (by omega) (by omega) (by rw [htl]; congr 1; omega) hT hTb (fun q a b => rfl)
theorem z_ite1 {c : Prop} [Decidable c] (h : ¬ (if c then (1 : Int) else 0) = 0) : c := Classical.byContradiction fun q => h (by rw [if_neg q])
theorem z_ite0 {c : Prop} [Decidable c] (h : (if c then (1 : Int) else 0) = 0) : ¬ c := fun q => by rw [if_pos q] at h; omega
