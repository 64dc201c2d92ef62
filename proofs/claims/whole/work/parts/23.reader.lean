def f_fit (T : Int → Int) (tl : Int) (p : Nat) : Prop := (p = 0 ∧ zsg T tl 0 = 86) ∨ (0 < p ∧ p < 4 ∧ 0 ≤ zfg T tl p) ∨ (p = 4 ∧ 2 ≤ zfg T tl p ∧ zfg T tl p ≤ 6)
def f_hf (T : Int → Int) (tl : Int) : Int := if ¬ zsg T tl 0 = 86 then 0 else if zfg T tl 1 < 0 then 1 else if zfg T tl 2 < 0 then 2 else if zfg T tl 3 < 0 then 3 else if zfg T tl 4 < 2 ∨ 6 < zfg T tl 4 then 4 else -9
set_option maxRecDepth 20000 in
theorem m_fitsHead (I : zI) (J : zJ) (P : zP) (p1 : P 1 0 = some 2) (tl : Int) (htl : I 1 1 = iI tl) (htb : 0 ≤ tl ∧ tl ≤ 80) (T : Int → Int) (hT : z_ar I 2 80 T) (hTb : z_bd T 80 0 255) (p : Nat) (hp : p < 5) : z_Fn 2 yX4_fitsHead cX4_fitsHead 3 (some .boolean) 108 108 I J P [.ref 1, .int (iI (p : Int))] (some (.int (iI (if (p = 0 ∧ zsg T tl 0 = 86) ∨ (0 < p ∧ p < 4 ∧ 0 ≤ zfg T tl p) ∨ (p = 4 ∧ 2 ≤ zfg T tl p ∧ zfg T tl p ≤ 6) then 1 else 0)))) (I) (J) (P) := by
  refine z_met false (by decide +kernel) (fun h => by cases h) (Nat.le_of_ble_eq_true rfl) (by first | decide | omega) (fun V hV => ?_)
  show V 108 I J P 0 [.ref 1, .int (iI (p : Int)), .null] []
  refine r_iload_n hV dX4_fitsHead_0 rfl ?_
  refine s_if_ne hV 20 dX4_fitsHead_1 (by decide) (by unfold z_rg; omega) (fun c1 => ?_) (fun c1 => ?_)
  · refine r_aload_n hV dX4_fitsHead_20 rfl rfl ?_
    refine r_iload_n hV dX4_fitsHead_21 rfl ?_
    refine q_iv1v hV dX4_fitsHead_22 mv_X4_21 (m_figureAt I J P p1 tl htl htb T hT hTb ((p : Int)) (by unfold z_rg; omega)) (by first | decide | omega) (by first | rfl | assumption) (by decide) (Nat.le_refl _) (Nat.le_of_ble_eq_true rfl) ?_
    have hfb := zfg_b (T := T) (tl := tl) (p := (p : Int))
    refine r_istore_n hV dX4_fitsHead_25 (Nat.le_of_ble_eq_true rfl) rfl ?_
    refine r_iload_n hV dX4_fitsHead_26 rfl ?_
    refine s_iconst hV dX4_fitsHead_27 (4) (by decide) ?_
    refine s_icmp_ge hV 41 dX4_fitsHead_28 (by decide) (by unfold z_rg; omega) (by unfold z_rg; omega) (fun c28 => ?_) (fun c28 => ?_)
    · refine r_iload_n hV dX4_fitsHead_41 rfl ?_
      refine s_iconst hV dX4_fitsHead_42 (2) (by decide) ?_
      refine s_icmp_lt hV 56 dX4_fitsHead_43 (by decide) (by unfold z_rg; omega) (by unfold z_rg; omega) (fun c43 => ?_) (fun c43 => ?_)
      · refine s_iconst hV dX4_fitsHead_56 (0) (by decide) ?_
        refine s_zret hV dX4_fitsHead_57 rfl (by omega) rfl ?_
        refine ⟨?_, rfl, rfl, rfl⟩
        first | rw [if_pos (by omega)] | rw [if_neg (by omega)]
      · refine r_iload_n hV dX4_fitsHead_46 rfl ?_
        refine s_bipush hV dX4_fitsHead_47 (6) (by decide) ?_
        refine s_icmp_gt hV 56 dX4_fitsHead_49 (by decide) (by unfold z_rg; omega) (by unfold z_rg; omega) (fun c49 => ?_) (fun c49 => ?_)
        · refine s_iconst hV dX4_fitsHead_56 (0) (by decide) ?_
          refine s_zret hV dX4_fitsHead_57 rfl (by omega) rfl ?_
          refine ⟨?_, rfl, rfl, rfl⟩
          first | rw [if_pos (by omega)] | rw [if_neg (by omega)]
        · refine s_iconst hV dX4_fitsHead_52 (1) (by decide) ?_
          refine r_goto hV 57 dX4_fitsHead_53 (by decide) ?_
          refine s_zret hV dX4_fitsHead_57 rfl (by omega) rfl ?_
          refine ⟨?_, rfl, rfl, rfl⟩
          first | rw [if_pos (by omega)] | rw [if_neg (by omega)]
    · refine r_iload_n hV dX4_fitsHead_31 rfl ?_
      refine s_if_lt hV 39 dX4_fitsHead_32 (by decide) (by unfold z_rg; omega) (fun c32 => ?_) (fun c32 => ?_)
      · refine s_iconst hV dX4_fitsHead_39 (0) (by decide) ?_
        refine s_zret hV dX4_fitsHead_40 rfl (by omega) rfl ?_
        refine ⟨?_, rfl, rfl, rfl⟩
        first | rw [if_pos (by omega)] | rw [if_neg (by omega)]
      · refine s_iconst hV dX4_fitsHead_35 (1) (by decide) ?_
        refine r_goto hV 40 dX4_fitsHead_36 (by decide) ?_
        refine s_zret hV dX4_fitsHead_40 rfl (by omega) rfl ?_
        refine ⟨?_, rfl, rfl, rfl⟩
        first | rw [if_pos (by omega)] | rw [if_neg (by omega)]
  · refine r_aload_n hV dX4_fitsHead_4 rfl rfl ?_
    refine s_iconst hV dX4_fitsHead_5 (0) (by decide) ?_
    refine q_iv1v hV dX4_fitsHead_6 mv_X4_31 (m_signAt I J P p1 tl htl htb T hT hTb (0) (by unfold z_rg; omega)) (by first | decide | omega) (by first | rfl | assumption) (by decide) (Nat.le_refl _) (Nat.le_of_ble_eq_true rfl) ?_
    have hsb := zsg_b (p := 0) hTb htb.2
    refine s_bipush hV dX4_fitsHead_9 (86) (by decide) ?_
    refine s_icmp_ne hV 18 dX4_fitsHead_11 (by decide) (by unfold z_rg; omega) (by unfold z_rg; omega) (fun c11 => ?_) (fun c11 => ?_)
    · refine s_iconst hV dX4_fitsHead_18 (0) (by decide) ?_
      refine s_zret hV dX4_fitsHead_19 rfl (by omega) rfl ?_
      refine ⟨?_, rfl, rfl, rfl⟩
      first | rw [if_pos (by omega)] | rw [if_neg (by omega)]
    · refine s_iconst hV dX4_fitsHead_14 (1) (by decide) ?_
      refine r_goto hV 19 dX4_fitsHead_15 (by decide) ?_
      refine s_zret hV dX4_fitsHead_19 rfl (by omega) rfl ?_
      refine ⟨?_, rfl, rfl, rfl⟩
      first | rw [if_pos (by omega)] | rw [if_neg (by omega)]

set_option maxRecDepth 20000 in
theorem m_headFault (I : zI) (J : zJ) (P : zP) (p1 : P 1 0 = some 2) (tl : Int) (htl : I 1 1 = iI tl) (htb : 0 ≤ tl ∧ tl ≤ 80) (T : Int → Int) (hT : z_ar I 2 80 T) (hTb : z_bd T 80 0 255) : z_Fn 3 yX4_headFault cX4_headFault 2 (some .int) 108 108 I J P [.ref 1] (some (.int (iI (f_hf T tl)))) (I) (J) (P) := by
  refine z_met false (by decide +kernel) (fun h => by cases h) (Nat.le_of_ble_eq_true rfl) (by first | decide | omega) (fun V hV => ?_)
  show V 108 I J P 0 [.ref 1, .null] []
  refine s_iconst hV dX4_headFault_0 (0) (by decide) ?_
  refine r_istore_n hV dX4_headFault_1 (Nat.le_of_ble_eq_true rfl) rfl ?_
  have L2 : ∀ (k2 j : Nat), 5 - j < k2 → j ≤ 5 → (∀ i, i < j → f_fit T tl i) → V 108 I J P 2 [.ref 1, .int (iI (j : Int))] [] := by
    intro k2
    induction k2 with
    | zero => intro j  hk1 hk2; omega
    | succ k2 ih2 =>
      intro j  hk2 hl2 hno
      refine r_iload_n hV dX4_headFault_2 rfl ?_
      refine s_iconst hV dX4_headFault_3 (5) (by decide) ?_
      refine s_icmp_ge hV 23 dX4_headFault_4 (by decide) (by unfold z_rg; omega) (by unfold z_rg; omega) (fun c4 => ?_) (fun c4 => ?_)
      · refine s_bipush hV dX4_headFault_23 (-9) (by decide) ?_
        have q0 : (0 = 0 ∧ zsg T tl 0 = 86) ∨ (0 < 0 ∧ 0 < 4 ∧ 0 ≤ zfg T tl 0) ∨ (0 = 4 ∧ 2 ≤ zfg T tl 0 ∧ zfg T tl 0 ≤ 6) := hno 0 (by omega)
        have q1 : (1 = 0 ∧ zsg T tl 0 = 86) ∨ (0 < 1 ∧ 1 < 4 ∧ 0 ≤ zfg T tl 1) ∨ (1 = 4 ∧ 2 ≤ zfg T tl 1 ∧ zfg T tl 1 ≤ 6) := hno 1 (by omega)
        have q2 : (2 = 0 ∧ zsg T tl 0 = 86) ∨ (0 < 2 ∧ 2 < 4 ∧ 0 ≤ zfg T tl 2) ∨ (2 = 4 ∧ 2 ≤ zfg T tl 2 ∧ zfg T tl 2 ≤ 6) := hno 2 (by omega)
        have q3 : (3 = 0 ∧ zsg T tl 0 = 86) ∨ (0 < 3 ∧ 3 < 4 ∧ 0 ≤ zfg T tl 3) ∨ (3 = 4 ∧ 2 ≤ zfg T tl 3 ∧ zfg T tl 3 ≤ 6) := hno 3 (by omega)
        have q4 : (4 = 0 ∧ zsg T tl 0 = 86) ∨ (0 < 4 ∧ 4 < 4 ∧ 0 ≤ zfg T tl 4) ∨ (4 = 4 ∧ 2 ≤ zfg T tl 4 ∧ zfg T tl 4 ≤ 6) := hno 4 (by omega)
        have hF : f_hf T tl = -9 := by
          unfold f_hf
          rw [if_neg (by omega), if_neg (by omega), if_neg (by omega), if_neg (by omega), if_neg (by omega)]
        refine r_iret hV dX4_headFault_25 rfl rfl ?_
        rw [hF]
        exact ⟨rfl, rfl, rfl, rfl⟩
      · refine r_aload_n hV dX4_headFault_7 rfl rfl ?_
        refine r_iload_n hV dX4_headFault_8 rfl ?_
        refine q_is2v hV dX4_headFault_9 ms_X4_41 (m_fitsHead I J P p1 tl htl htb T hT hTb j (by omega)) (by decide) (Nat.le_refl _) (Nat.le_of_ble_eq_true rfl) ?_
        refine s_if_ne hV 17 dX4_headFault_12 (by decide) (by unfold z_rg; omega) (fun c12 => ?_) (fun c12 => ?_)
        · refine s_iinc hV dX4_headFault_17 rfl rfl ?_
          refine r_goto hV 2 dX4_headFault_20 (by decide) ?_
          exact ih2 (j + 1) (by omega) (by omega) (fun i hi => by rcases Nat.lt_or_ge i j with q | q; exact hno i q; rw [show i = j by omega]; unfold f_fit; exact z_ite1 c12)
        · refine r_iload_n hV dX4_headFault_15 rfl ?_
          have hnf := z_ite0 c12
          have q0 := hno 0
          have q1 := hno 1
          have q2 := hno 2
          have q3 := hno 3
          unfold f_fit at q0 q1 q2 q3
          have hF : f_hf T tl = (j : Int) := by
            unfold f_hf
            rcases (show j = 0 ∨ j = 1 ∨ j = 2 ∨ j = 3 ∨ j = 4 by omega) with rfl | rfl | rfl | rfl | rfl <;> simp_all <;> (try omega)
          refine r_iret hV dX4_headFault_16 rfl rfl ?_
          rw [hF]
          exact ⟨rfl, rfl, rfl, rfl⟩
  exact L2 6 0 (by omega) (by omega) (fun i h => absurd h (by omega))

def f_rdF (T : Int → Int) (tl n r : Int) (R : Int → Int) (p : Int) : Int :=
  if ¬ (r < 10 ∧ r < n * (n - 1) / 2) then p else if ¬ zany (f_fr n R (zfg T tl (p + 1))) n.toNat = true then p + 1 else if ¬ (((0 ≤ zfg T tl (p + 1) ∧ zfg T tl (p + 1) < n) ∧ (0 ≤ zfg T tl (p + 2) ∧ zfg T tl (p + 2) < n)) ∧ ¬ zfg T tl (p + 1) = zfg T tl (p + 2) ∧ R (zfg T tl (p + 1) * 6 + zfg T tl (p + 2)) = 0) then p + 2 else if zfg T tl (p + 3) < 0 then p + 3 else if zfg T tl (p + 4) < 0 ∨ zfg T tl (p + 3) + zfg T tl (p + 4) = 0 then p + 4 else -9
def f_rdR (T : Int → Int) (tl : Int) (R : Int → Int) (p : Int) : Int → Int := zup (zup R (zfg T tl (p + 1) * 6 + zfg T tl (p + 2)) (zfg T tl (p + 3) * 10 + zfg T tl (p + 4))) (zfg T tl (p + 2) * 6 + zfg T tl (p + 1)) (zfg T tl (p + 3) * 10 + zfg T tl (p + 4))
def q_rd (I : zI) (J : zJ) (P : zP) (d : Nat) (F r : Int) (R R' : Int → Int) (v : Option Value) (I1 : zI) (J1 : zJ) (P1 : zP) : Prop := v = some (.int (iI F)) ∧ J1 = J ∧ P1 = P ∧ I1 d 0 = I d 0 ∧ I1 d 1 = I d 1 ∧ I1 d 2 = iI (if F = -9 then r + 1 else r) ∧ I1 d 3 = I d 3 ∧ z_ar I1 (d + 1) 36 (if F = -9 then R' else R) ∧ ∀ q, q ≠ d → q ≠ d + 1 → I1 q = I q
set_option maxRecDepth 20000 in
theorem m_readRoad (I : zI) (J : zJ) (P : zP) (d : Nat) (hD : zDay P d) (p1 : P 1 0 = some 2) (tl : Int) (htl : I 1 1 = iI tl) (htb : 0 ≤ tl ∧ tl ≤ 80) (T : Int → Int) (hT : z_ar I 2 80 T) (hTb : z_bd T 80 0 255) (n : Int) (hn : I d 0 = iI n) (hnb : 0 ≤ n ∧ n ≤ 6) (r : Int) (hr : I d 2 = iI r) (hrb : 0 ≤ r ∧ r ≤ 100) (R : Int → Int) (hR : z_ar I (d + 1) 36 R) (hRb : z_bd R 36 0 99) (p : Int) (hp : 0 ≤ p ∧ p ≤ 80) : z_Sp 4 yX4_readRoad cX4_readRoad 7 (some .int) 108 108 I J P [.ref 1, .ref d, .int (iI p)] (q_rd I J P d (f_rdF T tl n r R p) r R (f_rdR T tl R p)) := by
  obtain ⟨hd, p4, p5, p6, p7, p8⟩ := id hD
  obtain ⟨hlt, s0, s1, s2, s3, s4, s5⟩ := zDay_s hD
  refine z_met false (by decide +kernel) (fun h => by cases h) (Nat.le_of_ble_eq_true rfl) (by first | decide | omega) (fun V hV => ?_)
  show V 108 I J P 0 [.ref 1, .ref d, .int (iI p), .null, .null, .null, .null] []
  refine r_aload_n hV dX4_readRoad_0 rfl rfl ?_
  refine q_iv0v hV dX4_readRoad_1 mv_X4_45 (m_hasRoomForRoad I J P d hD n hn hnb r hr hrb) (by first | decide | omega) (by first | rfl | assumption) (by decide) (Nat.le_refl _) (Nat.le_of_ble_eq_true rfl) ?_
  refine s_if_ne hV 9 dX4_readRoad_4 (by decide) (by unfold z_rg; omega) (fun c4 => ?_) (fun c4 => ?_)
  · have k1 := z_ite1 c4
    refine r_aload_n hV dX4_readRoad_9 rfl rfl ?_
    refine r_iload_n hV dX4_readRoad_10 rfl ?_
    refine s_iconst hV dX4_readRoad_11 (1) (by decide) ?_
    refine s_iadd hV dX4_readRoad_12 ?_
    refine q_iv1v hV dX4_readRoad_13 mv_X4_21 (m_figureAt I J P p1 tl htl htb T hT hTb (p + 1) (by unfold z_rg; omega)) (by first | decide | omega) (by first | rfl | assumption) (by decide) (Nat.le_refl _) (Nat.le_of_ble_eq_true rfl) ?_
    have fb1 := zfg_b (T := T) (tl := tl) (p := p + 1)
    refine r_istore_n hV dX4_readRoad_16 (Nat.le_of_ble_eq_true rfl) rfl ?_
    refine r_aload_n hV dX4_readRoad_17 rfl rfl ?_
    refine r_iload_n hV dX4_readRoad_18 rfl ?_
    refine q_iv1v hV dX4_readRoad_19 mv_X4_49 (m_hasFreePairAt I J P d hD n hn hnb (zfg T tl (p + 1)) (by unfold z_rg; omega) R hR hRb) (by first | decide | omega) (by first | rfl | assumption) (by decide) (Nat.le_refl _) (Nat.le_of_ble_eq_true rfl) ?_
    refine s_if_ne hV 29 dX4_readRoad_22 (by decide) (by unfold z_rg; omega) (fun c22 => ?_) (fun c22 => ?_)
    · have k2 := z_ite1 c22
      refine r_aload_n hV dX4_readRoad_29 rfl rfl ?_
      refine r_iload_n hV dX4_readRoad_30 rfl ?_
      refine s_iconst hV dX4_readRoad_31 (2) (by decide) ?_
      refine s_iadd hV dX4_readRoad_32 ?_
      refine q_iv1v hV dX4_readRoad_33 mv_X4_21 (m_figureAt I J P p1 tl htl htb T hT hTb (p + 2) (by unfold z_rg; omega)) (by first | decide | omega) (by first | rfl | assumption) (by decide) (Nat.le_refl _) (Nat.le_of_ble_eq_true rfl) ?_
      have fb2 := zfg_b (T := T) (tl := tl) (p := p + 2)
      refine r_istore hV dX4_readRoad_36 (Nat.le_of_ble_eq_true rfl) rfl ?_
      refine r_aload_n hV dX4_readRoad_38 rfl rfl ?_
      refine r_iload_n hV dX4_readRoad_39 rfl ?_
      refine r_iload hV dX4_readRoad_40 rfl ?_
      refine q_iv2v hV dX4_readRoad_42 mv_X4_53 (m_isFreePair I J P d hD n hn hnb (zfg T tl (p + 1)) (by unfold z_rg; omega) (zfg T tl (p + 2)) (by unfold z_rg; omega) R hR hRb) (by first | decide | omega) (by first | rfl | assumption) (by decide) (Nat.le_refl _) (Nat.le_of_ble_eq_true rfl) ?_
      refine s_if_ne hV 52 dX4_readRoad_45 (by decide) (by unfold z_rg; omega) (fun c45 => ?_) (fun c45 => ?_)
      · have k3 := z_ite1 c45
        refine r_aload_n hV dX4_readRoad_52 rfl rfl ?_
        refine r_iload_n hV dX4_readRoad_53 rfl ?_
        refine s_iconst hV dX4_readRoad_54 (3) (by decide) ?_
        refine s_iadd hV dX4_readRoad_55 ?_
        refine q_iv1v hV dX4_readRoad_56 mv_X4_21 (m_figureAt I J P p1 tl htl htb T hT hTb (p + 3) (by unfold z_rg; omega)) (by first | decide | omega) (by first | rfl | assumption) (by decide) (Nat.le_refl _) (Nat.le_of_ble_eq_true rfl) ?_
        have fb3 := zfg_b (T := T) (tl := tl) (p := p + 3)
        refine r_istore hV dX4_readRoad_59 (Nat.le_of_ble_eq_true rfl) rfl ?_
        refine r_iload hV dX4_readRoad_61 rfl ?_
        refine s_if_ge hV 70 dX4_readRoad_63 (by decide) (by unfold z_rg; omega) (fun c63 => ?_) (fun c63 => ?_)
        · refine r_aload_n hV dX4_readRoad_70 rfl rfl ?_
          refine r_iload_n hV dX4_readRoad_71 rfl ?_
          refine s_iconst hV dX4_readRoad_72 (4) (by decide) ?_
          refine s_iadd hV dX4_readRoad_73 ?_
          refine q_iv1v hV dX4_readRoad_74 mv_X4_21 (m_figureAt I J P p1 tl htl htb T hT hTb (p + 4) (by unfold z_rg; omega)) (by first | decide | omega) (by first | rfl | assumption) (by decide) (Nat.le_refl _) (Nat.le_of_ble_eq_true rfl) ?_
          have fb4 := zfg_b (T := T) (tl := tl) (p := p + 4)
          refine r_istore hV dX4_readRoad_77 (Nat.le_of_ble_eq_true rfl) rfl ?_
          refine r_iload hV dX4_readRoad_79 rfl ?_
          refine s_if_lt hV 92 dX4_readRoad_81 (by decide) (by unfold z_rg; omega) (fun c81 => ?_) (fun c81 => ?_)
          · refine r_iload_n hV dX4_readRoad_92 rfl ?_
            refine s_iconst hV dX4_readRoad_93 (4) (by decide) ?_
            refine s_iadd hV dX4_readRoad_94 ?_
            refine r_iret hV dX4_readRoad_95 rfl rfl ?_
            have hF : f_rdF T tl n r R p = p + 4 := by
              unfold f_rdF
              rw [if_neg (not_not_intro k1), if_neg (not_not_intro k2), if_neg (not_not_intro k3), if_neg (by omega), if_pos (by omega)]
            refine ⟨by rw [hF], rfl, rfl, rfl, rfl, by rw [hF, if_neg (by omega)]; exact hr, rfl, by rw [hF, if_neg (by omega)]; exact hR, fun q _ _ => rfl⟩
          · refine r_iload hV dX4_readRoad_84 rfl ?_
            refine r_iload hV dX4_readRoad_86 rfl ?_
            refine s_iadd hV dX4_readRoad_88 ?_
            refine s_if_ne hV 96 dX4_readRoad_89 (by decide) (by unfold z_rg; omega) (fun c89 => ?_) (fun c89 => ?_)
            · refine r_aload_n hV dX4_readRoad_96 rfl rfl ?_
              refine r_iload_n hV dX4_readRoad_97 rfl ?_
              refine r_iload hV dX4_readRoad_98 rfl ?_
              refine r_iload hV dX4_readRoad_100 rfl ?_
              refine s_bipush hV dX4_readRoad_102 (10) (by decide) ?_
              refine s_imul hV dX4_readRoad_104 ?_
              refine r_iload hV dX4_readRoad_105 rfl ?_
              refine s_iadd hV dX4_readRoad_107 ?_
              refine r_iv3 hV dX4_readRoad_108 mv_X4_57 (m_addRoad I J P d hD n hn hnb r hr (zfg T tl (p + 1)) (by unfold z_rg; omega) (zfg T tl (p + 2)) (by unfold z_rg; omega) (zfg T tl (p + 3) * 10 + zfg T tl (p + 4)) R hR hRb k3) (by first | decide | omega) (by first | rfl | assumption) (by decide) (Nat.le_refl _) (Nat.le_of_ble_eq_true rfl) (fun v I1 J1 P1 hq => ?_)
              obtain ⟨rfl, rfl, rfl, e0, e1, e2, e3, e4, e5⟩ := hq
              show V 108 I1 J1 P1 _ _ []
              refine s_bipush hV dX4_readRoad_111 (-9) (by decide) ?_
              refine r_iret hV dX4_readRoad_113 rfl rfl ?_
              have hF : f_rdF T tl n r R p = -9 := by
                unfold f_rdF
                rw [if_neg (not_not_intro k1), if_neg (not_not_intro k2), if_neg (not_not_intro k3), if_neg (by omega), if_neg (by omega)]
              exact ⟨by rw [hF], rfl, rfl, e0, e1, by rw [hF, if_pos rfl]; exact e2, e3, by rw [hF, if_pos rfl]; exact e4, e5⟩
            · refine r_iload_n hV dX4_readRoad_92 rfl ?_
              refine s_iconst hV dX4_readRoad_93 (4) (by decide) ?_
              refine s_iadd hV dX4_readRoad_94 ?_
              refine r_iret hV dX4_readRoad_95 rfl rfl ?_
              have hF : f_rdF T tl n r R p = p + 4 := by
                unfold f_rdF
                rw [if_neg (not_not_intro k1), if_neg (not_not_intro k2), if_neg (not_not_intro k3), if_neg (by omega), if_pos (by omega)]
              refine ⟨by rw [hF], rfl, rfl, rfl, rfl, by rw [hF, if_neg (by omega)]; exact hr, rfl, by rw [hF, if_neg (by omega)]; exact hR, fun q _ _ => rfl⟩
        · refine r_iload_n hV dX4_readRoad_66 rfl ?_
          refine s_iconst hV dX4_readRoad_67 (3) (by decide) ?_
          refine s_iadd hV dX4_readRoad_68 ?_
          refine r_iret hV dX4_readRoad_69 rfl rfl ?_
          have hF : f_rdF T tl n r R p = p + 3 := by
            unfold f_rdF
            rw [if_neg (not_not_intro k1), if_neg (not_not_intro k2), if_neg (not_not_intro k3), if_pos (by omega)]
          refine ⟨by rw [hF], rfl, rfl, rfl, rfl, by rw [hF, if_neg (by omega)]; exact hr, rfl, by rw [hF, if_neg (by omega)]; exact hR, fun q _ _ => rfl⟩
      · refine r_iload_n hV dX4_readRoad_48 rfl ?_
        refine s_iconst hV dX4_readRoad_49 (2) (by decide) ?_
        refine s_iadd hV dX4_readRoad_50 ?_
        refine r_iret hV dX4_readRoad_51 rfl rfl ?_
        have hF : f_rdF T tl n r R p = p + 2 := by
          unfold f_rdF
          rw [if_neg (not_not_intro k1), if_neg (not_not_intro k2), if_pos (z_ite0 c45)]
        refine ⟨by rw [hF], rfl, rfl, rfl, rfl, by rw [hF, if_neg (by omega)]; exact hr, rfl, by rw [hF, if_neg (by omega)]; exact hR, fun q _ _ => rfl⟩
    · refine r_iload_n hV dX4_readRoad_25 rfl ?_
      refine s_iconst hV dX4_readRoad_26 (1) (by decide) ?_
      refine s_iadd hV dX4_readRoad_27 ?_
      refine r_iret hV dX4_readRoad_28 rfl rfl ?_
      have hF : f_rdF T tl n r R p = p + 1 := by
        unfold f_rdF
        rw [if_neg (not_not_intro k1), if_pos (z_ite0 c22)]
      refine ⟨by rw [hF], rfl, rfl, rfl, rfl, by rw [hF, if_neg (by omega)]; exact hr, rfl, by rw [hF, if_neg (by omega)]; exact hR, fun q _ _ => rfl⟩
  · refine r_iload_n hV dX4_readRoad_7 rfl ?_
    refine r_iret hV dX4_readRoad_8 rfl rfl ?_
    have hF : f_rdF T tl n r R p = p := by
      unfold f_rdF
      rw [if_pos (z_ite0 c4)]
    refine ⟨by rw [hF], rfl, rfl, rfl, rfl, by rw [hF, if_neg (by omega)]; exact hr, rfl, by rw [hF, if_neg (by omega)]; exact hR, fun q _ _ => rfl⟩

def f_erF (T : Int → Int) (tl n e p : Int) : Int := if ¬ (zsg T tl p = 69 ∧ e < 6) then p else if ¬ (0 ≤ zfg T tl (p + 1) ∧ zfg T tl (p + 1) < n) then p + 1 else if zfg T tl (p + 2) < 0 then p + 2 else if zfg T tl (p + 3) < 0 ∨ 2 < zfg T tl (p + 3) then p + 3 else -9
def q_er (I : zI) (J : zJ) (P : zP) (d : Nat) (F e : Int) (W U K : Int → Int) (x y z : Int) (v : Option Value) (I1 : zI) (J1 : zJ) (P1 : zP) : Prop := v = some (.int (iI F)) ∧ J1 = J ∧ P1 = P ∧ I1 d 0 = I d 0 ∧ I1 d 1 = I d 1 ∧ I1 d 2 = I d 2 ∧ I1 d 3 = iI (if F = -9 then e + 1 else e) ∧ z_ar I1 (d + 3) 6 (if F = -9 then zup W e x else W) ∧ z_ar I1 (d + 4) 6 (if F = -9 then zup U e y else U) ∧ z_ar I1 (d + 5) 6 (if F = -9 then zup K e z else K) ∧ ∀ q, q ≠ d → q ≠ d + 3 → q ≠ d + 4 → q ≠ d + 5 → I1 q = I q
set_option maxRecDepth 20000 in
theorem m_readErrand (I : zI) (J : zJ) (P : zP) (d : Nat) (hD : zDay P d) (p1 : P 1 0 = some 2) (tl : Int) (htl : I 1 1 = iI tl) (htb : 0 ≤ tl ∧ tl ≤ 80) (T : Int → Int) (hT : z_ar I 2 80 T) (hTb : z_bd T 80 0 255) (n : Int) (hn : I d 0 = iI n) (hnb : 0 ≤ n ∧ n ≤ 6) (e : Int) (he : I d 3 = iI e) (heb : 0 ≤ e ∧ e ≤ 6) (W U K : Int → Int) (hW : z_ar I (d + 3) 6 W) (hU : z_ar I (d + 4) 6 U) (hK : z_ar I (d + 5) 6 K) (p : Int) (hp : 0 ≤ p ∧ p ≤ 80) : z_Sp 2 yX4_readErrand cX4_readErrand 6 (some .int) 108 108 I J P [.ref 1, .ref d, .int (iI p)] (q_er I J P d (f_erF T tl n e p) e W U K (zfg T tl (p + 1)) (zfg T tl (p + 2)) (zfg T tl (p + 3))) := by
  obtain ⟨hd, p4, p5, p6, p7, p8⟩ := id hD
  obtain ⟨hlt, s0, s1, s2, s3, s4, s5⟩ := zDay_s hD
  refine z_met false (by decide +kernel) (fun h => by cases h) (Nat.le_of_ble_eq_true rfl) (by first | decide | omega) (fun V hV => ?_)
  show V 108 I J P 0 [.ref 1, .ref d, .int (iI p), .null, .null, .null] []
  refine r_aload_n hV dX4_readErrand_0 rfl rfl ?_
  refine r_iload_n hV dX4_readErrand_1 rfl ?_
  refine q_iv1v hV dX4_readErrand_2 mv_X4_31 (m_signAt I J P p1 tl htl htb T hT hTb (p) (by unfold z_rg; omega)) (by first | decide | omega) (by first | rfl | assumption) (by decide) (Nat.le_refl _) (Nat.le_of_ble_eq_true rfl) ?_
  have hsb := zsg_b (p := p) hTb htb.2
  refine s_bipush hV dX4_readErrand_5 (69) (by decide) ?_
  refine s_icmp_ne hV 17 dX4_readErrand_7 (by decide) (by unfold z_rg; omega) (by unfold z_rg; omega) (fun c7 => ?_) (fun c7 => ?_)
  · refine r_iload_n hV dX4_readErrand_17 rfl ?_
    refine r_iret hV dX4_readErrand_18 rfl rfl ?_
    have hF : f_erF T tl n e p = p := by
      unfold f_erF
      rw [if_pos (by omega)]
    refine ⟨by rw [hF], rfl, rfl, rfl, rfl, rfl, by rw [hF, if_neg (by omega)]; exact he, by rw [hF, if_neg (by omega)]; exact hW, by rw [hF, if_neg (by omega)]; exact hU, by rw [hF, if_neg (by omega)]; exact hK, fun q _ _ _ _ => rfl⟩
  · refine r_aload_n hV dX4_readErrand_10 rfl rfl ?_
    refine q_iv0v hV dX4_readErrand_11 mv_X4_61 (m_hasRoomForErrand I J P d hD e he heb) (by first | decide | omega) (by first | rfl | assumption) (by decide) (Nat.le_refl _) (Nat.le_of_ble_eq_true rfl) ?_
    refine s_if_ne hV 19 dX4_readErrand_14 (by decide) (by unfold z_rg; omega) (fun c14 => ?_) (fun c14 => ?_)
    · refine r_aload_n hV dX4_readErrand_19 rfl rfl ?_
      refine r_iload_n hV dX4_readErrand_20 rfl ?_
      refine s_iconst hV dX4_readErrand_21 (1) (by decide) ?_
      refine s_iadd hV dX4_readErrand_22 ?_
      refine q_iv1v hV dX4_readErrand_23 mv_X4_21 (m_figureAt I J P p1 tl htl htb T hT hTb (p + 1) (by unfold z_rg; omega)) (by first | decide | omega) (by first | rfl | assumption) (by decide) (Nat.le_refl _) (Nat.le_of_ble_eq_true rfl) ?_
      have fb1 := zfg_b (T := T) (tl := tl) (p := p + 1)
      refine r_istore_n hV dX4_readErrand_26 (Nat.le_of_ble_eq_true rfl) rfl ?_
      refine r_aload_n hV dX4_readErrand_27 rfl rfl ?_
      refine r_iload_n hV dX4_readErrand_28 rfl ?_
      refine q_iv1v hV dX4_readErrand_29 mv_X4_64 (m_isPlace I J P d hD n hn hnb (zfg T tl (p + 1)) (by unfold z_rg; omega)) (by first | decide | omega) (by first | rfl | assumption) (by decide) (Nat.le_refl _) (Nat.le_of_ble_eq_true rfl) ?_
      refine s_if_ne hV 39 dX4_readErrand_32 (by decide) (by unfold z_rg; omega) (fun c32 => ?_) (fun c32 => ?_)
      · refine r_aload_n hV dX4_readErrand_39 rfl rfl ?_
        refine r_iload_n hV dX4_readErrand_40 rfl ?_
        refine s_iconst hV dX4_readErrand_41 (2) (by decide) ?_
        refine s_iadd hV dX4_readErrand_42 ?_
        refine q_iv1v hV dX4_readErrand_43 mv_X4_21 (m_figureAt I J P p1 tl htl htb T hT hTb (p + 2) (by unfold z_rg; omega)) (by first | decide | omega) (by first | rfl | assumption) (by decide) (Nat.le_refl _) (Nat.le_of_ble_eq_true rfl) ?_
        have fb2 := zfg_b (T := T) (tl := tl) (p := p + 2)
        refine r_istore hV dX4_readErrand_46 (Nat.le_of_ble_eq_true rfl) rfl ?_
        refine r_iload hV dX4_readErrand_48 rfl ?_
        refine s_if_ge hV 57 dX4_readErrand_50 (by decide) (by unfold z_rg; omega) (fun c50 => ?_) (fun c50 => ?_)
        · refine r_aload_n hV dX4_readErrand_57 rfl rfl ?_
          refine r_iload_n hV dX4_readErrand_58 rfl ?_
          refine s_iconst hV dX4_readErrand_59 (3) (by decide) ?_
          refine s_iadd hV dX4_readErrand_60 ?_
          refine q_iv1v hV dX4_readErrand_61 mv_X4_21 (m_figureAt I J P p1 tl htl htb T hT hTb (p + 3) (by unfold z_rg; omega)) (by first | decide | omega) (by first | rfl | assumption) (by decide) (Nat.le_refl _) (Nat.le_of_ble_eq_true rfl) ?_
          have fb3 := zfg_b (T := T) (tl := tl) (p := p + 3)
          refine r_istore hV dX4_readErrand_64 (Nat.le_of_ble_eq_true rfl) rfl ?_
          refine r_iload hV dX4_readErrand_66 rfl ?_
          refine s_if_lt hV 77 dX4_readErrand_68 (by decide) (by unfold z_rg; omega) (fun c68 => ?_) (fun c68 => ?_)
          · refine r_iload_n hV dX4_readErrand_77 rfl ?_
            refine s_iconst hV dX4_readErrand_78 (3) (by decide) ?_
            refine s_iadd hV dX4_readErrand_79 ?_
            refine r_iret hV dX4_readErrand_80 rfl rfl ?_
            have hF : f_erF T tl n e p = p + 3 := by
              unfold f_erF
              rw [if_neg (by omega), if_neg (by omega), if_neg (by omega), if_pos (by omega)]
            refine ⟨by rw [hF], rfl, rfl, rfl, rfl, rfl, by rw [hF, if_neg (by omega)]; exact he, by rw [hF, if_neg (by omega)]; exact hW, by rw [hF, if_neg (by omega)]; exact hU, by rw [hF, if_neg (by omega)]; exact hK, fun q _ _ _ _ => rfl⟩
          · refine r_iload hV dX4_readErrand_71 rfl ?_
            refine s_iconst hV dX4_readErrand_73 (2) (by decide) ?_
            refine s_icmp_le hV 81 dX4_readErrand_74 (by decide) (by unfold z_rg; omega) (by unfold z_rg; omega) (fun c74 => ?_) (fun c74 => ?_)
            · refine r_aload_n hV dX4_readErrand_81 rfl rfl ?_
              refine r_iload_n hV dX4_readErrand_82 rfl ?_
              refine r_iload hV dX4_readErrand_83 rfl ?_
              refine r_iload hV dX4_readErrand_85 rfl ?_
              refine r_iv3 hV dX4_readErrand_87 mv_X4_67 (m_addErrand I J P d hD e he heb (by omega) (zfg T tl (p + 1)) (zfg T tl (p + 2)) (zfg T tl (p + 3)) W U K hW hU hK) (by first | decide | omega) (by first | rfl | assumption) (by decide) (Nat.le_refl _) (Nat.le_of_ble_eq_true rfl) (fun v I1 J1 P1 hq => ?_)
              obtain ⟨rfl, rfl, rfl, e0, e1, e2, e3, e4, e5, e6, e7⟩ := hq
              show V 108 I1 J1 P1 _ _ []
              refine s_bipush hV dX4_readErrand_90 (-9) (by decide) ?_
              refine r_iret hV dX4_readErrand_92 rfl rfl ?_
              have hF : f_erF T tl n e p = -9 := by
                unfold f_erF
                rw [if_neg (by omega), if_neg (by omega), if_neg (by omega), if_neg (by omega)]
              exact ⟨by rw [hF], rfl, rfl, e0, e1, e2, by rw [hF, if_pos rfl]; exact e3, by rw [hF, if_pos rfl]; exact e4, by rw [hF, if_pos rfl]; exact e5, by rw [hF, if_pos rfl]; exact e6, e7⟩
            · refine r_iload_n hV dX4_readErrand_77 rfl ?_
              refine s_iconst hV dX4_readErrand_78 (3) (by decide) ?_
              refine s_iadd hV dX4_readErrand_79 ?_
              refine r_iret hV dX4_readErrand_80 rfl rfl ?_
              have hF : f_erF T tl n e p = p + 3 := by
                unfold f_erF
                rw [if_neg (by omega), if_neg (by omega), if_neg (by omega), if_pos (by omega)]
              refine ⟨by rw [hF], rfl, rfl, rfl, rfl, rfl, by rw [hF, if_neg (by omega)]; exact he, by rw [hF, if_neg (by omega)]; exact hW, by rw [hF, if_neg (by omega)]; exact hU, by rw [hF, if_neg (by omega)]; exact hK, fun q _ _ _ _ => rfl⟩
        · refine r_iload_n hV dX4_readErrand_53 rfl ?_
          refine s_iconst hV dX4_readErrand_54 (2) (by decide) ?_
          refine s_iadd hV dX4_readErrand_55 ?_
          refine r_iret hV dX4_readErrand_56 rfl rfl ?_
          have hF : f_erF T tl n e p = p + 2 := by
            unfold f_erF
            rw [if_neg (by omega), if_neg (by omega), if_pos (by omega)]
          refine ⟨by rw [hF], rfl, rfl, rfl, rfl, rfl, by rw [hF, if_neg (by omega)]; exact he, by rw [hF, if_neg (by omega)]; exact hW, by rw [hF, if_neg (by omega)]; exact hU, by rw [hF, if_neg (by omega)]; exact hK, fun q _ _ _ _ => rfl⟩
      · refine r_iload_n hV dX4_readErrand_35 rfl ?_
        refine s_iconst hV dX4_readErrand_36 (1) (by decide) ?_
        refine s_iadd hV dX4_readErrand_37 ?_
        refine r_iret hV dX4_readErrand_38 rfl rfl ?_
        have hF : f_erF T tl n e p = p + 1 := by
          unfold f_erF
          rw [if_neg (by omega), if_pos (by omega)]
        refine ⟨by rw [hF], rfl, rfl, rfl, rfl, rfl, by rw [hF, if_neg (by omega)]; exact he, by rw [hF, if_neg (by omega)]; exact hW, by rw [hF, if_neg (by omega)]; exact hU, by rw [hF, if_neg (by omega)]; exact hK, fun q _ _ _ _ => rfl⟩
    · refine r_iload_n hV dX4_readErrand_17 rfl ?_
      refine r_iret hV dX4_readErrand_18 rfl rfl ?_
      have hF : f_erF T tl n e p = p := by
        unfold f_erF
        rw [if_pos (by omega)]
      refine ⟨by rw [hF], rfl, rfl, rfl, rfl, rfl, by rw [hF, if_neg (by omega)]; exact he, by rw [hF, if_neg (by omega)]; exact hW, by rw [hF, if_neg (by omega)]; exact hU, by rw [hF, if_neg (by omega)]; exact hK, fun q _ _ _ _ => rfl⟩
