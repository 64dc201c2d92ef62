abbrev zPR : Type := Int × Int × Int × (Int → Int) × (Int → Int) × (Int → Int) × (Int → Int)
/-- reading part by part from place p on: the first fault (-9: none), and what is read: roads, errands, lengths, places, worths, kinds -/
def f_parse (T : Int → Int) (tl n : Int) : Nat → Int → Int → Int → (Int → Int) → (Int → Int) → (Int → Int) → (Int → Int) → zPR
  | 0, _, r, e, R, W, U, K => (-9, r, e, R, W, U, K)
  | k + 1, p, r, e, R, W, U, K => if tl ≤ p then (-9, r, e, R, W, U, K) else if zsg T tl p = 82 then (if f_rdF T tl n r R p = -9 then f_parse T tl n k (p + 5) (r + 1) e (f_rdR T tl R p) W U K else (f_rdF T tl n r R p, r, e, R, W, U, K))
    else (if f_erF T tl n e p = -9 then f_parse T tl n k (p + 4) r (e + 1) R (zup W e (zfg T tl (p + 1))) (zup U e (zfg T tl (p + 2))) (zup K e (zfg T tl (p + 3))) else (f_erF T tl n e p, r, e, R, W, U, K))
def f_st (T : Int → Int) (tl : Int) : Int := zfg T tl 1 * 100 + zfg T tl 2 * 10 + zfg T tl 3
/-- the Day's cells as read -/
def q_cells (I1 : zI) (d : Nat) (n st r e : Int) (R W U K : Int → Int) : Prop := I1 d 0 = iI n ∧ I1 d 1 = iI st ∧ I1 d 2 = iI r ∧ I1 d 3 = iI e ∧ z_ar I1 (d + 1) 36 R ∧ z_ar I1 (d + 3) 6 W ∧ z_ar I1 (d + 4) 6 U ∧ z_ar I1 (d + 5) 6 K
def q_bds (r e : Int) (R W U K : Int → Int) : Prop := (0 ≤ r ∧ r ≤ 10) ∧ (0 ≤ e ∧ e ≤ 6) ∧ z_bd R 36 0 99 ∧ z_bd W 6 0 5 ∧ z_bd U 6 0 9 ∧ z_bd K 6 0 2
def q_out (I I1 : zI) (d : Nat) : Prop := ∀ q, (q < d ∨ d + 5 < q) → I1 q = I q
def q_ff (T : Int → Int) (tl : Int) (I : zI) (J : zJ) (P : zP) (d : Nat) (W U K : Int → Int) (v : Option Value) (I1 : zI) (J1 : zJ) (P1 : zP) : Prop := J1 = J ∧ P1 = P ∧ ((¬ f_hf T tl = -9 ∧ v = some (.int (iI (f_hf T tl))) ∧ I1 = I) ∨ (f_hf T tl = -9 ∧ 2 ≤ zfg T tl 4 ∧ zfg T tl 4 ≤ 6 ∧ ∃ F r e R' W' U' K', f_parse T tl (zfg T tl 4) 81 5 0 0 (fun _ => 0) W U K = (F, r, e, R', W', U', K') ∧ v = some (.int (iI F)) ∧ q_cells I1 d (zfg T tl 4) (f_st T tl) r e R' W' U' K' ∧ q_bds r e R' W' U' K' ∧ q_out I I1 d))
theorem f_rd_ok {T : Int → Int} {tl n r : Int} {R : Int → Int} {p : Int} (h : f_rdF T tl n r R p = -9) (hp : 0 ≤ p) : (r < 10 ∧ r < n * (n - 1) / 2) ∧ ((0 ≤ zfg T tl (p + 1) ∧ zfg T tl (p + 1) < n) ∧ (0 ≤ zfg T tl (p + 2) ∧ zfg T tl (p + 2) < n)) ∧ (¬ zfg T tl (p + 1) = zfg T tl (p + 2) ∧ R (zfg T tl (p + 1) * 6 + zfg T tl (p + 2)) = 0) ∧ 0 ≤ zfg T tl (p + 3) ∧ 0 ≤ zfg T tl (p + 4) ∧ ¬ zfg T tl (p + 3) + zfg T tl (p + 4) = 0 := by
  unfold f_rdF at h
  by_cases k1 : r < 10 ∧ r < n * (n - 1) / 2
  · rw [if_neg (not_not_intro k1)] at h
    by_cases k2 : zany (f_fr n R (zfg T tl (p + 1))) n.toNat = true
    · rw [if_neg (not_not_intro k2)] at h
      split at h
      · omega
      · next k3 =>
        have k3 := Classical.not_not.mp k3
        split at h
        · omega
        · split at h
          · omega
          · exact ⟨k1, k3.1, k3.2, by omega, by omega, by omega⟩
    · rw [if_pos k2] at h; omega
  · rw [if_pos k1] at h; omega
theorem f_er_ok {T : Int → Int} {tl n e p : Int} (h : f_erF T tl n e p = -9) (hp : 0 ≤ p) : (zsg T tl p = 69 ∧ e < 6) ∧ (0 ≤ zfg T tl (p + 1) ∧ zfg T tl (p + 1) < n) ∧ 0 ≤ zfg T tl (p + 2) ∧ 0 ≤ zfg T tl (p + 3) ∧ zfg T tl (p + 3) ≤ 2 := by
  unfold f_erF at h
  split at h
  · omega
  · split at h
    · omega
    · split at h
      · omega
      · split at h
        · omega
        · omega
theorem q_bds_rd {T : Int → Int} {tl n r e : Int} {R W U K : Int → Int} {p : Int} (h : f_rdF T tl n r R p = -9) (hp : 0 ≤ p) (hn : n ≤ 6) (hb : q_bds r e R W U K) : q_bds (r + 1) e (f_rdR T tl R p) W U K := by
  obtain ⟨h1, h2, h3, h4, h5, h6⟩ := f_rd_ok h hp
  obtain ⟨b1, b2, b3, b4⟩ := hb
  have f3 := zfg_b (T := T) (tl := tl) (p := p + 3)
  have f4 := zfg_b (T := T) (tl := tl) (p := p + 4)
  exact ⟨by omega, b2, z_bd_up (z_bd_up b3 (by omega) (by omega)) (by omega) (by omega), b4⟩
theorem q_bds_er {T : Int → Int} {tl n r e : Int} {R W U K : Int → Int} {p : Int} (h : f_erF T tl n e p = -9) (hp : 0 ≤ p) (hn : n ≤ 6) (hb : q_bds r e R W U K) : q_bds r (e + 1) R (zup W e (zfg T tl (p + 1))) (zup U e (zfg T tl (p + 2))) (zup K e (zfg T tl (p + 3))) := by
  obtain ⟨h1, h2, h3, h4, h5⟩ := f_er_ok h hp
  obtain ⟨b1, b2, b3, b4, b5, b6⟩ := hb
  have f3 := zfg_b (T := T) (tl := tl) (p := p + 2)
  exact ⟨b1, by omega, b3, z_bd_up b4 (by omega) (by omega), z_bd_up b5 (by omega) (by omega), z_bd_up b6 (by omega) (by omega)⟩
set_option maxRecDepth 20000 in
theorem m_firstFault (I : zI) (J : zJ) (P : zP) (d : Nat) (hD : zDay P d) (p1 : P 1 0 = some 2) (tl : Int) (htl : I 1 1 = iI tl) (htb : 0 ≤ tl ∧ tl ≤ 80) (T : Int → Int) (hT : z_ar I 2 80 T) (hTb : z_bd T 80 0 255) (W0 U0 K0 : Int → Int) (hW0 : z_ar I (d + 3) 6 W0) (hU0 : z_ar I (d + 4) 6 U0) (hK0 : z_ar I (d + 5) 6 K0) (hW0b : z_bd W0 6 0 5) (hU0b : z_bd U0 6 0 9) (hK0b : z_bd K0 6 0 2) : z_Sp 5 yX4_firstFault cX4_firstFault 8 (some .int) 108 108 I J P [.ref 1, .ref d] (q_ff T tl I J P d W0 U0 K0) := by
  obtain ⟨hd, p4, p5, p6, p7, p8⟩ := id hD
  obtain ⟨hlt, s0, s1, s2, s3, s4, s5⟩ := zDay_s hD
  refine z_met false (by decide +kernel) (fun h => by cases h) (Nat.le_of_ble_eq_true rfl) (by first | decide | omega) (fun V hV => ?_)
  show V 108 I J P 0 [.ref 1, .ref d, .null, .null, .null, .null, .null, .null] []
  refine r_aload_n hV dX4_firstFault_0 rfl rfl ?_
  refine q_iv0v hV dX4_firstFault_1 mv_X4_9 (m_size I J P tl htl htb) (by first | decide | omega) (by first | rfl | assumption) (by decide) (Nat.le_refl _) (Nat.le_of_ble_eq_true rfl) ?_
  refine r_istore_n hV dX4_firstFault_4 (Nat.le_of_ble_eq_true rfl) rfl ?_
  refine r_aload_n hV dX4_firstFault_5 rfl rfl ?_
  refine q_is1v hV dX4_firstFault_6 ms_X4_15 (m_headFault I J P p1 tl htl htb T hT hTb) (by decide) (Nat.le_refl _) (Nat.le_of_ble_eq_true rfl) ?_
  have hhb : -9 ≤ f_hf T tl ∧ f_hf T tl ≤ 4 := by unfold f_hf; (repeat' split) <;> omega
  refine r_istore_n hV dX4_firstFault_9 (Nat.le_of_ble_eq_true rfl) rfl ?_
  refine r_iload_n hV dX4_firstFault_10 rfl ?_
  refine s_bipush hV dX4_firstFault_11 (-9) (by decide) ?_
  refine s_icmp_eq hV 18 dX4_firstFault_13 (by decide) (by unfold z_rg; omega) (by unfold z_rg; omega) (fun c13 => ?_) (fun c13 => ?_)
  · have hh : 0 ≤ zfg T tl 1 ∧ 0 ≤ zfg T tl 2 ∧ 0 ≤ zfg T tl 3 ∧ 2 ≤ zfg T tl 4 ∧ zfg T tl 4 ≤ 6 := by
      have c13 := c13
      unfold f_hf at c13
      (repeat' split at c13) <;> omega
    refine r_aload_n hV dX4_firstFault_18 rfl rfl ?_
    refine s_iconst hV dX4_firstFault_19 (1) (by decide) ?_
    refine q_iv1v hV dX4_firstFault_20 mv_X4_21 (m_figureAt I J P p1 tl htl htb T hT hTb (1) (by unfold z_rg; omega)) (by first | decide | omega) (by first | rfl | assumption) (by decide) (Nat.le_refl _) (Nat.le_of_ble_eq_true rfl) ?_
    have g1 := zfg_b (T := T) (tl := tl) (p := 1)
    refine s_bipush hV dX4_firstFault_23 (100) (by decide) ?_
    refine s_imul hV dX4_firstFault_25 ?_
    refine r_aload_n hV dX4_firstFault_26 rfl rfl ?_
    refine s_iconst hV dX4_firstFault_27 (2) (by decide) ?_
    refine q_iv1v hV dX4_firstFault_28 mv_X4_21 (m_figureAt I J P p1 tl htl htb T hT hTb (2) (by unfold z_rg; omega)) (by first | decide | omega) (by first | rfl | assumption) (by decide) (Nat.le_refl _) (Nat.le_of_ble_eq_true rfl) ?_
    have g2 := zfg_b (T := T) (tl := tl) (p := 2)
    refine s_bipush hV dX4_firstFault_31 (10) (by decide) ?_
    refine s_imul hV dX4_firstFault_33 ?_
    refine s_iadd hV dX4_firstFault_34 ?_
    refine r_aload_n hV dX4_firstFault_35 rfl rfl ?_
    refine s_iconst hV dX4_firstFault_36 (3) (by decide) ?_
    refine q_iv1v hV dX4_firstFault_37 mv_X4_21 (m_figureAt I J P p1 tl htl htb T hT hTb (3) (by unfold z_rg; omega)) (by first | decide | omega) (by first | rfl | assumption) (by decide) (Nat.le_refl _) (Nat.le_of_ble_eq_true rfl) ?_
    have g3 := zfg_b (T := T) (tl := tl) (p := 3)
    refine s_iadd hV dX4_firstFault_40 ?_
    refine r_istore hV dX4_firstFault_41 (Nat.le_of_ble_eq_true rfl) rfl ?_
    refine r_aload_n hV dX4_firstFault_43 rfl rfl ?_
    refine r_aload_n hV dX4_firstFault_44 rfl rfl ?_
    refine s_iconst hV dX4_firstFault_45 (4) (by decide) ?_
    refine q_iv1v hV dX4_firstFault_46 mv_X4_21 (m_figureAt I J P p1 tl htl htb T hT hTb (4) (by unfold z_rg; omega)) (by first | decide | omega) (by first | rfl | assumption) (by decide) (Nat.le_refl _) (Nat.le_of_ble_eq_true rfl) ?_
    refine r_iload hV dX4_firstFault_49 rfl ?_
    refine r_iv2 hV dX4_firstFault_51 mv_X4_25 (m_dbegin 108 I J P d (by omega) p4 s0 s1 (zfg T tl 4) _ (by omega)) (by first | decide | omega) (by first | rfl | assumption) (by decide) (Nat.le_refl _) (Nat.le_of_ble_eq_true rfl) (fun v I1 J1 P1 hq => ?_)
    obtain ⟨rfl, ej, ep, e0, e1, e2, e3, e4, e5⟩ := hq
    rw [ej, ep]
    have hc0 : q_cells I1 d (zfg T tl 4) (f_st T tl) 0 0 (fun _ => 0) W0 U0 K0 := ⟨e0, e1, e2, e3, e4, z_ar_fr hW0 (e5 _ (by omega) (by omega)), z_ar_fr hU0 (e5 _ (by omega) (by omega)), z_ar_fr hK0 (e5 _ (by omega) (by omega))⟩
    have ho0 : q_out I I1 d := fun q h => e5 q (by omega) (by omega)
    show V 108 I1 J P _ [.ref 1, .ref d, .int (iI tl), .int (iI (f_hf T tl)), .int (iI (f_st T tl)), .null, .null, .null] []
    refine s_iconst hV dX4_firstFault_54 (5) (by decide) ?_
    refine r_istore hV dX4_firstFault_55 (Nat.le_of_ble_eq_true rfl) rfl ?_
    refine s_iconst hV dX4_firstFault_57 (5) (by decide) ?_
    refine r_istore hV dX4_firstFault_58 (Nat.le_of_ble_eq_true rfl) rfl ?_
    have L60 : ∀ (k : Nat) (p r e : Int) (R W U K : Int → Int) (I1 : zI), f_parse T tl (zfg T tl 4) k p r e R W U K = f_parse T tl (zfg T tl 4) 81 5 0 0 (fun _ => 0) W0 U0 K0 → (tl - p).toNat < k → 0 ≤ p → p ≤ 85 → q_cells I1 d (zfg T tl 4) (f_st T tl) r e R W U K → q_bds r e R W U K → q_out I I1 d → V 108 I1 J P 60 [.ref 1, .ref d, .int (iI tl), .null, .int (iI (f_st T tl)), .null, .int (iI p), .null] [] := by
      intro k
      induction k with
      | zero => intro p r e R W U K I1 _ hk; omega
      | succ k ih60 =>
        intro p r e R W U K I1 hres hk hp0 hp1 hc hb ho
        obtain ⟨hn, hst1, hr, he, hR, hW, hU, hK⟩ := id hc
        obtain ⟨hrb, heb, hRb, hWb, hUb, hKb⟩ := id hb
        have o1 : I1 1 = I 1 := ho 1 (by omega)
        have o2 : I1 2 = I 2 := ho 2 (by omega)
        have htl1 : I1 1 1 = iI tl := (congrFun o1 1).trans htl
        have hT1 : z_ar I1 2 80 T := z_ar_fr hT o2
        have hsb := zsg_b (p := p) hTb htb.2
        refine r_iload hV dX4_firstFault_60 rfl ?_
        refine r_iload_n hV dX4_firstFault_62 rfl ?_
        refine s_icmp_ge hV 137 dX4_firstFault_63 (by decide) (by unfold z_rg; omega) (by unfold z_rg; omega) (fun c63 => ?_) (fun c63 => ?_)
        · refine s_bipush hV dX4_firstFault_137 (-9) (by decide) ?_
          refine r_iret hV dX4_firstFault_139 rfl rfl ?_
          exact ⟨rfl, rfl, Or.inr ⟨c13, by omega, by omega, _, _, _, _, _, _, _, hres.symm.trans (by rw [f_parse, if_pos (by omega)]), rfl, hc, hb, ho⟩⟩
        · have frd : -9 ≤ f_rdF T tl (zfg T tl 4) r R p ∧ f_rdF T tl (zfg T tl 4) r R p ≤ 100 := by unfold f_rdF; (repeat' split) <;> omega
          have fer : -9 ≤ f_erF T tl (zfg T tl 4) e p ∧ f_erF T tl (zfg T tl 4) e p ≤ 100 := by unfold f_erF; (repeat' split) <;> omega
          refine r_aload_n hV dX4_firstFault_66 rfl rfl ?_
          refine r_iload hV dX4_firstFault_67 rfl ?_
          refine q_iv1v hV dX4_firstFault_69 mv_X4_31 (m_signAt I1 J P p1 tl htl1 htb T hT1 hTb p (by unfold z_rg; omega)) (by first | decide | omega) (by first | rfl | assumption) (by decide) (Nat.le_refl _) (Nat.le_of_ble_eq_true rfl) ?_
          refine s_bipush hV dX4_firstFault_72 (82) (by decide) ?_
          refine s_icmp_ne hV 81 dX4_firstFault_74 (by decide) (by unfold z_rg; omega) (by unfold z_rg; omega) (fun c74 => ?_) (fun c74 => ?_)
          · refine s_iconst hV dX4_firstFault_81 (0) (by decide) ?_
            refine r_istore hV dX4_firstFault_82 (Nat.le_of_ble_eq_true rfl) rfl ?_
            refine r_iload hV dX4_firstFault_84 rfl ?_
            refine s_if_eq hV 93 dX4_firstFault_86 (by decide) (by unfold z_rg; omega) (fun _ => ?_) (fun c86 => absurd (by decide) c86)
            refine s_iconst hV dX4_firstFault_93 (4) (by decide) ?_
            refine r_istore hV dX4_firstFault_94 (Nat.le_of_ble_eq_true rfl) rfl ?_
            refine r_iload hV dX4_firstFault_96 rfl ?_
            refine s_if_eq hV 111 dX4_firstFault_98 (by decide) (by unfold z_rg; omega) (fun _ => ?_) (fun c98 => absurd (by decide) c98)
            refine r_aload_n hV dX4_firstFault_111 rfl rfl ?_
            refine r_aload_n hV dX4_firstFault_112 rfl rfl ?_
            refine r_iload hV dX4_firstFault_113 rfl ?_
            refine r_is3 hV dX4_firstFault_115 ms_X4_38 (m_readErrand I1 J P d hD p1 tl htl1 htb T hT1 hTb (zfg T tl 4) hn (by omega) e he (by omega) W U K hW hU hK p (by omega)) (by decide) (Nat.le_refl _) (Nat.le_of_ble_eq_true rfl) (fun v I3 J3 P3 hq => ?_)
            obtain ⟨rfl, ej, ep, e0, e1, e2, e3, e4, e5, e6, e7⟩ := hq
            rw [ej, ep]
            show V 108 I3 J P _ _ [.int _]
            refine r_istore_n hV dX4_firstFault_118 (Nat.le_of_ble_eq_true rfl) rfl ?_
            refine r_iload_n hV dX4_firstFault_119 rfl ?_
            refine s_bipush hV dX4_firstFault_120 (-9) (by decide) ?_
            refine s_icmp_eq hV 127 dX4_firstFault_122 (by decide) (by unfold z_rg; omega) (by unfold z_rg; omega) (fun cF => ?_) (fun cF => ?_)
            · first
                | (have hres3 : f_parse T tl (zfg T tl 4) k (p + 5) (r + 1) e (f_rdR T tl R p) W U K = f_parse T tl (zfg T tl 4) 81 5 0 0 (fun _ => 0) W0 U0 K0 := by
                     rw [f_parse, if_neg (by omega), if_pos (by omega), if_pos cF] at hres; exact hres
                   have hc3 : q_cells I3 d (zfg T tl 4) (f_st T tl) (r + 1) e (f_rdR T tl R p) W U K := ⟨e0.trans hn, e1.trans hst1, by rw [e2, if_pos cF], e3.trans he, by rw [if_pos cF] at e4; exact e4, z_ar_fr hW (e5 _ (by omega) (by omega)), z_ar_fr hU (e5 _ (by omega) (by omega)), z_ar_fr hK (e5 _ (by omega) (by omega))⟩
                   have hb3 := q_bds_rd cF hp0 (by omega) hb
                   have ho3 : q_out I I3 d := fun q h => (e5 q (by omega) (by omega)).trans (ho q h))
                | (have hres3 : f_parse T tl (zfg T tl 4) k (p + 4) r (e + 1) R (zup W e (zfg T tl (p + 1))) (zup U e (zfg T tl (p + 2))) (zup K e (zfg T tl (p + 3))) = f_parse T tl (zfg T tl 4) 81 5 0 0 (fun _ => 0) W0 U0 K0 := by
                     rw [f_parse, if_neg (by omega), if_neg (by omega), if_pos cF] at hres; exact hres
                   have hc3 : q_cells I3 d (zfg T tl 4) (f_st T tl) r (e + 1) R (zup W e (zfg T tl (p + 1))) (zup U e (zfg T tl (p + 2))) (zup K e (zfg T tl (p + 3))) := ⟨e0.trans hn, e1.trans hst1, e2.trans hr, by rw [e3, if_pos cF], z_ar_fr hR (e7 _ (by omega) (by omega) (by omega) (by omega)), by rw [if_pos cF] at e4; exact e4, by rw [if_pos cF] at e5; exact e5, by rw [if_pos cF] at e6; exact e6⟩
                   have hb3 := q_bds_er cF hp0 (by omega) hb
                   have ho3 : q_out I I3 d := fun q h => (e7 q (by omega) (by omega) (by omega) (by omega)).trans (ho q h))
              refine r_iload hV dX4_firstFault_127 rfl ?_
              refine r_iload hV dX4_firstFault_129 rfl ?_
              refine s_iadd hV dX4_firstFault_131 ?_
              refine r_istore hV dX4_firstFault_132 (Nat.le_of_ble_eq_true rfl) rfl ?_
              refine r_goto hV 60 dX4_firstFault_134 (by decide) ?_
              refine r_kill hV 3 rfl ?_
              refine r_kill hV 5 rfl ?_
              refine r_kill hV 7 rfl ?_
              exact ih60 _ _ _ _ _ _ _ _ hres3 (by omega) (by omega) (by omega) hc3 hb3 ho3
            · refine r_iload_n hV dX4_firstFault_125 rfl ?_
              refine r_iret hV dX4_firstFault_126 rfl rfl ?_
              first
                | (refine ⟨rfl, rfl, Or.inr ⟨c13, by omega, by omega, _, _, _, _, _, _, _, hres.symm.trans ?_, rfl, ⟨e0.trans hn, e1.trans hst1, by rw [e2, if_neg cF], e3.trans he, by rw [if_neg cF] at e4; exact e4, z_ar_fr hW (e5 _ (by omega) (by omega)), z_ar_fr hU (e5 _ (by omega) (by omega)), z_ar_fr hK (e5 _ (by omega) (by omega))⟩, hb, fun q h => (e5 q (by omega) (by omega)).trans (ho q h)⟩⟩
                   rw [f_parse, if_neg (by omega), if_pos (by omega), if_neg cF])
                | (refine ⟨rfl, rfl, Or.inr ⟨c13, by omega, by omega, _, _, _, _, _, _, _, hres.symm.trans ?_, rfl, ⟨e0.trans hn, e1.trans hst1, e2.trans hr, by rw [e3, if_neg cF], z_ar_fr hR (e7 _ (by omega) (by omega) (by omega) (by omega)), by rw [if_neg cF] at e4; exact e4, by rw [if_neg cF] at e5; exact e5, by rw [if_neg cF] at e6; exact e6⟩, hb, fun q h => (e7 q (by omega) (by omega) (by omega) (by omega)).trans (ho q h)⟩⟩
                   rw [f_parse, if_neg (by omega), if_neg (by omega), if_neg cF])
          · refine s_iconst hV dX4_firstFault_77 (1) (by decide) ?_
            refine r_goto hV 82 dX4_firstFault_78 (by decide) ?_
            refine r_istore hV dX4_firstFault_82 (Nat.le_of_ble_eq_true rfl) rfl ?_
            refine r_iload hV dX4_firstFault_84 rfl ?_
            refine s_if_eq hV 93 dX4_firstFault_86 (by decide) (by unfold z_rg; omega) (fun c86 => absurd c86 (by decide)) (fun _ => ?_)
            refine s_iconst hV dX4_firstFault_89 (5) (by decide) ?_
            refine r_goto hV 94 dX4_firstFault_90 (by decide) ?_
            refine r_istore hV dX4_firstFault_94 (Nat.le_of_ble_eq_true rfl) rfl ?_
            refine r_iload hV dX4_firstFault_96 rfl ?_
            refine s_if_eq hV 111 dX4_firstFault_98 (by decide) (by unfold z_rg; omega) (fun c98 => absurd c98 (by decide)) (fun _ => ?_)
            refine r_aload_n hV dX4_firstFault_101 rfl rfl ?_
            refine r_aload_n hV dX4_firstFault_102 rfl rfl ?_
            refine r_iload hV dX4_firstFault_103 rfl ?_
            refine r_is3 hV dX4_firstFault_105 ms_X4_34 (m_readRoad I1 J P d hD p1 tl htl1 htb T hT1 hTb (zfg T tl 4) hn (by omega) r hr (by omega) R hR hRb p (by omega)) (by decide) (Nat.le_refl _) (Nat.le_of_ble_eq_true rfl) (fun v I3 J3 P3 hq => ?_)
            obtain ⟨rfl, ej, ep, e0, e1, e2, e3, e4, e5⟩ := hq
            rw [ej, ep]
            show V 108 I3 J P _ _ [.int _]
            refine r_goto hV 118 dX4_firstFault_108 (by decide) ?_
            refine r_istore_n hV dX4_firstFault_118 (Nat.le_of_ble_eq_true rfl) rfl ?_
            refine r_iload_n hV dX4_firstFault_119 rfl ?_
            refine s_bipush hV dX4_firstFault_120 (-9) (by decide) ?_
            refine s_icmp_eq hV 127 dX4_firstFault_122 (by decide) (by unfold z_rg; omega) (by unfold z_rg; omega) (fun cF => ?_) (fun cF => ?_)
            · first
                | (have hres3 : f_parse T tl (zfg T tl 4) k (p + 5) (r + 1) e (f_rdR T tl R p) W U K = f_parse T tl (zfg T tl 4) 81 5 0 0 (fun _ => 0) W0 U0 K0 := by
                     rw [f_parse, if_neg (by omega), if_pos (by omega), if_pos cF] at hres; exact hres
                   have hc3 : q_cells I3 d (zfg T tl 4) (f_st T tl) (r + 1) e (f_rdR T tl R p) W U K := ⟨e0.trans hn, e1.trans hst1, by rw [e2, if_pos cF], e3.trans he, by rw [if_pos cF] at e4; exact e4, z_ar_fr hW (e5 _ (by omega) (by omega)), z_ar_fr hU (e5 _ (by omega) (by omega)), z_ar_fr hK (e5 _ (by omega) (by omega))⟩
                   have hb3 := q_bds_rd cF hp0 (by omega) hb
                   have ho3 : q_out I I3 d := fun q h => (e5 q (by omega) (by omega)).trans (ho q h))
                | (have hres3 : f_parse T tl (zfg T tl 4) k (p + 4) r (e + 1) R (zup W e (zfg T tl (p + 1))) (zup U e (zfg T tl (p + 2))) (zup K e (zfg T tl (p + 3))) = f_parse T tl (zfg T tl 4) 81 5 0 0 (fun _ => 0) W0 U0 K0 := by
                     rw [f_parse, if_neg (by omega), if_neg (by omega), if_pos cF] at hres; exact hres
                   have hc3 : q_cells I3 d (zfg T tl 4) (f_st T tl) r (e + 1) R (zup W e (zfg T tl (p + 1))) (zup U e (zfg T tl (p + 2))) (zup K e (zfg T tl (p + 3))) := ⟨e0.trans hn, e1.trans hst1, e2.trans hr, by rw [e3, if_pos cF], z_ar_fr hR (e7 _ (by omega) (by omega) (by omega) (by omega)), by rw [if_pos cF] at e4; exact e4, by rw [if_pos cF] at e5; exact e5, by rw [if_pos cF] at e6; exact e6⟩
                   have hb3 := q_bds_er cF hp0 (by omega) hb
                   have ho3 : q_out I I3 d := fun q h => (e7 q (by omega) (by omega) (by omega) (by omega)).trans (ho q h))
              refine r_iload hV dX4_firstFault_127 rfl ?_
              refine r_iload hV dX4_firstFault_129 rfl ?_
              refine s_iadd hV dX4_firstFault_131 ?_
              refine r_istore hV dX4_firstFault_132 (Nat.le_of_ble_eq_true rfl) rfl ?_
              refine r_goto hV 60 dX4_firstFault_134 (by decide) ?_
              refine r_kill hV 3 rfl ?_
              refine r_kill hV 5 rfl ?_
              refine r_kill hV 7 rfl ?_
              exact ih60 _ _ _ _ _ _ _ _ hres3 (by omega) (by omega) (by omega) hc3 hb3 ho3
            · refine r_iload_n hV dX4_firstFault_125 rfl ?_
              refine r_iret hV dX4_firstFault_126 rfl rfl ?_
              first
                | (refine ⟨rfl, rfl, Or.inr ⟨c13, by omega, by omega, _, _, _, _, _, _, _, hres.symm.trans ?_, rfl, ⟨e0.trans hn, e1.trans hst1, by rw [e2, if_neg cF], e3.trans he, by rw [if_neg cF] at e4; exact e4, z_ar_fr hW (e5 _ (by omega) (by omega)), z_ar_fr hU (e5 _ (by omega) (by omega)), z_ar_fr hK (e5 _ (by omega) (by omega))⟩, hb, fun q h => (e5 q (by omega) (by omega)).trans (ho q h)⟩⟩
                   rw [f_parse, if_neg (by omega), if_pos (by omega), if_neg cF])
                | (refine ⟨rfl, rfl, Or.inr ⟨c13, by omega, by omega, _, _, _, _, _, _, _, hres.symm.trans ?_, rfl, ⟨e0.trans hn, e1.trans hst1, e2.trans hr, by rw [e3, if_neg cF], z_ar_fr hR (e7 _ (by omega) (by omega) (by omega) (by omega)), by rw [if_neg cF] at e4; exact e4, by rw [if_neg cF] at e5; exact e5, by rw [if_neg cF] at e6; exact e6⟩, hb, fun q h => (e7 q (by omega) (by omega) (by omega) (by omega)).trans (ho q h)⟩⟩
                   rw [f_parse, if_neg (by omega), if_neg (by omega), if_neg cF])
    refine r_kill hV 3 rfl ?_
    refine r_kill hV 5 rfl ?_
    exact L60 81 5 0 0 _ W0 U0 K0 I1 rfl (by omega) (by omega) (by omega) hc0 ⟨by omega, by omega, fun _ _ _ => by simp, hW0b, hU0b, hK0b⟩ ho0
  · refine r_iload_n hV dX4_firstFault_16 rfl ?_
    refine r_iret hV dX4_firstFault_17 rfl rfl ?_
    exact ⟨rfl, rfl, Or.inl ⟨c13, rfl, rfl⟩⟩
