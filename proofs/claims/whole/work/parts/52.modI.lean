theorem f_er_a {T : Int → Int} {tl e p : Int} {n : Nat} (hr : zsg T tl p = 69 ∧ e < 6) : f_erF T tl n e p = if ¬ (0 ≤ zfg T tl (p + 1) ∧ zfg T tl (p + 1) < n) then p + 1 else if zfg T tl (p + 2) < 0 then p + 2 else if zfg T tl (p + 3) < 0 ∨ 2 < zfg T tl (p + 3) then p + 3 else -9 := by
  unfold f_erF
  rw [if_neg (not_not_intro hr)]
def q_mer (I : zI) (J : zJ) (P : zP) (F p e : Int) (W U K : Int → Int) (x y z : Int) (v : Option Value) (I1 : zI) (J1 : zJ) (P1 : zP) : Prop := v = some (.int (iI (if F = -9 then 1 else 0))) ∧ J1 = J ∧ P1 = P ∧ I1 78 3 = iI (if F = -9 then p + 4 else F) ∧ I1 78 15 = iI (if F = -9 then e + 1 else e) ∧ z_ar I1 85 6 (if F = -9 then zup W e x else W) ∧ z_ar I1 86 6 (if F = -9 then zup U e y else U) ∧ z_ar I1 87 6 (if F = -9 then zup K e z else K) ∧ (∀ q, q ≠ 78 → q ≠ 85 → q ≠ 86 → q ≠ 87 → I1 q = I q) ∧ ∀ k, k ≠ 3 → k ≠ 15 → I1 78 k = I 78 k
theorem zfg_in {T : Int → Int} {tl p : Int} (h : 0 ≤ zfg T tl p) : 0 ≤ p ∧ p < tl := by
  refine Classical.byContradiction fun q => ?_
  have hs : zsg T tl p = 0 := if_neg q
  unfold zfg at h
  rw [if_neg (by omega)] at h
  omega
set_option maxRecDepth 20000 in
theorem n_readErrand (I : zI) (J : zJ) (P : zP) (hM : mK P) (tl p : Int) (h2 : I 78 2 = iI tl) (htb : 0 ≤ tl ∧ tl ≤ 80) (hp : 0 ≤ p ∧ p < tl) (T : Int → Int) (zT : z_ar I 79 80 T) (hTb : z_bd T 80 0 255) (h3 : I 78 3 = iI (p + 1)) (n : Nat) (h12 : I 78 12 = iI (n : Int)) (hnb : 2 ≤ n ∧ n ≤ 6) (e : Int) (h15 : I 78 15 = iI e) (W U K : Int → Int) (zW : z_ar I 85 6 W) (zU : z_ar I 86 6 U) (zK : z_ar I 87 6 K) (heb : 0 ≤ e ∧ e ≤ 6) (hroom : zsg T tl p = 69 ∧ e < 6) : z_Sp 2 yX12_readErrand cX12_readErrand 4 (some .boolean) 108 108 I J P [.ref 78] (q_mer I J P (f_erF T tl n e p) p e W U K (zfg T tl (p + 1)) (zfg T tl (p + 2)) (zfg T tl (p + 3))) := by
  obtain ⟨o1, o7, o9, o10, o11, o16, o17, o18, o19, o20, o25, o26, o28, o29, o30, o31, o36, o37, o38, o39, o40, o41, o42, o43, o44, o45, o46, o47, o48⟩ := id hM
  have hF := f_er_a (T := T) (tl := tl) (p := p) (n := n) hroom
  refine z_met false (by decide +kernel) (fun h => by cases h) (Nat.le_of_ble_eq_true rfl) (by first | decide | omega) (fun V hV => ?_)
  show V 108 I J P 0 [.ref 78, .null, .null, .null] []
  refine r_aload_n hV dX12_readErrand_0 rfl rfl ?_
  refine s_iconst hV dX12_readErrand_1 (0) (by decide) ?_
  refine r_aload_n hV dX12_readErrand_2 rfl rfl ?_
  refine r_getI hV dX12_readErrand_3 fl_X12_122 (by first | decide | omega) (by first | rfl | assumption) h12 ?_
  refine s_iconst hV dX12_readErrand_6 (1) (by decide) ?_
  refine s_isub hV dX12_readErrand_7 ?_
  refine r_iv2 hV dX12_readErrand_8 mv_X12_129 (n_figure I J P hM tl (p + 1) (h2) h3 htb (by omega) T (zT) hTb 0 ((n : Int) - 1) (by omega) (by omega)) (by first | decide | omega) (by first | rfl | assumption) (by decide) (Nat.le_refl _) (Nat.le_of_ble_eq_true rfl) (fun vI1 I1 JI1 PI1 hq => ?_)
  obtain ⟨rfl, ej, ep, y1, x2, x3⟩ := hq
  rw [ej, ep]
  show V 108 I1 J P _ _ [.int (iI (f_fg T tl (p + 1) 0 ((n : Int) - 1)))]
  clear ej ep
  have hfg1 : f_fg T tl (p + 1) 0 ((n : Int) - 1) = if 0 ≤ zfg T tl (p + 1) ∧ zfg T tl (p + 1) ≤ ((n : Int) - 1) then zfg T tl (p + 1) else -9 := rfl
  have hzb1 := zfg_b (T := T) (tl := tl) (p := p + 1)
  have uI1 : ∀ q, q ≠ 78 → I1 q = I q := fun q a => x2 q a
  have kI1 : ∀ k, k ≠ 3 → I1 78 k = I 78 k := fun k a => x3 k a
  clear x2 x3
  refine r_istore_n hV dX12_readErrand_11 (Nat.le_of_ble_eq_true rfl) (z_st1_4_1 rfl) ?_
  refine r_iload_n hV dX12_readErrand_12 rfl ?_
  refine s_bipush hV dX12_readErrand_13 (-9) (by decide) ?_
  refine s_icmp_ne hV 23 dX12_readErrand_15 (by decide) (by unfold z_rg; first | omega | (split <;> omega)) (by unfold z_rg; first | omega | (split <;> omega)) (fun c15 => ?_) (fun c15 => ?_)
  · rw [if_neg (by omega), show p + 1 + 1 = p + 2 by omega] at y1
    have hin1 := zfg_in (T := T) (tl := tl) (p := p + 1) (by omega)
    refine r_aload_n hV dX12_readErrand_23 rfl rfl ?_
    refine s_iconst hV dX12_readErrand_24 (0) (by decide) ?_
    refine s_bipush hV dX12_readErrand_25 (9) (by decide) ?_
    refine r_iv2 hV dX12_readErrand_27 mv_X12_129 (n_figure I1 J P hM tl (p + 2) ((kI1 2 (by omega)).trans h2) y1 htb (by omega) T (z_ar_fr zT (uI1 79 (by omega))) hTb 0 9 (by omega) (by omega)) (by first | decide | omega) (by first | rfl | assumption) (by decide) (Nat.le_refl _) (Nat.le_of_ble_eq_true rfl) (fun vI2 I2 JI2 PI2 hq => ?_)
    obtain ⟨rfl, ej, ep, y2, x2, x3⟩ := hq
    rw [ej, ep]
    show V 108 I2 J P _ _ [.int (iI (f_fg T tl (p + 2) 0 9))]
    clear ej ep
    have hfg2 : f_fg T tl (p + 2) 0 9 = if 0 ≤ zfg T tl (p + 2) ∧ zfg T tl (p + 2) ≤ 9 then zfg T tl (p + 2) else -9 := rfl
    have hzb2 := zfg_b (T := T) (tl := tl) (p := p + 2)
    have uI2 : ∀ q, q ≠ 78 → I2 q = I q := fun q a => (x2 q a).trans (uI1 q a)
    have kI2 : ∀ k, k ≠ 3 → I2 78 k = I 78 k := fun k a => (x3 k a).trans (kI1 k a)
    clear x2 x3
    refine r_istore_n hV dX12_readErrand_30 (Nat.le_of_ble_eq_true rfl) (z_st1_4_2 rfl) ?_
    refine r_iload_n hV dX12_readErrand_31 rfl ?_
    refine s_bipush hV dX12_readErrand_32 (-9) (by decide) ?_
    refine s_icmp_ne hV 42 dX12_readErrand_34 (by decide) (by unfold z_rg; first | omega | (split <;> omega)) (by unfold z_rg; first | omega | (split <;> omega)) (fun c34 => ?_) (fun c34 => ?_)
    · rw [if_neg (by omega), show p + 2 + 1 = p + 3 by omega] at y2
      have hin2 := zfg_in (T := T) (tl := tl) (p := p + 2) (by omega)
      refine r_aload_n hV dX12_readErrand_42 rfl rfl ?_
      refine s_iconst hV dX12_readErrand_43 (0) (by decide) ?_
      refine s_iconst hV dX12_readErrand_44 (2) (by decide) ?_
      refine r_iv2 hV dX12_readErrand_45 mv_X12_129 (n_figure I2 J P hM tl (p + 3) ((kI2 2 (by omega)).trans h2) y2 htb (by omega) T (z_ar_fr zT (uI2 79 (by omega))) hTb 0 2 (by omega) (by omega)) (by first | decide | omega) (by first | rfl | assumption) (by decide) (Nat.le_refl _) (Nat.le_of_ble_eq_true rfl) (fun vI3 I3 JI3 PI3 hq => ?_)
      obtain ⟨rfl, ej, ep, y3, x2, x3⟩ := hq
      rw [ej, ep]
      show V 108 I3 J P _ _ [.int (iI (f_fg T tl (p + 3) 0 2))]
      clear ej ep
      have hfg3 : f_fg T tl (p + 3) 0 2 = if 0 ≤ zfg T tl (p + 3) ∧ zfg T tl (p + 3) ≤ 2 then zfg T tl (p + 3) else -9 := rfl
      have hzb3 := zfg_b (T := T) (tl := tl) (p := p + 3)
      have uI3 : ∀ q, q ≠ 78 → I3 q = I q := fun q a => (x2 q a).trans (uI2 q a)
      have kI3 : ∀ k, k ≠ 3 → I3 78 k = I 78 k := fun k a => (x3 k a).trans (kI2 k a)
      clear x2 x3
      refine r_istore_n hV dX12_readErrand_48 (Nat.le_of_ble_eq_true rfl) (z_st1_4_3 rfl) ?_
      refine r_iload_n hV dX12_readErrand_49 rfl ?_
      refine s_bipush hV dX12_readErrand_50 (-9) (by decide) ?_
      refine s_icmp_ne hV 57 dX12_readErrand_52 (by decide) (by unfold z_rg; first | omega | (split <;> omega)) (by unfold z_rg; first | omega | (split <;> omega)) (fun c52 => ?_) (fun c52 => ?_)
      · have e0 : f_erF T tl n e p = -9 := by rw [hF, if_neg (by omega), if_neg (by omega), if_neg (by omega)]
        have w1v : f_fg T tl (p + 1) 0 ((n : Int) - 1) = zfg T tl (p + 1) := by rw [hfg1, if_pos (by omega)]
        have w2v : f_fg T tl (p + 2) 0 9 = zfg T tl (p + 2) := by rw [hfg2, if_pos (by omega)]
        have w3v : f_fg T tl (p + 3) 0 2 = zfg T tl (p + 3) := by rw [hfg3, if_pos (by omega)]
        rw [w1v, w2v, w3v]
        rw [if_neg (by omega), show p + 3 + 1 = p + 4 by omega] at y3
        refine r_aload_n hV dX12_readErrand_57 rfl rfl ?_
        refine r_getR hV dX12_readErrand_58 fl_X12_32 (by first | decide | omega) (by first | rfl | assumption) o17 ?_
        refine r_aload_n hV dX12_readErrand_61 rfl rfl ?_
        refine r_getI hV dX12_readErrand_62 fl_X12_136 (by first | decide | omega) (by first | rfl | assumption) ((kI3 15 (by omega)).trans h15) ?_
        refine r_iload_n hV dX12_readErrand_65 rfl ?_
        refine s_iastore hV dX12_readErrand_66 (by first | decide | omega) (by first | rfl | assumption) (by decide) (by omega) (by omega) ?_
        have zW0 := z_ar_fr zW (uI3 85 (by omega))
        have zW4 := z_ar_set zW0 (z := e) (by omega) (zfg T tl (p + 1))
        generalize hI4 : zu I3 (85) (zu (I3 85) (e).toNat (iI (zfg T tl (p + 1)))) = I4
        have hfI4 : ∀ q, q ≠ 85 → I4 q = I3 q := fun q h => by rw [← hI4]; exact zu_n _ _ h
        rw [hI4] at zW4
        clear hI4
        refine r_aload_n hV dX12_readErrand_67 rfl rfl ?_
        refine r_getR hV dX12_readErrand_68 fl_X12_35 (by first | decide | omega) (by first | rfl | assumption) o18 ?_
        refine r_aload_n hV dX12_readErrand_71 rfl rfl ?_
        refine r_getI hV dX12_readErrand_72 fl_X12_136 (by first | decide | omega) (by first | rfl | assumption) ((congrFun (hfI4 78 (by omega)) 15).trans ((kI3 15 (by omega)).trans h15)) ?_
        refine r_iload_n hV dX12_readErrand_75 rfl ?_
        refine s_iastore hV dX12_readErrand_76 (by first | decide | omega) (by first | rfl | assumption) (by decide) (by omega) (by omega) ?_
        have zU0 := z_ar_fr zU ((hfI4 86 (by omega)).trans (uI3 86 (by omega)))
        have zU5 := z_ar_set zU0 (z := e) (by omega) (zfg T tl (p + 2))
        generalize hI5 : zu I4 (86) (zu (I4 86) (e).toNat (iI (zfg T tl (p + 2)))) = I5
        have hfI5 : ∀ q, q ≠ 86 → I5 q = I4 q := fun q h => by rw [← hI5]; exact zu_n _ _ h
        rw [hI5] at zU5
        clear hI5
        refine r_aload_n hV dX12_readErrand_77 rfl rfl ?_
        refine r_getR hV dX12_readErrand_78 fl_X12_38 (by first | decide | omega) (by first | rfl | assumption) o19 ?_
        refine r_aload_n hV dX12_readErrand_81 rfl rfl ?_
        refine r_getI hV dX12_readErrand_82 fl_X12_136 (by first | decide | omega) (by first | rfl | assumption) ((congrFun ((hfI5 78 (by omega)).trans (hfI4 78 (by omega))) 15).trans ((kI3 15 (by omega)).trans h15)) ?_
        refine r_iload_n hV dX12_readErrand_85 rfl ?_
        refine s_iastore hV dX12_readErrand_86 (by first | decide | omega) (by first | rfl | assumption) (by decide) (by omega) (by omega) ?_
        have zK0 := z_ar_fr zK ((hfI5 87 (by omega)).trans ((hfI4 87 (by omega)).trans (uI3 87 (by omega))))
        have zK6 := z_ar_set zK0 (z := e) (by omega) (zfg T tl (p + 3))
        generalize hI6 : zu I5 (87) (zu (I5 87) (e).toNat (iI (zfg T tl (p + 3)))) = I6
        have hfI6 : ∀ q, q ≠ 87 → I6 q = I5 q := fun q h => by rw [← hI6]; exact zu_n _ _ h
        rw [hI6] at zK6
        clear hI6
        have u6 : ∀ q, q ≠ 85 → q ≠ 86 → q ≠ 87 → I6 q = I3 q := fun q a b c => (hfI6 q c).trans ((hfI5 q b).trans (hfI4 q a))
        refine r_aload_n hV dX12_readErrand_87 rfl rfl ?_
        refine r_dup hV dX12_readErrand_88 rfl ?_
        refine r_getI hV dX12_readErrand_89 fl_X12_136 (by first | decide | omega) (by first | rfl | assumption) ((congrFun (u6 78 (by omega) (by omega) (by omega)) 15).trans ((kI3 15 (by omega)).trans h15)) ?_
        refine s_iconst hV dX12_readErrand_92 (1) (by decide) ?_
        refine s_iadd hV dX12_readErrand_93 ?_
        refine r_putI hV dX12_readErrand_94 fl_X12_136 (pf_X12_136 _) (z_okI_int rfl _) (by first | decide | omega) (by first | rfl | assumption) ?_
        refine s_iconst hV dX12_readErrand_97 (1) (by decide) ?_
        refine s_zret hV dX12_readErrand_98 rfl (by omega) rfl ?_
        exact ⟨by rw [e0, if_pos rfl], rfl, rfl, by rw [e0, if_pos rfl, zu_s, zu_n _ _ (by omega)]; exact (congrFun (u6 78 (by omega) (by omega) (by omega)) 3).trans y3, by rw [e0, if_pos rfl, zu_s, zu_s], by
          rw [e0, if_pos rfl]; exact z_ar_fr zW4 ((zu_n _ _ (by omega)).trans ((hfI6 85 (by omega)).trans (hfI5 85 (by omega)))), by
          rw [e0, if_pos rfl]; exact z_ar_fr zU5 ((zu_n _ _ (by omega)).trans (hfI6 86 (by omega))), by
          rw [e0, if_pos rfl]; exact z_ar_fr zK6 (zu_n _ _ (by omega)), fun q a b c g => by rw [zu_n _ _ a]; exact (u6 q b c g).trans (uI3 q a), fun k a b => by rw [zu_s, zu_n _ _ b]; exact (congrFun (u6 78 (by omega) (by omega) (by omega)) k).trans (kI3 k a)⟩
      · refine s_iconst hV dX12_readErrand_55 (0) (by decide) ?_
        refine s_zret hV dX12_readErrand_56 rfl (by omega) rfl ?_
        first
          | (have e0 : f_erF T tl n e p = p + 3 := by rw [hF]; first | rw [if_pos (by omega)] | rw [if_neg (by omega), if_pos (by omega)] | rw [if_neg (by omega), if_neg (by omega), if_pos (by omega)]
             rw [if_pos (by omega)] at y3
             exact ⟨by rw [e0, if_neg (by omega)], rfl, rfl, by rw [e0, if_neg (by omega)]; exact y3, by rw [e0, if_neg (by omega)]; exact (kI3 15 (by omega)).trans h15, by rw [e0, if_neg (by omega)]; exact z_ar_fr zW (uI3 85 (by omega)), by rw [e0, if_neg (by omega)]; exact z_ar_fr zU (uI3 86 (by omega)), by rw [e0, if_neg (by omega)]; exact z_ar_fr zK (uI3 87 (by omega)), fun q a _ _ _ => uI3 q a, fun k a _ => kI3 k a⟩)
          | (have e0 : f_erF T tl n e p = p + 2 := by rw [hF]; first | rw [if_pos (by omega)] | rw [if_neg (by omega), if_pos (by omega)] | rw [if_neg (by omega), if_neg (by omega), if_pos (by omega)]
             rw [if_pos (by omega)] at y2
             exact ⟨by rw [e0, if_neg (by omega)], rfl, rfl, by rw [e0, if_neg (by omega)]; exact y2, by rw [e0, if_neg (by omega)]; exact (kI2 15 (by omega)).trans h15, by rw [e0, if_neg (by omega)]; exact z_ar_fr zW (uI2 85 (by omega)), by rw [e0, if_neg (by omega)]; exact z_ar_fr zU (uI2 86 (by omega)), by rw [e0, if_neg (by omega)]; exact z_ar_fr zK (uI2 87 (by omega)), fun q a _ _ _ => uI2 q a, fun k a _ => kI2 k a⟩)
          | (have e0 : f_erF T tl n e p = p + 1 := by rw [hF]; first | rw [if_pos (by omega)] | rw [if_neg (by omega), if_pos (by omega)] | rw [if_neg (by omega), if_neg (by omega), if_pos (by omega)]
             rw [if_pos (by omega)] at y1
             exact ⟨by rw [e0, if_neg (by omega)], rfl, rfl, by rw [e0, if_neg (by omega)]; exact y1, by rw [e0, if_neg (by omega)]; exact (kI1 15 (by omega)).trans h15, by rw [e0, if_neg (by omega)]; exact z_ar_fr zW (uI1 85 (by omega)), by rw [e0, if_neg (by omega)]; exact z_ar_fr zU (uI1 86 (by omega)), by rw [e0, if_neg (by omega)]; exact z_ar_fr zK (uI1 87 (by omega)), fun q a _ _ _ => uI1 q a, fun k a _ => kI1 k a⟩)
    · refine s_bipush hV dX12_readErrand_37 (-9) (by decide) ?_
      refine r_goto hV 48 dX12_readErrand_39 (by decide) ?_
      refine r_istore_n hV dX12_readErrand_48 (Nat.le_of_ble_eq_true rfl) (z_st1_4_3 rfl) ?_
      refine r_iload_n hV dX12_readErrand_49 rfl ?_
      refine s_bipush hV dX12_readErrand_50 (-9) (by decide) ?_
      refine s_icmp_ne hV 57 dX12_readErrand_52 (by decide) (by unfold z_rg; first | omega | (split <;> omega)) (by unfold z_rg; first | omega | (split <;> omega)) (fun c52 => absurd c52 (by decide)) (fun _ => ?_)
      refine s_iconst hV dX12_readErrand_55 (0) (by decide) ?_
      refine s_zret hV dX12_readErrand_56 rfl (by omega) rfl ?_
      first
        | (have e0 : f_erF T tl n e p = p + 3 := by rw [hF]; first | rw [if_pos (by omega)] | rw [if_neg (by omega), if_pos (by omega)] | rw [if_neg (by omega), if_neg (by omega), if_pos (by omega)]
           rw [if_pos (by omega)] at y3
           exact ⟨by rw [e0, if_neg (by omega)], rfl, rfl, by rw [e0, if_neg (by omega)]; exact y3, by rw [e0, if_neg (by omega)]; exact (kI3 15 (by omega)).trans h15, by rw [e0, if_neg (by omega)]; exact z_ar_fr zW (uI3 85 (by omega)), by rw [e0, if_neg (by omega)]; exact z_ar_fr zU (uI3 86 (by omega)), by rw [e0, if_neg (by omega)]; exact z_ar_fr zK (uI3 87 (by omega)), fun q a _ _ _ => uI3 q a, fun k a _ => kI3 k a⟩)
        | (have e0 : f_erF T tl n e p = p + 2 := by rw [hF]; first | rw [if_pos (by omega)] | rw [if_neg (by omega), if_pos (by omega)] | rw [if_neg (by omega), if_neg (by omega), if_pos (by omega)]
           rw [if_pos (by omega)] at y2
           exact ⟨by rw [e0, if_neg (by omega)], rfl, rfl, by rw [e0, if_neg (by omega)]; exact y2, by rw [e0, if_neg (by omega)]; exact (kI2 15 (by omega)).trans h15, by rw [e0, if_neg (by omega)]; exact z_ar_fr zW (uI2 85 (by omega)), by rw [e0, if_neg (by omega)]; exact z_ar_fr zU (uI2 86 (by omega)), by rw [e0, if_neg (by omega)]; exact z_ar_fr zK (uI2 87 (by omega)), fun q a _ _ _ => uI2 q a, fun k a _ => kI2 k a⟩)
        | (have e0 : f_erF T tl n e p = p + 1 := by rw [hF]; first | rw [if_pos (by omega)] | rw [if_neg (by omega), if_pos (by omega)] | rw [if_neg (by omega), if_neg (by omega), if_pos (by omega)]
           rw [if_pos (by omega)] at y1
           exact ⟨by rw [e0, if_neg (by omega)], rfl, rfl, by rw [e0, if_neg (by omega)]; exact y1, by rw [e0, if_neg (by omega)]; exact (kI1 15 (by omega)).trans h15, by rw [e0, if_neg (by omega)]; exact z_ar_fr zW (uI1 85 (by omega)), by rw [e0, if_neg (by omega)]; exact z_ar_fr zU (uI1 86 (by omega)), by rw [e0, if_neg (by omega)]; exact z_ar_fr zK (uI1 87 (by omega)), fun q a _ _ _ => uI1 q a, fun k a _ => kI1 k a⟩)
  · refine s_bipush hV dX12_readErrand_18 (-9) (by decide) ?_
    refine r_goto hV 30 dX12_readErrand_20 (by decide) ?_
    refine r_istore_n hV dX12_readErrand_30 (Nat.le_of_ble_eq_true rfl) (z_st1_4_2 rfl) ?_
    refine r_iload_n hV dX12_readErrand_31 rfl ?_
    refine s_bipush hV dX12_readErrand_32 (-9) (by decide) ?_
    refine s_icmp_ne hV 42 dX12_readErrand_34 (by decide) (by unfold z_rg; first | omega | (split <;> omega)) (by unfold z_rg; first | omega | (split <;> omega)) (fun c34 => absurd c34 (by decide)) (fun _ => ?_)
    refine s_bipush hV dX12_readErrand_37 (-9) (by decide) ?_
    refine r_goto hV 48 dX12_readErrand_39 (by decide) ?_
    refine r_istore_n hV dX12_readErrand_48 (Nat.le_of_ble_eq_true rfl) (z_st1_4_3 rfl) ?_
    refine r_iload_n hV dX12_readErrand_49 rfl ?_
    refine s_bipush hV dX12_readErrand_50 (-9) (by decide) ?_
    refine s_icmp_ne hV 57 dX12_readErrand_52 (by decide) (by unfold z_rg; first | omega | (split <;> omega)) (by unfold z_rg; first | omega | (split <;> omega)) (fun c52 => absurd c52 (by decide)) (fun _ => ?_)
    refine s_iconst hV dX12_readErrand_55 (0) (by decide) ?_
    refine s_zret hV dX12_readErrand_56 rfl (by omega) rfl ?_
    first
      | (have e0 : f_erF T tl n e p = p + 3 := by rw [hF]; first | rw [if_pos (by omega)] | rw [if_neg (by omega), if_pos (by omega)] | rw [if_neg (by omega), if_neg (by omega), if_pos (by omega)]
         rw [if_pos (by omega)] at y3
         exact ⟨by rw [e0, if_neg (by omega)], rfl, rfl, by rw [e0, if_neg (by omega)]; exact y3, by rw [e0, if_neg (by omega)]; exact (kI3 15 (by omega)).trans h15, by rw [e0, if_neg (by omega)]; exact z_ar_fr zW (uI3 85 (by omega)), by rw [e0, if_neg (by omega)]; exact z_ar_fr zU (uI3 86 (by omega)), by rw [e0, if_neg (by omega)]; exact z_ar_fr zK (uI3 87 (by omega)), fun q a _ _ _ => uI3 q a, fun k a _ => kI3 k a⟩)
      | (have e0 : f_erF T tl n e p = p + 2 := by rw [hF]; first | rw [if_pos (by omega)] | rw [if_neg (by omega), if_pos (by omega)] | rw [if_neg (by omega), if_neg (by omega), if_pos (by omega)]
         rw [if_pos (by omega)] at y2
         exact ⟨by rw [e0, if_neg (by omega)], rfl, rfl, by rw [e0, if_neg (by omega)]; exact y2, by rw [e0, if_neg (by omega)]; exact (kI2 15 (by omega)).trans h15, by rw [e0, if_neg (by omega)]; exact z_ar_fr zW (uI2 85 (by omega)), by rw [e0, if_neg (by omega)]; exact z_ar_fr zU (uI2 86 (by omega)), by rw [e0, if_neg (by omega)]; exact z_ar_fr zK (uI2 87 (by omega)), fun q a _ _ _ => uI2 q a, fun k a _ => kI2 k a⟩)
      | (have e0 : f_erF T tl n e p = p + 1 := by rw [hF]; first | rw [if_pos (by omega)] | rw [if_neg (by omega), if_pos (by omega)] | rw [if_neg (by omega), if_neg (by omega), if_pos (by omega)]
         rw [if_pos (by omega)] at y1
         exact ⟨by rw [e0, if_neg (by omega)], rfl, rfl, by rw [e0, if_neg (by omega)]; exact y1, by rw [e0, if_neg (by omega)]; exact (kI1 15 (by omega)).trans h15, by rw [e0, if_neg (by omega)]; exact z_ar_fr zW (uI1 85 (by omega)), by rw [e0, if_neg (by omega)]; exact z_ar_fr zU (uI1 86 (by omega)), by rw [e0, if_neg (by omega)]; exact z_ar_fr zK (uI1 87 (by omega)), fun q a _ _ _ => uI1 q a, fun k a _ => kI1 k a⟩)

