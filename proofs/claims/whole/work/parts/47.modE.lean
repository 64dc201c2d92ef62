def q_mact (I : zI) (J : zJ) (P : zP) (tl st r c : Int) (n e : Nat) (T F W U K S2 : Int → Int) (H2 : Nat → Int → Int) (a : Int) (v : Option Value) (I1 : zI) (J1 : zJ) (P1 : zP) : Prop := v = some (.int (iI a)) ∧ J1 = J ∧ P1 = P ∧ mI I1 tl st r c n e T F W U K S2 ∧ mB I1 c H2 ∧ (∀ p, p ≠ 78 → p ≠ 88 → p ≠ 89 → p ≠ 90 → I1 p = I p) ∧ ∀ k, k ≠ 0 → k ≠ 21 → k ≠ 22 → k ≠ 23 → k ≠ 24 → k ≠ 27 → I1 78 k = I 78 k
theorem q_mact_of {I I0 I2 I3 : zI} {J : zJ} {P : zP} {tl st r c : Int} {n e : Nat} {T F W U K S S2 : Int → Int} {H2 : Nat → Int → Int} {a : Int} (t0 : ∀ q, q ≠ 78 → I0 q = I q) (t1 : ∀ k, k ≠ 0 → I0 78 k = I 78 k) (hI2 : mI I2 tl st r c n e T F W U K S) (hB2 : mB I2 c H2) (n1 : ∀ p, p ≠ 78 → p ≠ 90 → I2 p = I0 p) (n2 : ∀ k, k ≠ 27 → I2 78 k = I0 78 k) (f1 : ∀ p, p ≠ 78 → p ≠ 88 → p ≠ 89 → I3 p = I2 p) (f2 : ∀ k, k ≠ 21 → k ≠ 22 → k ≠ 23 → k ≠ 24 → I3 78 k = I2 78 k) (a21 : I3 78 21 = iI (S2 2)) (a22 : I3 78 22 = iI (S2 3)) (a23 : I3 78 23 = iI (S2 4)) (a24 : I3 78 24 = iI (S2 5)) (zA : z_ar I3 88 2 S2) (zN : z_ar I3 89 8 (fun z => S2 (6 + z))) : q_mact I J P tl st r c n e T F W U K S2 H2 a (some (.int (iI a))) I3 J P := by
  refine ⟨rfl, rfl, rfl, ?_, mB_fr hB2 (f1 _ (by omega) (by omega) (by omega)), fun p b1 b2 b3 b4 => (f1 p b1 b2 b3).trans ((n1 p b1 b4).trans (t0 p b1)), fun k b0 b1 b2 b3 b4 b5 => (f2 k b1 b2 b3 b4).trans ((n2 k b5).trans (t1 k b0))⟩
  exact mI_act hI2 (fun q b1 b2 b3 _ => f1 q b1 b2 b3) (fun k _ b1 b2 b3 b4 _ => f2 k b1 b2 b3 b4) a21 a22 a23 a24 ((f2 27 (by omega) (by omega) (by omega) (by omega)).trans hI2.1.2.2.2.2.2.2.2.2.2) zA zN
set_option maxRecDepth 20000 in
theorem n_walk (I : zI) (J : zJ) (P : zP) (hM : mK P) (tl st r c : Int) (n e : Nat) (T F W U K S : Int → Int) (hI : mI I tl st r c n e T F W U K S) (hnb : 2 ≤ n ∧ n ≤ 6) (hFd : zD F) (dn dh : Nat) (hg : cG n S dn dh) (hcb : 0 ≤ c ∧ c ≤ 16) (H : Nat → Int → Int) (hB : mB I c H) (w : Int) (hw : z_rg w) (x : Int) (hx : z_rg x) : z_Sp 3 yX12_walk cX12_walk 3 (some .int) 108 108 I J P [.ref 78, .int (iI w), .int (iI x)] (fun v I1 J1 P1 => if ¬ ((0 ≤ w ∧ w < 2) ∧ (0 ≤ x ∧ x < n)) then q_mno I J P (-1) v I1 J1 P1 else if S 2 < f_wc n F (zpw S w) x then q_mno I J P (-3) v I1 J1 P1 else q_mact I J P tl st r (f_m16 c) n e T F W U K (zup (zup S w x) 2 (S 2 - f_wc n F (zpw S w) x)) (zpush S H) (S 2 - f_wc n F (zpw S w) x) v I1 J1 P1) := by
  obtain ⟨o1, o7, o9, o10, o11, o16, o17, o18, o19, o20, o25, o26, o28, o29, o30, o31, o36, o37, o38, o39, o40, o41, o42, o43, o44, o45, o46, o47, o48⟩ := id hM
  obtain ⟨g0, g1, g2, g3, g4, g5, g6, g7, g8⟩ := id hg
  have hw1 := hw.1
  have hw2 := hw.2
  have hx1 := hx.1
  have hx2 := hx.2
  refine z_met false (by decide +kernel) (fun h => by cases h) (Nat.le_of_ble_eq_true rfl) (by first | decide | omega) (fun V hV => ?_)
  show V 108 I J P 0 [.ref 78, .int (iI w), .int (iI x)] []
  refine r_aload_n hV dX12_walk_0 rfl rfl ?_
  refine s_iconst hV dX12_walk_1 (0) (by decide) ?_
  refine r_putI hV dX12_walk_2 fl_X12_104 (pf_X12_104 _) (z_okI_int rfl _) (by first | decide | omega) (by first | rfl | assumption) ?_
  generalize hI0e : zu I 78 (zu (I 78) 0 (iI 0)) = I0
  have t0 : ∀ q, q ≠ 78 → I0 q = I q := fun q h => by rw [← hI0e, zu_n _ _ h]
  have t1 : ∀ k, k ≠ 0 → I0 78 k = I 78 k := fun k h => by rw [← hI0e, zu_s, zu_n _ _ h]
  clear hI0e
  have hI0 := mI_fr hI t0 t1
  obtain ⟨⟨i20, i40, i50, i60, i80, i210, i220, i230, i240, i270⟩, zT0, zF0, zW0, zU0, zK0, zA0, zN0⟩ := id hI0
  refine r_iload_n hV dX12_walk_5 rfl ?_
  refine q_is1v hV dX12_walk_6 ms_X12_191 (n_noWalker I0 J P (w) (by unfold z_rg; omega)) (by decide) (Nat.le_refl _) (Nat.le_of_ble_eq_true rfl) ?_
  refine s_if_ne hV 20 dX12_walk_9 (by decide) (by unfold z_rg; first | omega | (split <;> omega)) (fun c9 => ?_) (fun c9 => ?_)
  · refine s_iconst hV dX12_walk_20 (-1) (by decide) ?_
    refine r_iret hV dX12_walk_21 rfl rfl ?_
    show ite _ _ _
    rw [if_pos (by omega)]
    exact ⟨rfl, rfl, rfl, t0, t1⟩
  · refine r_aload_n hV dX12_walk_12 rfl rfl ?_
    refine r_iload_n hV dX12_walk_13 rfl ?_
    refine q_iv1v hV dX12_walk_14 mv_X12_194 (n_noPlace I0 J P n i40 (by omega) (x) (by unfold z_rg; omega)) (by first | decide | omega) (by first | rfl | assumption) (by decide) (Nat.le_refl _) (Nat.le_of_ble_eq_true rfl) ?_
    refine s_if_eq hV 22 dX12_walk_17 (by decide) (by unfold z_rg; first | omega | (split <;> omega)) (fun c17 => ?_) (fun c17 => ?_)
    · refine r_aload_n hV dX12_walk_22 rfl rfl ?_
      refine r_aload_n hV dX12_walk_23 rfl rfl ?_
      refine r_getR hV dX12_walk_24 fl_X12_41 (by first | decide | omega) (by first | rfl | assumption) o20 ?_
      refine r_iload_n hV dX12_walk_27 rfl ?_
      refine s_iaload hV dX12_walk_28 (by first | decide | omega) (by first | rfl | assumption) (by decide) (by omega) (by omega) (show I0 88 w.toNat = iI (zpw S w) from (zA0 w (by omega) (by omega)).trans (congrArg iI (zpw_S (S := S) (by omega)))) ?_
      refine r_iload_n hV dX12_walk_29 rfl ?_
      refine s_iconst hV dX12_walk_30 (1) (by decide) ?_
      refine r_aload_n hV dX12_walk_31 rfl rfl ?_
      refine r_getI hV dX12_walk_32 fl_X12_165 (by first | decide | omega) (by first | rfl | assumption) i210 ?_
      refine q_iv4v hV dX12_walk_35 mv_X12_204 (n_mayWalk I0 J P hM n hnb F zF0 hFd (zpw S w) x 1 (S 2) (zpw_b w hg) (by omega) (by omega) (by omega)) (by first | decide | omega) (by first | rfl | assumption) (by decide) (Nat.le_refl _) (Nat.le_of_ble_eq_true rfl) ?_
      refine s_if_ne hV 44 dX12_walk_38 (by decide) (by unfold z_rg; first | omega | (split <;> omega)) (fun c38 => ?_) (fun c38 => ?_)
      · refine r_aload_n hV dX12_walk_44 rfl rfl ?_
        refine r_iv0 hV dX12_walk_45 mv_X12_208 (n_note I0 J P hM tl st r c n e T F W U K S hI0 hcb H (mB_fr hB (t0 _ (by omega)))) (by first | decide | omega) (by first | rfl | assumption) (by decide) (Nat.le_refl _) (Nat.le_of_ble_eq_true rfl) (fun v2 I2 J2 P2 hq => ?_)
        obtain ⟨rfl, ej, ep, hI2, hB2, n1, n2⟩ := hq
        rw [ej, ep]
        show V 108 I2 J P _ _ []
        clear ej ep
        obtain ⟨⟨i22, i42, i52, i62, i82, i212, i222, i232, i242, i272⟩, zT2, zF2, zW2, zU2, zK2, zA2, zN2⟩ := id hI2
        have hpw := zpw_b w hg
        have hfb0 := hFd (6 * zpw S w + x) (by omega) (by omega)
        have hfe : F (zpw S w * 6 + x) = F (6 * zpw S w + x) := congrArg F (by omega)
        have hcost : mF F (6 * zpw S w + x) = f_wc n F (zpw S w) x := by
          unfold mF f_wc
          have hcc : 1 * f_wc n F (zpw S w) x ≤ S 2 := by omega
          unfold f_wc at hcc
          rw [hfe] at hcc ⊢
          split at hcc
          · omega
          · next q =>
            rw [if_pos (by omega)] at hcc
            rw [if_neg q, if_pos (by omega), if_pos (by omega)]
        refine r_aload_n hV dX12_walk_48 rfl rfl ?_
        refine r_dup hV dX12_walk_49 rfl ?_
        refine r_getI hV dX12_walk_50 fl_X12_165 (by first | decide | omega) (by first | rfl | assumption) i212 ?_
        refine r_aload_n hV dX12_walk_53 rfl rfl ?_
        refine r_getR hV dX12_walk_54 fl_X12_17 (by first | decide | omega) (by first | rfl | assumption) o7 ?_
        refine s_bipush hV dX12_walk_57 (6) (by decide) ?_
        refine r_aload_n hV dX12_walk_59 rfl rfl ?_
        refine r_getR hV dX12_walk_60 fl_X12_41 (by first | decide | omega) (by first | rfl | assumption) o20 ?_
        refine r_iload_n hV dX12_walk_63 rfl ?_
        refine s_iaload hV dX12_walk_64 (by first | decide | omega) (by first | rfl | assumption) (by decide) (by omega) (by omega) (show I2 88 w.toNat = iI (zpw S w) from (zA2 w (by omega) (by omega)).trans (congrArg iI (zpw_S (S := S) (by omega)))) ?_
        refine s_imul hV dX12_walk_65 ?_
        refine r_iload_n hV dX12_walk_66 rfl ?_
        refine s_iadd hV dX12_walk_67 ?_
        refine s_iaload hV dX12_walk_68 (by first | decide | omega) (by first | rfl | assumption) (by decide) (by omega) (by omega) ((zF2 (6 * zpw S w + x) (by omega) (by omega)).trans (congrArg iI hcost)) ?_
        refine s_isub hV dX12_walk_69 ?_
        refine r_putI hV dX12_walk_70 fl_X12_165 (pf_X12_165 _) (z_okI_int rfl _) (by first | decide | omega) (by first | rfl | assumption) ?_
        generalize hgI3 : zu I2 78 (zu (I2 78) 21 (iI (S 2 - f_wc n F (zpw S w) x))) = I3
        have uI3 : ∀ p, p ≠ 78 → I3 p = I2 p := fun p a => by rw [← hgI3, zu_n _ _ a]
        have kI3 : ∀ k, k ≠ 21 → I3 78 k = I2 78 k := fun k a => by rw [← hgI3, zu_s, zu_n _ _ a]
        have sI3 : I3 78 21 = iI (S 2 - f_wc n F (zpw S w) x) := by rw [← hgI3, zu_s, zu_s]
        clear hgI3
        refine r_aload_n hV dX12_walk_73 rfl rfl ?_
        refine r_getR hV dX12_walk_74 fl_X12_41 (by first | decide | omega) (by first | rfl | assumption) o20 ?_
        refine r_iload_n hV dX12_walk_77 rfl ?_
        refine r_iload_n hV dX12_walk_78 rfl ?_
        refine s_iastore hV dX12_walk_79 (by first | decide | omega) (by first | rfl | assumption) (by decide) (by omega) (by omega) ?_
        have zA4 := z_ar_set (z_ar_fr zA2 (uI3 88 (by omega))) (z := w) (by omega) x
        generalize hI4 : zu I3 (88) (zu (I3 88) w.toNat (iI x)) = I4
        have hfI4 : ∀ q, q ≠ 88 → I4 q = I3 q := fun q h => by rw [← hI4]; exact zu_n _ _ h
        rw [hI4] at zA4
        clear hI4
        refine r_aload_n hV dX12_walk_80 rfl rfl ?_
        refine r_getI hV dX12_walk_81 fl_X12_165 (by first | decide | omega) (by first | rfl | assumption) ((congrFun (hfI4 78 (by omega)) 21).trans sI3) ?_
        refine r_iret hV dX12_walk_84 rfl rfl ?_
        show ite _ _ _
        rw [if_neg (by omega), if_neg (by omega)]
        have f1 : ∀ p, p ≠ 78 → p ≠ 88 → p ≠ 89 → I4 p = I2 p := fun p a b _ => (hfI4 p b).trans (uI3 p a)
        have f2 : ∀ k, k ≠ 21 → I4 78 k = I2 78 k := fun k a => (congrFun (hfI4 78 (by omega)) k).trans (kI3 k a)
        refine q_mact_of t0 t1 hI2 hB2 n1 n2 f1 (fun k a _ _ _ => f2 k a) ?_ ?_ ?_ ?_ ?_ ?_
        · rw [zup_s]; exact (congrFun (hfI4 78 (by omega)) 21).trans sI3
        · rw [zup_n (by omega), zup_n (by omega)]; exact (f2 22 (by omega)).trans i222
        · rw [zup_n (by omega), zup_n (by omega)]; exact (f2 23 (by omega)).trans i232
        · rw [zup_n (by omega), zup_n (by omega)]; exact (f2 24 (by omega)).trans i242
        · exact z_ar_eq zA4 (fun z a b => (zup_n (by omega)).symm)
        · exact z_ar_eq (z_ar_fr zN2 ((hfI4 89 (by omega)).trans (uI3 89 (by omega))) ) (fun z a b => by rw [zup_n (by omega), zup_n (by omega)])
      · refine s_bipush hV dX12_walk_41 (-3) (by decide) ?_
        refine r_iret hV dX12_walk_43 rfl rfl ?_
        show ite _ _ _
        rw [if_neg (by omega), if_pos (by omega)]
        exact ⟨rfl, rfl, rfl, t0, t1⟩
    · refine s_iconst hV dX12_walk_20 (-1) (by decide) ?_
      refine r_iret hV dX12_walk_21 rfl rfl ?_
      show ite _ _ _
      rw [if_pos (by omega)]
      exact ⟨rfl, rfl, rfl, t0, t1⟩

set_option maxRecDepth 20000 in
theorem n_carry (I : zI) (J : zJ) (P : zP) (hM : mK P) (tl st r c : Int) (n e : Nat) (T F W U K S : Int → Int) (hI : mI I tl st r c n e T F W U K S) (hnb : 2 ≤ n ∧ n ≤ 6) (hFd : zD F) (dn dh : Nat) (hg : cG n S dn dh) (hcb : 0 ≤ c ∧ c ≤ 16) (H : Nat → Int → Int) (hB : mB I c H) (w : Int) (hw : z_rg w) (x : Int) (hx : z_rg x) : z_Sp 3 yX12_carry cX12_carry 3 (some .int) 108 108 I J P [.ref 78, .int (iI w), .int (iI x)] (fun v I1 J1 P1 => if ¬ ((0 ≤ w ∧ w < 2) ∧ (0 ≤ x ∧ x < n)) then q_mno I J P (-1) v I1 J1 P1 else if ¬ S 0 = S 1 ∨ S 2 < 2 * f_wc n F (zpw S w) x then q_mno I J P (-3) v I1 J1 P1 else q_mact I J P tl st r (f_m16 c) n e T F W U K (zup (zup (zup S 0 x) 1 x) 2 (S 2 - 2 * f_wc n F (zpw S w) x)) (zpush S H) (S 2 - 2 * f_wc n F (zpw S w) x) v I1 J1 P1) := by
  obtain ⟨o1, o7, o9, o10, o11, o16, o17, o18, o19, o20, o25, o26, o28, o29, o30, o31, o36, o37, o38, o39, o40, o41, o42, o43, o44, o45, o46, o47, o48⟩ := id hM
  obtain ⟨g0, g1, g2, g3, g4, g5, g6, g7, g8⟩ := id hg
  have hw1 := hw.1
  have hw2 := hw.2
  have hx1 := hx.1
  have hx2 := hx.2
  refine z_met false (by decide +kernel) (fun h => by cases h) (Nat.le_of_ble_eq_true rfl) (by first | decide | omega) (fun V hV => ?_)
  show V 108 I J P 0 [.ref 78, .int (iI w), .int (iI x)] []
  refine r_aload_n hV dX12_carry_0 rfl rfl ?_
  refine s_iconst hV dX12_carry_1 (0) (by decide) ?_
  refine r_putI hV dX12_carry_2 fl_X12_104 (pf_X12_104 _) (z_okI_int rfl _) (by first | decide | omega) (by first | rfl | assumption) ?_
  generalize hI0e : zu I 78 (zu (I 78) 0 (iI 0)) = I0
  have t0 : ∀ q, q ≠ 78 → I0 q = I q := fun q h => by rw [← hI0e, zu_n _ _ h]
  have t1 : ∀ k, k ≠ 0 → I0 78 k = I 78 k := fun k h => by rw [← hI0e, zu_s, zu_n _ _ h]
  clear hI0e
  have hI0 := mI_fr hI t0 t1
  obtain ⟨⟨i20, i40, i50, i60, i80, i210, i220, i230, i240, i270⟩, zT0, zF0, zW0, zU0, zK0, zA0, zN0⟩ := id hI0
  refine r_iload_n hV dX12_carry_5 rfl ?_
  refine q_is1v hV dX12_carry_6 ms_X12_191 (n_noWalker I0 J P (w) (by unfold z_rg; omega)) (by decide) (Nat.le_refl _) (Nat.le_of_ble_eq_true rfl) ?_
  refine s_if_ne hV 20 dX12_carry_9 (by decide) (by unfold z_rg; first | omega | (split <;> omega)) (fun c9 => ?_) (fun c9 => ?_)
  · refine s_iconst hV dX12_carry_20 (-1) (by decide) ?_
    refine r_iret hV dX12_carry_21 rfl rfl ?_
    show ite _ _ _
    rw [if_pos (by omega)]
    exact ⟨rfl, rfl, rfl, t0, t1⟩
  · refine r_aload_n hV dX12_carry_12 rfl rfl ?_
    refine r_iload_n hV dX12_carry_13 rfl ?_
    refine q_iv1v hV dX12_carry_14 mv_X12_194 (n_noPlace I0 J P n i40 (by omega) (x) (by unfold z_rg; omega)) (by first | decide | omega) (by first | rfl | assumption) (by decide) (Nat.le_refl _) (Nat.le_of_ble_eq_true rfl) ?_
    refine s_if_eq hV 22 dX12_carry_17 (by decide) (by unfold z_rg; first | omega | (split <;> omega)) (fun c17 => ?_) (fun c17 => ?_)
    · refine r_aload_n hV dX12_carry_22 rfl rfl ?_
      refine r_getR hV dX12_carry_23 fl_X12_41 (by first | decide | omega) (by first | rfl | assumption) o20 ?_
      refine s_iconst hV dX12_carry_26 (0) (by decide) ?_
      refine s_iaload hV dX12_carry_27 (by first | decide | omega) (by first | rfl | assumption) (by decide) (by omega) (by omega) (zA0 0 (by omega) (by omega)) ?_
      refine r_aload_n hV dX12_carry_28 rfl rfl ?_
      refine r_getR hV dX12_carry_29 fl_X12_41 (by first | decide | omega) (by first | rfl | assumption) o20 ?_
      refine s_iconst hV dX12_carry_32 (1) (by decide) ?_
      refine s_iaload hV dX12_carry_33 (by first | decide | omega) (by first | rfl | assumption) (by decide) (by omega) (by omega) (zA0 1 (by omega) (by omega)) ?_
      refine s_icmp_ne hV 56 dX12_carry_34 (by decide) (by unfold z_rg; first | omega | (split <;> omega)) (by unfold z_rg; first | omega | (split <;> omega)) (fun c34 => ?_) (fun c34 => ?_)
      · refine s_bipush hV dX12_carry_56 (-3) (by decide) ?_
        refine r_iret hV dX12_carry_58 rfl rfl ?_
        show ite _ _ _
        rw [if_neg (by omega), if_pos (by omega)]
        exact ⟨rfl, rfl, rfl, t0, t1⟩
      · refine r_aload_n hV dX12_carry_37 rfl rfl ?_
        refine r_aload_n hV dX12_carry_38 rfl rfl ?_
        refine r_getR hV dX12_carry_39 fl_X12_41 (by first | decide | omega) (by first | rfl | assumption) o20 ?_
        refine r_iload_n hV dX12_carry_42 rfl ?_
        refine s_iaload hV dX12_carry_43 (by first | decide | omega) (by first | rfl | assumption) (by decide) (by omega) (by omega) (show I0 88 w.toNat = iI (zpw S w) from (zA0 w (by omega) (by omega)).trans (congrArg iI (zpw_S (S := S) (by omega)))) ?_
        refine r_iload_n hV dX12_carry_44 rfl ?_
        refine s_iconst hV dX12_carry_45 (2) (by decide) ?_
        refine r_aload_n hV dX12_carry_46 rfl rfl ?_
        refine r_getI hV dX12_carry_47 fl_X12_165 (by first | decide | omega) (by first | rfl | assumption) i210 ?_
        refine q_iv4v hV dX12_carry_50 mv_X12_204 (n_mayWalk I0 J P hM n hnb F zF0 hFd (zpw S w) x 2 (S 2) (zpw_b w hg) (by omega) (by omega) (by omega)) (by first | decide | omega) (by first | rfl | assumption) (by decide) (Nat.le_refl _) (Nat.le_of_ble_eq_true rfl) ?_
        refine s_if_ne hV 59 dX12_carry_53 (by decide) (by unfold z_rg; first | omega | (split <;> omega)) (fun c53 => ?_) (fun c53 => ?_)
        · refine r_aload_n hV dX12_carry_59 rfl rfl ?_
          refine r_iv0 hV dX12_carry_60 mv_X12_208 (n_note I0 J P hM tl st r c n e T F W U K S hI0 hcb H (mB_fr hB (t0 _ (by omega)))) (by first | decide | omega) (by first | rfl | assumption) (by decide) (Nat.le_refl _) (Nat.le_of_ble_eq_true rfl) (fun v2 I2 J2 P2 hq => ?_)
          obtain ⟨rfl, ej, ep, hI2, hB2, n1, n2⟩ := hq
          rw [ej, ep]
          show V 108 I2 J P _ _ []
          clear ej ep
          obtain ⟨⟨i22, i42, i52, i62, i82, i212, i222, i232, i242, i272⟩, zT2, zF2, zW2, zU2, zK2, zA2, zN2⟩ := id hI2
          have hpw := zpw_b w hg
          have hfb0 := hFd (6 * zpw S w + x) (by omega) (by omega)
          have hfe : F (zpw S w * 6 + x) = F (6 * zpw S w + x) := congrArg F (by omega)
          have hcost : mF F (6 * zpw S w + x) = f_wc n F (zpw S w) x := by
            unfold mF f_wc
            have hcc : 2 * f_wc n F (zpw S w) x ≤ S 2 := by omega
            unfold f_wc at hcc
            rw [hfe] at hcc ⊢
            split at hcc
            · omega
            · next q =>
              rw [if_pos (by omega)] at hcc
              rw [if_neg q, if_pos (by omega), if_pos (by omega)]
          refine r_aload_n hV dX12_carry_63 rfl rfl ?_
          refine r_dup hV dX12_carry_64 rfl ?_
          refine r_getI hV dX12_carry_65 fl_X12_165 (by first | decide | omega) (by first | rfl | assumption) i212 ?_
          refine s_iconst hV dX12_carry_68 (2) (by decide) ?_
          refine r_aload_n hV dX12_carry_69 rfl rfl ?_
          refine r_getR hV dX12_carry_70 fl_X12_17 (by first | decide | omega) (by first | rfl | assumption) o7 ?_
          refine s_bipush hV dX12_carry_73 (6) (by decide) ?_
          refine r_aload_n hV dX12_carry_75 rfl rfl ?_
          refine r_getR hV dX12_carry_76 fl_X12_41 (by first | decide | omega) (by first | rfl | assumption) o20 ?_
          refine r_iload_n hV dX12_carry_79 rfl ?_
          refine s_iaload hV dX12_carry_80 (by first | decide | omega) (by first | rfl | assumption) (by decide) (by omega) (by omega) (show I2 88 w.toNat = iI (zpw S w) from (zA2 w (by omega) (by omega)).trans (congrArg iI (zpw_S (S := S) (by omega)))) ?_
          refine s_imul hV dX12_carry_81 ?_
          refine r_iload_n hV dX12_carry_82 rfl ?_
          refine s_iadd hV dX12_carry_83 ?_
          refine s_iaload hV dX12_carry_84 (by first | decide | omega) (by first | rfl | assumption) (by decide) (by omega) (by omega) ((zF2 (6 * zpw S w + x) (by omega) (by omega)).trans (congrArg iI hcost)) ?_
          refine s_imul hV dX12_carry_85 ?_
          refine s_isub hV dX12_carry_86 ?_
          refine r_putI hV dX12_carry_87 fl_X12_165 (pf_X12_165 _) (z_okI_int rfl _) (by first | decide | omega) (by first | rfl | assumption) ?_
          generalize hgI3 : zu I2 78 (zu (I2 78) 21 (iI (S 2 - 2 * f_wc n F (zpw S w) x))) = I3
          have uI3 : ∀ p, p ≠ 78 → I3 p = I2 p := fun p a => by rw [← hgI3, zu_n _ _ a]
          have kI3 : ∀ k, k ≠ 21 → I3 78 k = I2 78 k := fun k a => by rw [← hgI3, zu_s, zu_n _ _ a]
          have sI3 : I3 78 21 = iI (S 2 - 2 * f_wc n F (zpw S w) x) := by rw [← hgI3, zu_s, zu_s]
          clear hgI3
          refine r_aload_n hV dX12_carry_90 rfl rfl ?_
          refine r_getR hV dX12_carry_91 fl_X12_41 (by first | decide | omega) (by first | rfl | assumption) o20 ?_
          refine s_iconst hV dX12_carry_94 (0) (by decide) ?_
          refine r_iload_n hV dX12_carry_95 rfl ?_
          refine s_iastore hV dX12_carry_96 (by first | decide | omega) (by first | rfl | assumption) (by decide) (by omega) (by omega) ?_
          have zA4 := z_ar_set (z_ar_fr zA2 (uI3 88 (by omega))) (z := 0) (by omega) x
          generalize hI4 : zu I3 (88) (zu (I3 88) (0 : Int).toNat (iI x)) = I4
          have hfI4 : ∀ q, q ≠ 88 → I4 q = I3 q := fun q h => by rw [← hI4]; exact zu_n _ _ h
          rw [hI4] at zA4
          clear hI4
          refine r_aload_n hV dX12_carry_97 rfl rfl ?_
          refine r_getR hV dX12_carry_98 fl_X12_41 (by first | decide | omega) (by first | rfl | assumption) o20 ?_
          refine s_iconst hV dX12_carry_101 (1) (by decide) ?_
          refine r_iload_n hV dX12_carry_102 rfl ?_
          refine s_iastore hV dX12_carry_103 (by first | decide | omega) (by first | rfl | assumption) (by decide) (by omega) (by omega) ?_
          have zA5 := z_ar_set zA4 (z := 1) (by omega) x
          generalize hI5 : zu I4 (88) (zu (I4 88) (1 : Int).toNat (iI x)) = I5
          have hfI5 : ∀ q, q ≠ 88 → I5 q = I4 q := fun q h => by rw [← hI5]; exact zu_n _ _ h
          rw [hI5] at zA5
          clear hI5
          have hf54 : ∀ p, p ≠ 88 → I5 p = I3 p := fun p a => (hfI5 p a).trans (hfI4 p a)
          refine r_aload_n hV dX12_carry_104 rfl rfl ?_
          refine r_getI hV dX12_carry_105 fl_X12_165 (by first | decide | omega) (by first | rfl | assumption) ((congrFun (hf54 78 (by omega)) 21).trans sI3) ?_
          refine r_iret hV dX12_carry_108 rfl rfl ?_
          show ite _ _ _
          rw [if_neg (by omega), if_neg (by omega)]
          have f1 : ∀ p, p ≠ 78 → p ≠ 88 → p ≠ 89 → I5 p = I2 p := fun p a b _ => (hf54 p b).trans (uI3 p a)
          have f2 : ∀ k, k ≠ 21 → I5 78 k = I2 78 k := fun k a => (congrFun (hf54 78 (by omega)) k).trans (kI3 k a)
          refine q_mact_of t0 t1 hI2 hB2 n1 n2 f1 (fun k a _ _ _ => f2 k a) ?_ ?_ ?_ ?_ ?_ ?_
          · rw [zup_s]; exact (congrFun (hf54 78 (by omega)) 21).trans sI3
          · rw [zup_n (by omega), zup_n (by omega), zup_n (by omega)]; exact (f2 22 (by omega)).trans i222
          · rw [zup_n (by omega), zup_n (by omega), zup_n (by omega)]; exact (f2 23 (by omega)).trans i232
          · rw [zup_n (by omega), zup_n (by omega), zup_n (by omega)]; exact (f2 24 (by omega)).trans i242
          · exact z_ar_eq zA5 (fun z a b => (zup_n (by omega)).symm)
          · exact z_ar_eq (z_ar_fr zN2 ((hf54 89 (by omega)).trans (uI3 89 (by omega)))) (fun z a b => by rw [zup_n (by omega), zup_n (by omega), zup_n (by omega)])
        · refine s_bipush hV dX12_carry_56 (-3) (by decide) ?_
          refine r_iret hV dX12_carry_58 rfl rfl ?_
          show ite _ _ _
          rw [if_neg (by omega), if_pos (by omega)]
          exact ⟨rfl, rfl, rfl, t0, t1⟩
    · refine s_iconst hV dX12_carry_20 (-1) (by decide) ?_
      refine r_iret hV dX12_carry_21 rfl rfl ?_
      show ite _ _ _
      rw [if_pos (by omega)]
      exact ⟨rfl, rfl, rfl, t0, t1⟩

theorem zb_shw {w : Int} {k : Nat} (hw : w = 0 ∨ w = 1) (hk : k < 8) : iI w <<< (iI (k : Int) &&& 31) = iI ((if w = 1 then ((2 ^ k : Nat) : Int) else 0)) := by
  rcases hw with rfl | rfl
  · rw [if_neg (by omega)]
    revert k
    decide +kernel
  · rw [if_pos rfl]; exact zb_shl hk
theorem zb_orw {w : Int} {d k : Nat} (hd : d < 64) (hk : k < 6) : iI (d : Int) ||| iI (if w = 1 then ((2 ^ k : Nat) : Int) else 0) = iI (if w = 1 then ((d ||| 2 ^ k : Nat) : Int) else d) := by
  split
  · exact zb_or hd (z_pw hk)
  · have := zb_or (b := 0) hd (by omega)
    rw [Nat.or_zero] at this
    exact this
set_option maxRecDepth 20000 in
theorem n_done (I : zI) (J : zJ) (P : zP) (hM : mK P) (tl st r c : Int) (n e : Nat) (T F W U K S : Int → Int) (hI : mI I tl st r c n e T F W U K S) (hnb : 2 ≤ n ∧ n ≤ 6) (he6 : e ≤ 6) (hWb : z_bd W e 0 (n - 1)) (hKb : z_bd K 6 0 2) (dn dh : Nat) (hg : cG n S dn dh) (hcb : 0 ≤ c ∧ c ≤ 16) (H : Nat → Int → Int) (hB : mB I c H) (w : Int) (hw : z_rg w) (x : Int) (hx : z_rg x) : z_Sp 3 yX12_done cX12_done 3 (some .int) 108 108 I J P [.ref 78, .int (iI w), .int (iI x)] (fun v I1 J1 P1 => if ¬ ((0 ≤ w ∧ w < 2) ∧ (0 ≤ x ∧ x < e)) then q_mno I J P (-1) v I1 J1 P1 else if ¬ (((K x = 2 ∨ K x = w) ∧ ¬ dn.testBit x.toNat = true) ∧ zpw S w = W x) then q_mno I J P (-3) v I1 J1 P1 else q_mact I J P tl st r (f_m16 c) n e T F W U K (zup (zup S 3 ((dn ||| 2 ^ x.toNat : Nat) : Int)) 4 (if w = 1 then ((dh ||| 2 ^ x.toNat : Nat) : Int) else dh)) (zpush S H) (U x) v I1 J1 P1) := by
  obtain ⟨o1, o7, o9, o10, o11, o16, o17, o18, o19, o20, o25, o26, o28, o29, o30, o31, o36, o37, o38, o39, o40, o41, o42, o43, o44, o45, o46, o47, o48⟩ := id hM
  obtain ⟨g0, g1, g2, g3, g4, g5, g6, g7, g8⟩ := id hg
  have hw1 := hw.1
  have hw2 := hw.2
  have hx1 := hx.1
  have hx2 := hx.2
  have hpw := zpw_b w hg
  refine z_met false (by decide +kernel) (fun h => by cases h) (Nat.le_of_ble_eq_true rfl) (by first | decide | omega) (fun V hV => ?_)
  show V 108 I J P 0 [.ref 78, .int (iI w), .int (iI x)] []
  refine r_aload_n hV dX12_done_0 rfl rfl ?_
  refine s_iconst hV dX12_done_1 (0) (by decide) ?_
  refine r_putI hV dX12_done_2 fl_X12_104 (pf_X12_104 _) (z_okI_int rfl _) (by first | decide | omega) (by first | rfl | assumption) ?_
  generalize hI0e : zu I 78 (zu (I 78) 0 (iI 0)) = I0
  have t0 : ∀ q, q ≠ 78 → I0 q = I q := fun q h => by rw [← hI0e, zu_n _ _ h]
  have t1 : ∀ k, k ≠ 0 → I0 78 k = I 78 k := fun k h => by rw [← hI0e, zu_s, zu_n _ _ h]
  clear hI0e
  have hI0 := mI_fr hI t0 t1
  obtain ⟨⟨i20, i40, i50, i60, i80, i210, i220, i230, i240, i270⟩, zT0, zF0, zW0, zU0, zK0, zA0, zN0⟩ := id hI0
  refine r_iload_n hV dX12_done_5 rfl ?_
  refine q_is1v hV dX12_done_6 ms_X12_191 (n_noWalker I0 J P (w) (by unfold z_rg; omega)) (by decide) (Nat.le_refl _) (Nat.le_of_ble_eq_true rfl) ?_
  refine s_if_ne hV 20 dX12_done_9 (by decide) (by unfold z_rg; first | omega | (split <;> omega)) (fun c9 => ?_) (fun c9 => ?_)
  · refine s_iconst hV dX12_done_20 (-1) (by decide) ?_
    refine r_iret hV dX12_done_21 rfl rfl ?_
    show ite _ _ _
    rw [if_pos (by omega)]
    exact ⟨rfl, rfl, rfl, t0, t1⟩
  · refine r_aload_n hV dX12_done_12 rfl rfl ?_
    refine r_iload_n hV dX12_done_13 rfl ?_
    refine q_iv1v hV dX12_done_14 mv_X12_197 (n_noErrand I0 J P e i80 (by omega) (x) (by unfold z_rg; omega)) (by first | decide | omega) (by first | rfl | assumption) (by decide) (Nat.le_refl _) (Nat.le_of_ble_eq_true rfl) ?_
    refine s_if_eq hV 22 dX12_done_17 (by decide) (by unfold z_rg; first | omega | (split <;> omega)) (fun c17 => ?_) (fun c17 => ?_)
    · refine r_aload_n hV dX12_done_22 rfl rfl ?_
      refine r_getI hV dX12_done_23 fl_X12_168 (by first | decide | omega) (by first | rfl | assumption) (i220.trans (by rw [g3])) ?_
      refine r_iload_n hV dX12_done_26 rfl ?_
      rw [show iI x = iI ((x.toNat : Nat) : Int) by rw [Int.toNat_of_nonneg (by omega)]]
      refine q_is2v hV dX12_done_27 ms_X12_180 (n_has I0 J P dn x.toNat g4 (by omega)) (by decide) (Nat.le_refl _) (Nat.le_of_ble_eq_true rfl) ?_
      rw [show iI ((x.toNat : Nat) : Int) = iI x by rw [Int.toNat_of_nonneg (by omega)]]
      refine s_if_ne hV 57 dX12_done_30 (by decide) (by unfold z_rg; first | omega | (split <;> omega)) (fun c30 => ?_) (fun c30 => ?_)
      · have hdb := z_ite1 c30
        refine s_bipush hV dX12_done_57 (-3) (by decide) ?_
        refine r_iret hV dX12_done_59 rfl rfl ?_
        show ite _ _ _
        rw [if_neg (by omega), if_pos (by intro hh; first | exact hh.1.2 hdb | exact hcd hh.1.1 | omega)]
        exact ⟨rfl, rfl, rfl, t0, t1⟩
      · have hdb := z_ite0 (by first | exact c30 | exact Classical.not_not.mp c30)
        refine r_aload_n hV dX12_done_33 rfl rfl ?_
        refine r_iload_n hV dX12_done_34 rfl ?_
        refine r_iload_n hV dX12_done_35 rfl ?_
        refine q_iv2v hV dX12_done_36 mv_X12_211 (n_canDo I0 J P hM e K zK0 he6 hKb w x hw (by omega)) (by first | decide | omega) (by first | rfl | assumption) (by decide) (Nat.le_refl _) (Nat.le_of_ble_eq_true rfl) ?_
        refine s_if_eq hV 57 dX12_done_39 (by decide) (by unfold z_rg; first | omega | (split <;> omega)) (fun c39 => ?_) (fun c39 => ?_)
        · have hcd := z_ite0 (by first | exact c39 | exact Classical.not_not.mp c39)
          refine s_bipush hV dX12_done_57 (-3) (by decide) ?_
          refine r_iret hV dX12_done_59 rfl rfl ?_
          show ite _ _ _
          rw [if_neg (by omega), if_pos (by intro hh; first | exact hh.1.2 hdb | exact hcd hh.1.1 | omega)]
          exact ⟨rfl, rfl, rfl, t0, t1⟩
        · have hcd := z_ite1 c39
          refine r_aload_n hV dX12_done_42 rfl rfl ?_
          refine r_getR hV dX12_done_43 fl_X12_41 (by first | decide | omega) (by first | rfl | assumption) o20 ?_
          refine r_iload_n hV dX12_done_46 rfl ?_
          refine s_iaload hV dX12_done_47 (by first | decide | omega) (by first | rfl | assumption) (by decide) (by omega) (by omega) (show I0 88 w.toNat = iI (zpw S w) from (zA0 w (by omega) (by omega)).trans (congrArg iI (zpw_S (S := S) (by omega)))) ?_
          refine r_aload_n hV dX12_done_48 rfl rfl ?_
          refine r_getR hV dX12_done_49 fl_X12_20 (by first | decide | omega) (by first | rfl | assumption) o9 ?_
          refine r_iload_n hV dX12_done_52 rfl ?_
          refine s_iaload hV dX12_done_53 (by first | decide | omega) (by first | rfl | assumption) (by decide) (by omega) (by omega) (zW0 x (by omega) (by omega)) ?_
          have hwb := hWb x (by omega) (by omega)
          refine s_icmp_eq hV 60 dX12_done_54 (by decide) (by unfold z_rg; first | omega | (split <;> omega)) (by unfold z_rg; first | omega | (split <;> omega)) (fun c54 => ?_) (fun c54 => ?_)
          · refine r_aload_n hV dX12_done_60 rfl rfl ?_
            refine r_iv0 hV dX12_done_61 mv_X12_208 (n_note I0 J P hM tl st r c n e T F W U K S hI0 hcb H (mB_fr hB (t0 _ (by omega)))) (by first | decide | omega) (by first | rfl | assumption) (by decide) (Nat.le_refl _) (Nat.le_of_ble_eq_true rfl) (fun v2 I2 J2 P2 hq => ?_)
            obtain ⟨rfl, ej, ep, hI2, hB2, n1, n2⟩ := hq
            rw [ej, ep]
            show V 108 I2 J P _ _ []
            clear ej ep
            obtain ⟨⟨i22, i42, i52, i62, i82, i212, i222, i232, i242, i272⟩, zT2, zF2, zW2, zU2, zK2, zA2, zN2⟩ := id hI2
            refine r_aload_n hV dX12_done_64 rfl rfl ?_
            refine r_dup hV dX12_done_65 rfl ?_
            refine r_getI hV dX12_done_66 fl_X12_168 (by first | decide | omega) (by first | rfl | assumption) (i222.trans (by rw [g3])) ?_
            refine s_iconst hV dX12_done_69 (1) (by decide) ?_
            refine r_iload_n hV dX12_done_70 rfl ?_
            rw [show iI x = iI ((x.toNat : Nat) : Int) by rw [Int.toNat_of_nonneg (by omega)]]
            refine s_ishl hV dX12_done_71 (zb_shl (by omega)) ?_
            refine s_ior hV dX12_done_72 (zb_or g4 (z_pw (by omega))) ?_
            rw [show iI ((x.toNat : Nat) : Int) = iI x by rw [Int.toNat_of_nonneg (by omega)]]
            refine r_putI hV dX12_done_73 fl_X12_168 (pf_X12_168 _) (z_okI_int rfl _) (by first | decide | omega) (by first | rfl | assumption) ?_
            generalize hgI3 : zu I2 78 (zu (I2 78) 22 (iI (((dn ||| 2 ^ x.toNat : Nat) : Int)))) = I3
            have uI3 : ∀ p, p ≠ 78 → I3 p = I2 p := fun p a => by rw [← hgI3, zu_n _ _ a]
            have kI3 : ∀ k, k ≠ 22 → I3 78 k = I2 78 k := fun k a => by rw [← hgI3, zu_s, zu_n _ _ a]
            have sI3 : I3 78 22 = iI (((dn ||| 2 ^ x.toNat : Nat) : Int)) := by rw [← hgI3, zu_s, zu_s]
            clear hgI3
            refine r_aload_n hV dX12_done_76 rfl rfl ?_
            refine r_dup hV dX12_done_77 rfl ?_
            refine r_getI hV dX12_done_78 fl_X12_171 (by first | decide | omega) (by first | rfl | assumption) ((kI3 23 (by omega)).trans (i232.trans (by rw [g5]))) ?_
            refine r_iload_n hV dX12_done_81 rfl ?_
            refine r_iload_n hV dX12_done_82 rfl ?_
            rw [show iI x = iI ((x.toNat : Nat) : Int) by rw [Int.toNat_of_nonneg (by omega)]]
            refine s_ishl hV dX12_done_83 (zb_shw (by omega) (by omega)) ?_
            refine s_ior hV dX12_done_84 (zb_orw g6 (by omega)) ?_
            rw [show iI ((x.toNat : Nat) : Int) = iI x by rw [Int.toNat_of_nonneg (by omega)]]
            refine r_putI hV dX12_done_85 fl_X12_171 (pf_X12_171 _) (z_okI_int rfl _) (by first | decide | omega) (by first | rfl | assumption) ?_
            generalize hgI4 : zu I3 78 (zu (I3 78) 23 (iI ((if w = 1 then ((dh ||| 2 ^ x.toNat : Nat) : Int) else dh)))) = I4
            have uI4 : ∀ p, p ≠ 78 → I4 p = I3 p := fun p a => by rw [← hgI4, zu_n _ _ a]
            have kI4 : ∀ k, k ≠ 23 → I4 78 k = I3 78 k := fun k a => by rw [← hgI4, zu_s, zu_n _ _ a]
            have sI4 : I4 78 23 = iI ((if w = 1 then ((dh ||| 2 ^ x.toNat : Nat) : Int) else dh)) := by rw [← hgI4, zu_s, zu_s]
            clear hgI4
            refine r_aload_n hV dX12_done_88 rfl rfl ?_
            refine r_getR hV dX12_done_89 fl_X12_23 (by first | decide | omega) (by first | rfl | assumption) o10 ?_
            refine r_iload_n hV dX12_done_92 rfl ?_
            refine s_iaload hV dX12_done_93 (by first | decide | omega) (by first | rfl | assumption) (by decide) (by omega) (by omega) ((congrFun ((uI4 82 (by omega)).trans (uI3 82 (by omega))) _).trans (zU2 x (by omega) (by omega))) ?_
            refine r_iret hV dX12_done_94 rfl rfl ?_
            show ite _ _ _
            rw [if_neg (by omega), if_neg (fun hh => hh ⟨⟨hcd, hdb⟩, by omega⟩)]
            refine q_mact_of t0 t1 hI2 hB2 n1 n2 (fun p a _ _ => (uI4 p a).trans (uI3 p a)) (fun k _ a b _ => (kI4 k b).trans (kI3 k a)) ?_ ?_ ?_ ?_ ?_ ?_
            · rw [zup_n (by omega), zup_n (by omega)]; exact ((kI4 21 (by omega)).trans (kI3 21 (by omega))).trans i212
            · rw [zup_n (by omega), zup_s]; exact (kI4 22 (by omega)).trans sI3
            · rw [zup_s]; exact sI4
            · rw [zup_n (by omega), zup_n (by omega)]; exact ((kI4 24 (by omega)).trans (kI3 24 (by omega))).trans i242
            · exact z_ar_eq (z_ar_fr zA2 ((uI4 88 (by omega)).trans (uI3 88 (by omega)))) (fun z a b => by rw [zup_n (by omega), zup_n (by omega)])
            · exact z_ar_eq (z_ar_fr zN2 ((uI4 89 (by omega)).trans (uI3 89 (by omega)))) (fun z a b => by rw [zup_n (by omega), zup_n (by omega)])
          · refine s_bipush hV dX12_done_57 (-3) (by decide) ?_
            refine r_iret hV dX12_done_59 rfl rfl ?_
            show ite _ _ _
            rw [if_neg (by omega), if_pos (by intro hh; first | exact hh.1.2 hdb | exact hcd hh.1.1 | omega)]
            exact ⟨rfl, rfl, rfl, t0, t1⟩
    · refine s_iconst hV dX12_done_20 (-1) (by decide) ?_
      refine r_iret hV dX12_done_21 rfl rfl ?_
      show ite _ _ _
      rw [if_pos (by omega)]
      exact ⟨rfl, rfl, rfl, t0, t1⟩

