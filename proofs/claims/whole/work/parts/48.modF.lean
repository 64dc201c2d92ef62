set_option maxRecDepth 20000 in
theorem n_loan (I : zI) (J : zJ) (P : zP) (hM : mK P) (tl st r c : Int) (n e : Nat) (T F W U K S : Int → Int) (hI : mI I tl st r c n e T F W U K S) (dn dh : Nat) (hg : cG n S dn dh) (hcb : 0 ≤ c ∧ c ≤ 16) (H : Nat → Int → Int) (hB : mB I c H) (x : Int) (hx : z_rg x) (b : Int) (hb : z_rg b) (hb01 : b = 0 ∨ b = 1) : z_Sp 3 yX12_loan cX12_loan 3 (some .int) 108 108 I J P [.ref 78, .int (iI x), .int (iI b)] (fun v I1 J1 P1 => if x < 1 ∨ 99 < x then q_mno I J P (-2) v I1 J1 P1 else if b = 0 ∧ S 2 < x then q_mno I J P (-3) v I1 J1 P1 else if 8 ≤ S 5 then q_mno I J P (-4) v I1 J1 P1 else q_mact I J P tl st r (f_m16 c) n e T F W U K (zup (zup (zup S (6 + S 5) (if b = 0 then x else -x)) 5 (S 5 + 1)) 2 (S 2 - (if b = 0 then x else -x))) (zpush S H) (S 2 - (if b = 0 then x else -x)) v I1 J1 P1) := by
  obtain ⟨o1, o7, o9, o10, o11, o16, o17, o18, o19, o20, o25, o26, o28, o29, o30, o31, o36, o37, o38, o39, o40, o41, o42, o43, o44, o45, o46, o47, o48⟩ := id hM
  obtain ⟨g0, g1, g2, g3, g4, g5, g6, g7, g8⟩ := id hg
  have hx1 := hx.1
  have hx2 := hx.2
  have hb1 := hb.1
  have hb2 := hb.2
  refine z_met false (by decide +kernel) (fun h => by cases h) (Nat.le_of_ble_eq_true rfl) (by first | decide | omega) (fun V hV => ?_)
  show V 108 I J P 0 [.ref 78, .int (iI x), .int (iI b)] []
  refine r_aload_n hV dX12_loan_0 rfl rfl ?_
  refine s_iconst hV dX12_loan_1 (0) (by decide) ?_
  refine r_putI hV dX12_loan_2 fl_X12_104 (pf_X12_104 _) (z_okI_int rfl _) (by first | decide | omega) (by first | rfl | assumption) ?_
  generalize hI0e : zu I 78 (zu (I 78) 0 (iI 0)) = I0
  have t0 : ∀ q, q ≠ 78 → I0 q = I q := fun q h => by rw [← hI0e, zu_n _ _ h]
  have t1 : ∀ k, k ≠ 0 → I0 78 k = I 78 k := fun k h => by rw [← hI0e, zu_s, zu_n _ _ h]
  clear hI0e
  have hI0 := mI_fr hI t0 t1
  obtain ⟨⟨i20, i40, i50, i60, i80, i210, i220, i230, i240, i270⟩, zT0, zF0, zW0, zU0, zK0, zA0, zN0⟩ := id hI0
  refine r_iload_n hV dX12_loan_5 rfl ?_
  refine s_i2l hV dX12_loan_6 (by unfold z_rg; first | omega | (split <;> omega)) ?_
  refine s_lconst hV dX12_loan_7 (1) (by decide) ?_
  refine s_ldc2_w hV dX12_loan_8 cl_X12_214 (99) (by decide) ?_
  refine q_is3v hV dX12_loan_11 ms_X12_107 (n_in I0 J P (x) (1) (99) (by unfold z_rgL; omega) (by unfold z_rgL; omega) (by unfold z_rgL; omega)) (by decide) (Nat.le_refl _) (Nat.le_of_ble_eq_true rfl) ?_
  refine s_if_ne hV 20 dX12_loan_14 (by decide) (by unfold z_rg; first | omega | (split <;> omega)) (fun c14 => ?_) (fun c14 => ?_)
  · refine r_iload_n hV dX12_loan_20 rfl ?_
    refine s_if_ne hV 35 dX12_loan_21 (by decide) (by unfold z_rg; first | omega | (split <;> omega)) (fun c21 => ?_) (fun c21 => ?_)
    · refine r_aload_n hV dX12_loan_35 rfl rfl ?_
      refine r_getI hV dX12_loan_36 fl_X12_174 (by first | decide | omega) (by first | rfl | assumption) i240 ?_
      refine s_bipush hV dX12_loan_39 (8) (by decide) ?_
      refine s_icmp_ne hV 47 dX12_loan_41 (by decide) (by unfold z_rg; first | omega | (split <;> omega)) (by unfold z_rg; first | omega | (split <;> omega)) (fun c41 => ?_) (fun c41 => ?_)
      · refine r_aload_n hV dX12_loan_47 rfl rfl ?_
        refine r_iv0 hV dX12_loan_48 mv_X12_208 (n_note I0 J P hM tl st r c n e T F W U K S hI0 hcb H (mB_fr hB (t0 _ (by omega)))) (by first | decide | omega) (by first | rfl | assumption) (by decide) (Nat.le_refl _) (Nat.le_of_ble_eq_true rfl) (fun v2 I2 J2 P2 hq => ?_)
        obtain ⟨rfl, ej, ep, hI2, hB2, n1, n2⟩ := hq
        rw [ej, ep]
        show V 108 I2 J P _ _ []
        clear ej ep
        obtain ⟨⟨i22, i42, i52, i62, i82, i212, i222, i232, i242, i272⟩, zT2, zF2, zW2, zU2, zK2, zA2, zN2⟩ := id hI2
        refine r_aload_n hV dX12_loan_51 rfl rfl ?_
        refine r_getR hV dX12_loan_52 fl_X12_44 (by first | decide | omega) (by first | rfl | assumption) o25 ?_
        refine r_aload_n hV dX12_loan_55 rfl rfl ?_
        refine r_getI hV dX12_loan_56 fl_X12_174 (by first | decide | omega) (by first | rfl | assumption) i242 ?_
        refine r_iload_n hV dX12_loan_59 rfl ?_
        refine s_if_eq hV 68 dX12_loan_60 (by decide) (by unfold z_rg; first | omega | (split <;> omega)) (fun c60 => ?_) (fun c60 => ?_)
        · obtain ⟨u, hu⟩ : ∃ u : Int, u = x := ⟨x, rfl⟩
          have hV2 : (if b = 0 then x else -x) = u := by rw [if_pos (by omega), hu]
          refine r_iload_n hV dX12_loan_68 rfl ?_
          first
            | rw [show iI (-x) = iI u by rw [hu]]
            | rw [show iI x = iI u by rw [hu]]
          refine s_iastore hV dX12_loan_69 (by first | decide | omega) (by first | rfl | assumption) (by decide) (by omega) (by omega) ?_
          have hz3 := z_ar_set zN2 (z := S 5) (by omega) (u)
          generalize hI3 : zu I2 (89) (zu (I2 89) (S 5).toNat (iI (u))) = I3
          have hfI3 : ∀ q, q ≠ 89 → I3 q = I2 q := fun q h => by rw [← hI3]; exact zu_n _ _ h
          rw [hI3] at hz3
          clear hI3
          refine r_aload_n hV dX12_loan_70 rfl rfl ?_
          refine r_dup hV dX12_loan_71 rfl ?_
          refine r_getI hV dX12_loan_72 fl_X12_174 (by first | decide | omega) (by first | rfl | assumption) ((congrFun (hfI3 78 (by omega)) 24).trans i242) ?_
          refine s_iconst hV dX12_loan_75 (1) (by decide) ?_
          refine s_iadd hV dX12_loan_76 ?_
          refine r_putI hV dX12_loan_77 fl_X12_174 (pf_X12_174 _) (z_okI_int rfl _) (by first | decide | omega) (by first | rfl | assumption) ?_
          generalize hgI4 : zu I3 78 (zu (I3 78) 24 (iI (S 5 + 1))) = I4
          have uI4 : ∀ p, p ≠ 78 → I4 p = I3 p := fun p a => by rw [← hgI4, zu_n _ _ a]
          have kI4 : ∀ k, k ≠ 24 → I4 78 k = I3 78 k := fun k a => by rw [← hgI4, zu_s, zu_n _ _ a]
          have sI4 : I4 78 24 = iI (S 5 + 1) := by rw [← hgI4, zu_s, zu_s]
          clear hgI4
          refine r_aload_n hV dX12_loan_80 rfl rfl ?_
          refine r_dup hV dX12_loan_81 rfl ?_
          refine r_getI hV dX12_loan_82 fl_X12_165 (by first | decide | omega) (by first | rfl | assumption) ((kI4 21 (by omega)).trans ((congrFun (hfI3 78 (by omega)) 21).trans i212)) ?_
          refine r_iload_n hV dX12_loan_85 rfl ?_
          refine s_if_eq hV 93 dX12_loan_86 (by decide) (by unfold z_rg; first | omega | (split <;> omega)) (fun c86 => ?_) (fun c86 => ?_)
          · refine r_iload_n hV dX12_loan_93 rfl ?_
            refine s_ineg hV dX12_loan_94 ?_
            refine s_iadd hV dX12_loan_95 ?_
            first
              | rw [show S 2 + -u = S 2 - u by omega]
              | rw [show S 2 + x = S 2 - u by omega]
              | rw [show S 2 + u = S 2 - u by omega]
              | rw [show S 2 + -x = S 2 - u by omega]
            refine r_putI hV dX12_loan_96 fl_X12_165 (pf_X12_165 _) (z_okI_int rfl _) (by first | decide | omega) (by first | rfl | assumption) ?_
            generalize hgI5 : zu I4 78 (zu (I4 78) 21 (iI (S 2 - u))) = I5
            have uI5 : ∀ p, p ≠ 78 → I5 p = I4 p := fun p a => by rw [← hgI5, zu_n _ _ a]
            have kI5 : ∀ k, k ≠ 21 → I5 78 k = I4 78 k := fun k a => by rw [← hgI5, zu_s, zu_n _ _ a]
            have sI5 : I5 78 21 = iI (S 2 - u) := by rw [← hgI5, zu_s, zu_s]
            clear hgI5
            refine r_aload_n hV dX12_loan_99 rfl rfl ?_
            refine r_getI hV dX12_loan_100 fl_X12_165 (by first | decide | omega) (by first | rfl | assumption) sI5 ?_
            refine r_iret hV dX12_loan_103 rfl rfl ?_
            show ite _ _ _
            rw [if_neg (by omega), if_neg (by omega), if_neg (by omega)]
            rw [hV2]
            refine q_mact_of t0 t1 hI2 hB2 n1 n2 (fun p a _ b => (uI5 p a).trans ((uI4 p a).trans (hfI3 p b))) (fun k a _ _ b => (kI5 k a).trans ((kI4 k b).trans (congrFun (hfI3 78 (by omega)) k))) ?_ ?_ ?_ ?_ ?_ ?_
            · rw [zup_s]; exact sI5
            · rw [zup_n (by omega), zup_n (by omega), zup_n (by omega)]; exact ((kI5 22 (by omega)).trans (kI4 22 (by omega))).trans ((congrFun (hfI3 78 (by omega)) 22).trans i222)
            · rw [zup_n (by omega), zup_n (by omega), zup_n (by omega)]; exact ((kI5 23 (by omega)).trans (kI4 23 (by omega))).trans ((congrFun (hfI3 78 (by omega)) 23).trans i232)
            · rw [zup_n (by omega), zup_s]; exact (kI5 24 (by omega)).trans sI4
            · exact z_ar_eq (z_ar_fr zA2 ((uI5 88 (by omega)).trans ((uI4 88 (by omega)).trans (hfI3 88 (by omega))))) (fun z a b => by rw [zup_n (by omega), zup_n (by omega), zup_n (by omega)])
            · exact z_ar_eq (z_ar_fr hz3 ((uI5 89 (by omega)).trans (uI4 89 (by omega)))) (fun z a a2 => by
                unfold zup
                by_cases hz : z = S 5
                · rw [if_pos hz, if_neg (by omega), if_neg (by omega), if_pos (by omega)]
                · rw [if_neg hz, if_neg (by omega), if_neg (by omega), if_neg (by omega)])
          · refine r_iload_n hV dX12_loan_89 rfl ?_
            refine r_goto hV 95 dX12_loan_90 (by decide) ?_
            refine s_iadd hV dX12_loan_95 ?_
            first
              | rw [show S 2 + -u = S 2 - u by omega]
              | rw [show S 2 + x = S 2 - u by omega]
              | rw [show S 2 + u = S 2 - u by omega]
              | rw [show S 2 + -x = S 2 - u by omega]
            refine r_putI hV dX12_loan_96 fl_X12_165 (pf_X12_165 _) (z_okI_int rfl _) (by first | decide | omega) (by first | rfl | assumption) ?_
            generalize hgI5 : zu I4 78 (zu (I4 78) 21 (iI (S 2 - u))) = I5
            have uI5 : ∀ p, p ≠ 78 → I5 p = I4 p := fun p a => by rw [← hgI5, zu_n _ _ a]
            have kI5 : ∀ k, k ≠ 21 → I5 78 k = I4 78 k := fun k a => by rw [← hgI5, zu_s, zu_n _ _ a]
            have sI5 : I5 78 21 = iI (S 2 - u) := by rw [← hgI5, zu_s, zu_s]
            clear hgI5
            refine r_aload_n hV dX12_loan_99 rfl rfl ?_
            refine r_getI hV dX12_loan_100 fl_X12_165 (by first | decide | omega) (by first | rfl | assumption) sI5 ?_
            refine r_iret hV dX12_loan_103 rfl rfl ?_
            show ite _ _ _
            rw [if_neg (by omega), if_neg (by omega), if_neg (by omega)]
            rw [hV2]
            refine q_mact_of t0 t1 hI2 hB2 n1 n2 (fun p a _ b => (uI5 p a).trans ((uI4 p a).trans (hfI3 p b))) (fun k a _ _ b => (kI5 k a).trans ((kI4 k b).trans (congrFun (hfI3 78 (by omega)) k))) ?_ ?_ ?_ ?_ ?_ ?_
            · rw [zup_s]; exact sI5
            · rw [zup_n (by omega), zup_n (by omega), zup_n (by omega)]; exact ((kI5 22 (by omega)).trans (kI4 22 (by omega))).trans ((congrFun (hfI3 78 (by omega)) 22).trans i222)
            · rw [zup_n (by omega), zup_n (by omega), zup_n (by omega)]; exact ((kI5 23 (by omega)).trans (kI4 23 (by omega))).trans ((congrFun (hfI3 78 (by omega)) 23).trans i232)
            · rw [zup_n (by omega), zup_s]; exact (kI5 24 (by omega)).trans sI4
            · exact z_ar_eq (z_ar_fr zA2 ((uI5 88 (by omega)).trans ((uI4 88 (by omega)).trans (hfI3 88 (by omega))))) (fun z a b => by rw [zup_n (by omega), zup_n (by omega), zup_n (by omega)])
            · exact z_ar_eq (z_ar_fr hz3 ((uI5 89 (by omega)).trans (uI4 89 (by omega)))) (fun z a a2 => by
                unfold zup
                by_cases hz : z = S 5
                · rw [if_pos hz, if_neg (by omega), if_neg (by omega), if_pos (by omega)]
                · rw [if_neg hz, if_neg (by omega), if_neg (by omega), if_neg (by omega)])
        · obtain ⟨u, hu⟩ : ∃ u : Int, u = -x := ⟨-x, rfl⟩
          have hV2 : (if b = 0 then x else -x) = u := by rw [if_neg (by omega), hu]
          refine r_iload_n hV dX12_loan_63 rfl ?_
          refine s_ineg hV dX12_loan_64 ?_
          refine r_goto hV 69 dX12_loan_65 (by decide) ?_
          first
            | rw [show iI (-x) = iI u by rw [hu]]
            | rw [show iI x = iI u by rw [hu]]
          refine s_iastore hV dX12_loan_69 (by first | decide | omega) (by first | rfl | assumption) (by decide) (by omega) (by omega) ?_
          have hz3 := z_ar_set zN2 (z := S 5) (by omega) (u)
          generalize hI3 : zu I2 (89) (zu (I2 89) (S 5).toNat (iI (u))) = I3
          have hfI3 : ∀ q, q ≠ 89 → I3 q = I2 q := fun q h => by rw [← hI3]; exact zu_n _ _ h
          rw [hI3] at hz3
          clear hI3
          refine r_aload_n hV dX12_loan_70 rfl rfl ?_
          refine r_dup hV dX12_loan_71 rfl ?_
          refine r_getI hV dX12_loan_72 fl_X12_174 (by first | decide | omega) (by first | rfl | assumption) ((congrFun (hfI3 78 (by omega)) 24).trans i242) ?_
          refine s_iconst hV dX12_loan_75 (1) (by decide) ?_
          refine s_iadd hV dX12_loan_76 ?_
          refine r_putI hV dX12_loan_77 fl_X12_174 (pf_X12_174 _) (z_okI_int rfl _) (by first | decide | omega) (by first | rfl | assumption) ?_
          generalize hgI4 : zu I3 78 (zu (I3 78) 24 (iI (S 5 + 1))) = I4
          have uI4 : ∀ p, p ≠ 78 → I4 p = I3 p := fun p a => by rw [← hgI4, zu_n _ _ a]
          have kI4 : ∀ k, k ≠ 24 → I4 78 k = I3 78 k := fun k a => by rw [← hgI4, zu_s, zu_n _ _ a]
          have sI4 : I4 78 24 = iI (S 5 + 1) := by rw [← hgI4, zu_s, zu_s]
          clear hgI4
          refine r_aload_n hV dX12_loan_80 rfl rfl ?_
          refine r_dup hV dX12_loan_81 rfl ?_
          refine r_getI hV dX12_loan_82 fl_X12_165 (by first | decide | omega) (by first | rfl | assumption) ((kI4 21 (by omega)).trans ((congrFun (hfI3 78 (by omega)) 21).trans i212)) ?_
          refine r_iload_n hV dX12_loan_85 rfl ?_
          refine s_if_eq hV 93 dX12_loan_86 (by decide) (by unfold z_rg; first | omega | (split <;> omega)) (fun c86 => ?_) (fun c86 => ?_)
          · refine r_iload_n hV dX12_loan_93 rfl ?_
            refine s_ineg hV dX12_loan_94 ?_
            refine s_iadd hV dX12_loan_95 ?_
            first
              | rw [show S 2 + -u = S 2 - u by omega]
              | rw [show S 2 + x = S 2 - u by omega]
              | rw [show S 2 + u = S 2 - u by omega]
              | rw [show S 2 + -x = S 2 - u by omega]
            refine r_putI hV dX12_loan_96 fl_X12_165 (pf_X12_165 _) (z_okI_int rfl _) (by first | decide | omega) (by first | rfl | assumption) ?_
            generalize hgI5 : zu I4 78 (zu (I4 78) 21 (iI (S 2 - u))) = I5
            have uI5 : ∀ p, p ≠ 78 → I5 p = I4 p := fun p a => by rw [← hgI5, zu_n _ _ a]
            have kI5 : ∀ k, k ≠ 21 → I5 78 k = I4 78 k := fun k a => by rw [← hgI5, zu_s, zu_n _ _ a]
            have sI5 : I5 78 21 = iI (S 2 - u) := by rw [← hgI5, zu_s, zu_s]
            clear hgI5
            refine r_aload_n hV dX12_loan_99 rfl rfl ?_
            refine r_getI hV dX12_loan_100 fl_X12_165 (by first | decide | omega) (by first | rfl | assumption) sI5 ?_
            refine r_iret hV dX12_loan_103 rfl rfl ?_
            show ite _ _ _
            rw [if_neg (by omega), if_neg (by omega), if_neg (by omega)]
            rw [hV2]
            refine q_mact_of t0 t1 hI2 hB2 n1 n2 (fun p a _ b => (uI5 p a).trans ((uI4 p a).trans (hfI3 p b))) (fun k a _ _ b => (kI5 k a).trans ((kI4 k b).trans (congrFun (hfI3 78 (by omega)) k))) ?_ ?_ ?_ ?_ ?_ ?_
            · rw [zup_s]; exact sI5
            · rw [zup_n (by omega), zup_n (by omega), zup_n (by omega)]; exact ((kI5 22 (by omega)).trans (kI4 22 (by omega))).trans ((congrFun (hfI3 78 (by omega)) 22).trans i222)
            · rw [zup_n (by omega), zup_n (by omega), zup_n (by omega)]; exact ((kI5 23 (by omega)).trans (kI4 23 (by omega))).trans ((congrFun (hfI3 78 (by omega)) 23).trans i232)
            · rw [zup_n (by omega), zup_s]; exact (kI5 24 (by omega)).trans sI4
            · exact z_ar_eq (z_ar_fr zA2 ((uI5 88 (by omega)).trans ((uI4 88 (by omega)).trans (hfI3 88 (by omega))))) (fun z a b => by rw [zup_n (by omega), zup_n (by omega), zup_n (by omega)])
            · exact z_ar_eq (z_ar_fr hz3 ((uI5 89 (by omega)).trans (uI4 89 (by omega)))) (fun z a a2 => by
                unfold zup
                by_cases hz : z = S 5
                · rw [if_pos hz, if_neg (by omega), if_neg (by omega), if_pos (by omega)]
                · rw [if_neg hz, if_neg (by omega), if_neg (by omega), if_neg (by omega)])
          · refine r_iload_n hV dX12_loan_89 rfl ?_
            refine r_goto hV 95 dX12_loan_90 (by decide) ?_
            refine s_iadd hV dX12_loan_95 ?_
            first
              | rw [show S 2 + -u = S 2 - u by omega]
              | rw [show S 2 + x = S 2 - u by omega]
              | rw [show S 2 + u = S 2 - u by omega]
              | rw [show S 2 + -x = S 2 - u by omega]
            refine r_putI hV dX12_loan_96 fl_X12_165 (pf_X12_165 _) (z_okI_int rfl _) (by first | decide | omega) (by first | rfl | assumption) ?_
            generalize hgI5 : zu I4 78 (zu (I4 78) 21 (iI (S 2 - u))) = I5
            have uI5 : ∀ p, p ≠ 78 → I5 p = I4 p := fun p a => by rw [← hgI5, zu_n _ _ a]
            have kI5 : ∀ k, k ≠ 21 → I5 78 k = I4 78 k := fun k a => by rw [← hgI5, zu_s, zu_n _ _ a]
            have sI5 : I5 78 21 = iI (S 2 - u) := by rw [← hgI5, zu_s, zu_s]
            clear hgI5
            refine r_aload_n hV dX12_loan_99 rfl rfl ?_
            refine r_getI hV dX12_loan_100 fl_X12_165 (by first | decide | omega) (by first | rfl | assumption) sI5 ?_
            refine r_iret hV dX12_loan_103 rfl rfl ?_
            show ite _ _ _
            rw [if_neg (by omega), if_neg (by omega), if_neg (by omega)]
            rw [hV2]
            refine q_mact_of t0 t1 hI2 hB2 n1 n2 (fun p a _ b => (uI5 p a).trans ((uI4 p a).trans (hfI3 p b))) (fun k a _ _ b => (kI5 k a).trans ((kI4 k b).trans (congrFun (hfI3 78 (by omega)) k))) ?_ ?_ ?_ ?_ ?_ ?_
            · rw [zup_s]; exact sI5
            · rw [zup_n (by omega), zup_n (by omega), zup_n (by omega)]; exact ((kI5 22 (by omega)).trans (kI4 22 (by omega))).trans ((congrFun (hfI3 78 (by omega)) 22).trans i222)
            · rw [zup_n (by omega), zup_n (by omega), zup_n (by omega)]; exact ((kI5 23 (by omega)).trans (kI4 23 (by omega))).trans ((congrFun (hfI3 78 (by omega)) 23).trans i232)
            · rw [zup_n (by omega), zup_s]; exact (kI5 24 (by omega)).trans sI4
            · exact z_ar_eq (z_ar_fr zA2 ((uI5 88 (by omega)).trans ((uI4 88 (by omega)).trans (hfI3 88 (by omega))))) (fun z a b => by rw [zup_n (by omega), zup_n (by omega), zup_n (by omega)])
            · exact z_ar_eq (z_ar_fr hz3 ((uI5 89 (by omega)).trans (uI4 89 (by omega)))) (fun z a a2 => by
                unfold zup
                by_cases hz : z = S 5
                · rw [if_pos hz, if_neg (by omega), if_neg (by omega), if_pos (by omega)]
                · rw [if_neg hz, if_neg (by omega), if_neg (by omega), if_neg (by omega)])
      · refine s_bipush hV dX12_loan_44 (-4) (by decide) ?_
        refine r_iret hV dX12_loan_46 rfl rfl ?_
        show ite _ _ _
        rw [if_neg (by omega), if_neg (by omega), if_pos (by omega)]
        exact ⟨rfl, rfl, rfl, t0, t1⟩
    · refine r_aload_n hV dX12_loan_24 rfl rfl ?_
      refine r_getI hV dX12_loan_25 fl_X12_165 (by first | decide | omega) (by first | rfl | assumption) i210 ?_
      refine r_iload_n hV dX12_loan_28 rfl ?_
      refine s_icmp_ge hV 35 dX12_loan_29 (by decide) (by unfold z_rg; first | omega | (split <;> omega)) (by unfold z_rg; first | omega | (split <;> omega)) (fun c29 => ?_) (fun c29 => ?_)
      · refine r_aload_n hV dX12_loan_35 rfl rfl ?_
        refine r_getI hV dX12_loan_36 fl_X12_174 (by first | decide | omega) (by first | rfl | assumption) i240 ?_
        refine s_bipush hV dX12_loan_39 (8) (by decide) ?_
        refine s_icmp_ne hV 47 dX12_loan_41 (by decide) (by unfold z_rg; first | omega | (split <;> omega)) (by unfold z_rg; first | omega | (split <;> omega)) (fun c41 => ?_) (fun c41 => ?_)
        · refine r_aload_n hV dX12_loan_47 rfl rfl ?_
          refine r_iv0 hV dX12_loan_48 mv_X12_208 (n_note I0 J P hM tl st r c n e T F W U K S hI0 hcb H (mB_fr hB (t0 _ (by omega)))) (by first | decide | omega) (by first | rfl | assumption) (by decide) (Nat.le_refl _) (Nat.le_of_ble_eq_true rfl) (fun v2 I2 J2 P2 hq => ?_)
          obtain ⟨rfl, ej, ep, hI2, hB2, n1, n2⟩ := hq
          rw [ej, ep]
          show V 108 I2 J P _ _ []
          clear ej ep
          obtain ⟨⟨i22, i42, i52, i62, i82, i212, i222, i232, i242, i272⟩, zT2, zF2, zW2, zU2, zK2, zA2, zN2⟩ := id hI2
          refine r_aload_n hV dX12_loan_51 rfl rfl ?_
          refine r_getR hV dX12_loan_52 fl_X12_44 (by first | decide | omega) (by first | rfl | assumption) o25 ?_
          refine r_aload_n hV dX12_loan_55 rfl rfl ?_
          refine r_getI hV dX12_loan_56 fl_X12_174 (by first | decide | omega) (by first | rfl | assumption) i242 ?_
          refine r_iload_n hV dX12_loan_59 rfl ?_
          refine s_if_eq hV 68 dX12_loan_60 (by decide) (by unfold z_rg; first | omega | (split <;> omega)) (fun c60 => ?_) (fun c60 => ?_)
          · obtain ⟨u, hu⟩ : ∃ u : Int, u = x := ⟨x, rfl⟩
            have hV2 : (if b = 0 then x else -x) = u := by rw [if_pos (by omega), hu]
            refine r_iload_n hV dX12_loan_68 rfl ?_
            first
              | rw [show iI (-x) = iI u by rw [hu]]
              | rw [show iI x = iI u by rw [hu]]
            refine s_iastore hV dX12_loan_69 (by first | decide | omega) (by first | rfl | assumption) (by decide) (by omega) (by omega) ?_
            have hz3 := z_ar_set zN2 (z := S 5) (by omega) (u)
            generalize hI3 : zu I2 (89) (zu (I2 89) (S 5).toNat (iI (u))) = I3
            have hfI3 : ∀ q, q ≠ 89 → I3 q = I2 q := fun q h => by rw [← hI3]; exact zu_n _ _ h
            rw [hI3] at hz3
            clear hI3
            refine r_aload_n hV dX12_loan_70 rfl rfl ?_
            refine r_dup hV dX12_loan_71 rfl ?_
            refine r_getI hV dX12_loan_72 fl_X12_174 (by first | decide | omega) (by first | rfl | assumption) ((congrFun (hfI3 78 (by omega)) 24).trans i242) ?_
            refine s_iconst hV dX12_loan_75 (1) (by decide) ?_
            refine s_iadd hV dX12_loan_76 ?_
            refine r_putI hV dX12_loan_77 fl_X12_174 (pf_X12_174 _) (z_okI_int rfl _) (by first | decide | omega) (by first | rfl | assumption) ?_
            generalize hgI4 : zu I3 78 (zu (I3 78) 24 (iI (S 5 + 1))) = I4
            have uI4 : ∀ p, p ≠ 78 → I4 p = I3 p := fun p a => by rw [← hgI4, zu_n _ _ a]
            have kI4 : ∀ k, k ≠ 24 → I4 78 k = I3 78 k := fun k a => by rw [← hgI4, zu_s, zu_n _ _ a]
            have sI4 : I4 78 24 = iI (S 5 + 1) := by rw [← hgI4, zu_s, zu_s]
            clear hgI4
            refine r_aload_n hV dX12_loan_80 rfl rfl ?_
            refine r_dup hV dX12_loan_81 rfl ?_
            refine r_getI hV dX12_loan_82 fl_X12_165 (by first | decide | omega) (by first | rfl | assumption) ((kI4 21 (by omega)).trans ((congrFun (hfI3 78 (by omega)) 21).trans i212)) ?_
            refine r_iload_n hV dX12_loan_85 rfl ?_
            refine s_if_eq hV 93 dX12_loan_86 (by decide) (by unfold z_rg; first | omega | (split <;> omega)) (fun c86 => ?_) (fun c86 => ?_)
            · refine r_iload_n hV dX12_loan_93 rfl ?_
              refine s_ineg hV dX12_loan_94 ?_
              refine s_iadd hV dX12_loan_95 ?_
              first
                | rw [show S 2 + -u = S 2 - u by omega]
                | rw [show S 2 + x = S 2 - u by omega]
                | rw [show S 2 + u = S 2 - u by omega]
                | rw [show S 2 + -x = S 2 - u by omega]
              refine r_putI hV dX12_loan_96 fl_X12_165 (pf_X12_165 _) (z_okI_int rfl _) (by first | decide | omega) (by first | rfl | assumption) ?_
              generalize hgI5 : zu I4 78 (zu (I4 78) 21 (iI (S 2 - u))) = I5
              have uI5 : ∀ p, p ≠ 78 → I5 p = I4 p := fun p a => by rw [← hgI5, zu_n _ _ a]
              have kI5 : ∀ k, k ≠ 21 → I5 78 k = I4 78 k := fun k a => by rw [← hgI5, zu_s, zu_n _ _ a]
              have sI5 : I5 78 21 = iI (S 2 - u) := by rw [← hgI5, zu_s, zu_s]
              clear hgI5
              refine r_aload_n hV dX12_loan_99 rfl rfl ?_
              refine r_getI hV dX12_loan_100 fl_X12_165 (by first | decide | omega) (by first | rfl | assumption) sI5 ?_
              refine r_iret hV dX12_loan_103 rfl rfl ?_
              show ite _ _ _
              rw [if_neg (by omega), if_neg (by omega), if_neg (by omega)]
              rw [hV2]
              refine q_mact_of t0 t1 hI2 hB2 n1 n2 (fun p a _ b => (uI5 p a).trans ((uI4 p a).trans (hfI3 p b))) (fun k a _ _ b => (kI5 k a).trans ((kI4 k b).trans (congrFun (hfI3 78 (by omega)) k))) ?_ ?_ ?_ ?_ ?_ ?_
              · rw [zup_s]; exact sI5
              · rw [zup_n (by omega), zup_n (by omega), zup_n (by omega)]; exact ((kI5 22 (by omega)).trans (kI4 22 (by omega))).trans ((congrFun (hfI3 78 (by omega)) 22).trans i222)
              · rw [zup_n (by omega), zup_n (by omega), zup_n (by omega)]; exact ((kI5 23 (by omega)).trans (kI4 23 (by omega))).trans ((congrFun (hfI3 78 (by omega)) 23).trans i232)
              · rw [zup_n (by omega), zup_s]; exact (kI5 24 (by omega)).trans sI4
              · exact z_ar_eq (z_ar_fr zA2 ((uI5 88 (by omega)).trans ((uI4 88 (by omega)).trans (hfI3 88 (by omega))))) (fun z a b => by rw [zup_n (by omega), zup_n (by omega), zup_n (by omega)])
              · exact z_ar_eq (z_ar_fr hz3 ((uI5 89 (by omega)).trans (uI4 89 (by omega)))) (fun z a a2 => by
                  unfold zup
                  by_cases hz : z = S 5
                  · rw [if_pos hz, if_neg (by omega), if_neg (by omega), if_pos (by omega)]
                  · rw [if_neg hz, if_neg (by omega), if_neg (by omega), if_neg (by omega)])
            · refine r_iload_n hV dX12_loan_89 rfl ?_
              refine r_goto hV 95 dX12_loan_90 (by decide) ?_
              refine s_iadd hV dX12_loan_95 ?_
              first
                | rw [show S 2 + -u = S 2 - u by omega]
                | rw [show S 2 + x = S 2 - u by omega]
                | rw [show S 2 + u = S 2 - u by omega]
                | rw [show S 2 + -x = S 2 - u by omega]
              refine r_putI hV dX12_loan_96 fl_X12_165 (pf_X12_165 _) (z_okI_int rfl _) (by first | decide | omega) (by first | rfl | assumption) ?_
              generalize hgI5 : zu I4 78 (zu (I4 78) 21 (iI (S 2 - u))) = I5
              have uI5 : ∀ p, p ≠ 78 → I5 p = I4 p := fun p a => by rw [← hgI5, zu_n _ _ a]
              have kI5 : ∀ k, k ≠ 21 → I5 78 k = I4 78 k := fun k a => by rw [← hgI5, zu_s, zu_n _ _ a]
              have sI5 : I5 78 21 = iI (S 2 - u) := by rw [← hgI5, zu_s, zu_s]
              clear hgI5
              refine r_aload_n hV dX12_loan_99 rfl rfl ?_
              refine r_getI hV dX12_loan_100 fl_X12_165 (by first | decide | omega) (by first | rfl | assumption) sI5 ?_
              refine r_iret hV dX12_loan_103 rfl rfl ?_
              show ite _ _ _
              rw [if_neg (by omega), if_neg (by omega), if_neg (by omega)]
              rw [hV2]
              refine q_mact_of t0 t1 hI2 hB2 n1 n2 (fun p a _ b => (uI5 p a).trans ((uI4 p a).trans (hfI3 p b))) (fun k a _ _ b => (kI5 k a).trans ((kI4 k b).trans (congrFun (hfI3 78 (by omega)) k))) ?_ ?_ ?_ ?_ ?_ ?_
              · rw [zup_s]; exact sI5
              · rw [zup_n (by omega), zup_n (by omega), zup_n (by omega)]; exact ((kI5 22 (by omega)).trans (kI4 22 (by omega))).trans ((congrFun (hfI3 78 (by omega)) 22).trans i222)
              · rw [zup_n (by omega), zup_n (by omega), zup_n (by omega)]; exact ((kI5 23 (by omega)).trans (kI4 23 (by omega))).trans ((congrFun (hfI3 78 (by omega)) 23).trans i232)
              · rw [zup_n (by omega), zup_s]; exact (kI5 24 (by omega)).trans sI4
              · exact z_ar_eq (z_ar_fr zA2 ((uI5 88 (by omega)).trans ((uI4 88 (by omega)).trans (hfI3 88 (by omega))))) (fun z a b => by rw [zup_n (by omega), zup_n (by omega), zup_n (by omega)])
              · exact z_ar_eq (z_ar_fr hz3 ((uI5 89 (by omega)).trans (uI4 89 (by omega)))) (fun z a a2 => by
                  unfold zup
                  by_cases hz : z = S 5
                  · rw [if_pos hz, if_neg (by omega), if_neg (by omega), if_pos (by omega)]
                  · rw [if_neg hz, if_neg (by omega), if_neg (by omega), if_neg (by omega)])
          · obtain ⟨u, hu⟩ : ∃ u : Int, u = -x := ⟨-x, rfl⟩
            have hV2 : (if b = 0 then x else -x) = u := by rw [if_neg (by omega), hu]
            refine r_iload_n hV dX12_loan_63 rfl ?_
            refine s_ineg hV dX12_loan_64 ?_
            refine r_goto hV 69 dX12_loan_65 (by decide) ?_
            first
              | rw [show iI (-x) = iI u by rw [hu]]
              | rw [show iI x = iI u by rw [hu]]
            refine s_iastore hV dX12_loan_69 (by first | decide | omega) (by first | rfl | assumption) (by decide) (by omega) (by omega) ?_
            have hz3 := z_ar_set zN2 (z := S 5) (by omega) (u)
            generalize hI3 : zu I2 (89) (zu (I2 89) (S 5).toNat (iI (u))) = I3
            have hfI3 : ∀ q, q ≠ 89 → I3 q = I2 q := fun q h => by rw [← hI3]; exact zu_n _ _ h
            rw [hI3] at hz3
            clear hI3
            refine r_aload_n hV dX12_loan_70 rfl rfl ?_
            refine r_dup hV dX12_loan_71 rfl ?_
            refine r_getI hV dX12_loan_72 fl_X12_174 (by first | decide | omega) (by first | rfl | assumption) ((congrFun (hfI3 78 (by omega)) 24).trans i242) ?_
            refine s_iconst hV dX12_loan_75 (1) (by decide) ?_
            refine s_iadd hV dX12_loan_76 ?_
            refine r_putI hV dX12_loan_77 fl_X12_174 (pf_X12_174 _) (z_okI_int rfl _) (by first | decide | omega) (by first | rfl | assumption) ?_
            generalize hgI4 : zu I3 78 (zu (I3 78) 24 (iI (S 5 + 1))) = I4
            have uI4 : ∀ p, p ≠ 78 → I4 p = I3 p := fun p a => by rw [← hgI4, zu_n _ _ a]
            have kI4 : ∀ k, k ≠ 24 → I4 78 k = I3 78 k := fun k a => by rw [← hgI4, zu_s, zu_n _ _ a]
            have sI4 : I4 78 24 = iI (S 5 + 1) := by rw [← hgI4, zu_s, zu_s]
            clear hgI4
            refine r_aload_n hV dX12_loan_80 rfl rfl ?_
            refine r_dup hV dX12_loan_81 rfl ?_
            refine r_getI hV dX12_loan_82 fl_X12_165 (by first | decide | omega) (by first | rfl | assumption) ((kI4 21 (by omega)).trans ((congrFun (hfI3 78 (by omega)) 21).trans i212)) ?_
            refine r_iload_n hV dX12_loan_85 rfl ?_
            refine s_if_eq hV 93 dX12_loan_86 (by decide) (by unfold z_rg; first | omega | (split <;> omega)) (fun c86 => ?_) (fun c86 => ?_)
            · refine r_iload_n hV dX12_loan_93 rfl ?_
              refine s_ineg hV dX12_loan_94 ?_
              refine s_iadd hV dX12_loan_95 ?_
              first
                | rw [show S 2 + -u = S 2 - u by omega]
                | rw [show S 2 + x = S 2 - u by omega]
                | rw [show S 2 + u = S 2 - u by omega]
                | rw [show S 2 + -x = S 2 - u by omega]
              refine r_putI hV dX12_loan_96 fl_X12_165 (pf_X12_165 _) (z_okI_int rfl _) (by first | decide | omega) (by first | rfl | assumption) ?_
              generalize hgI5 : zu I4 78 (zu (I4 78) 21 (iI (S 2 - u))) = I5
              have uI5 : ∀ p, p ≠ 78 → I5 p = I4 p := fun p a => by rw [← hgI5, zu_n _ _ a]
              have kI5 : ∀ k, k ≠ 21 → I5 78 k = I4 78 k := fun k a => by rw [← hgI5, zu_s, zu_n _ _ a]
              have sI5 : I5 78 21 = iI (S 2 - u) := by rw [← hgI5, zu_s, zu_s]
              clear hgI5
              refine r_aload_n hV dX12_loan_99 rfl rfl ?_
              refine r_getI hV dX12_loan_100 fl_X12_165 (by first | decide | omega) (by first | rfl | assumption) sI5 ?_
              refine r_iret hV dX12_loan_103 rfl rfl ?_
              show ite _ _ _
              rw [if_neg (by omega), if_neg (by omega), if_neg (by omega)]
              rw [hV2]
              refine q_mact_of t0 t1 hI2 hB2 n1 n2 (fun p a _ b => (uI5 p a).trans ((uI4 p a).trans (hfI3 p b))) (fun k a _ _ b => (kI5 k a).trans ((kI4 k b).trans (congrFun (hfI3 78 (by omega)) k))) ?_ ?_ ?_ ?_ ?_ ?_
              · rw [zup_s]; exact sI5
              · rw [zup_n (by omega), zup_n (by omega), zup_n (by omega)]; exact ((kI5 22 (by omega)).trans (kI4 22 (by omega))).trans ((congrFun (hfI3 78 (by omega)) 22).trans i222)
              · rw [zup_n (by omega), zup_n (by omega), zup_n (by omega)]; exact ((kI5 23 (by omega)).trans (kI4 23 (by omega))).trans ((congrFun (hfI3 78 (by omega)) 23).trans i232)
              · rw [zup_n (by omega), zup_s]; exact (kI5 24 (by omega)).trans sI4
              · exact z_ar_eq (z_ar_fr zA2 ((uI5 88 (by omega)).trans ((uI4 88 (by omega)).trans (hfI3 88 (by omega))))) (fun z a b => by rw [zup_n (by omega), zup_n (by omega), zup_n (by omega)])
              · exact z_ar_eq (z_ar_fr hz3 ((uI5 89 (by omega)).trans (uI4 89 (by omega)))) (fun z a a2 => by
                  unfold zup
                  by_cases hz : z = S 5
                  · rw [if_pos hz, if_neg (by omega), if_neg (by omega), if_pos (by omega)]
                  · rw [if_neg hz, if_neg (by omega), if_neg (by omega), if_neg (by omega)])
            · refine r_iload_n hV dX12_loan_89 rfl ?_
              refine r_goto hV 95 dX12_loan_90 (by decide) ?_
              refine s_iadd hV dX12_loan_95 ?_
              first
                | rw [show S 2 + -u = S 2 - u by omega]
                | rw [show S 2 + x = S 2 - u by omega]
                | rw [show S 2 + u = S 2 - u by omega]
                | rw [show S 2 + -x = S 2 - u by omega]
              refine r_putI hV dX12_loan_96 fl_X12_165 (pf_X12_165 _) (z_okI_int rfl _) (by first | decide | omega) (by first | rfl | assumption) ?_
              generalize hgI5 : zu I4 78 (zu (I4 78) 21 (iI (S 2 - u))) = I5
              have uI5 : ∀ p, p ≠ 78 → I5 p = I4 p := fun p a => by rw [← hgI5, zu_n _ _ a]
              have kI5 : ∀ k, k ≠ 21 → I5 78 k = I4 78 k := fun k a => by rw [← hgI5, zu_s, zu_n _ _ a]
              have sI5 : I5 78 21 = iI (S 2 - u) := by rw [← hgI5, zu_s, zu_s]
              clear hgI5
              refine r_aload_n hV dX12_loan_99 rfl rfl ?_
              refine r_getI hV dX12_loan_100 fl_X12_165 (by first | decide | omega) (by first | rfl | assumption) sI5 ?_
              refine r_iret hV dX12_loan_103 rfl rfl ?_
              show ite _ _ _
              rw [if_neg (by omega), if_neg (by omega), if_neg (by omega)]
              rw [hV2]
              refine q_mact_of t0 t1 hI2 hB2 n1 n2 (fun p a _ b => (uI5 p a).trans ((uI4 p a).trans (hfI3 p b))) (fun k a _ _ b => (kI5 k a).trans ((kI4 k b).trans (congrFun (hfI3 78 (by omega)) k))) ?_ ?_ ?_ ?_ ?_ ?_
              · rw [zup_s]; exact sI5
              · rw [zup_n (by omega), zup_n (by omega), zup_n (by omega)]; exact ((kI5 22 (by omega)).trans (kI4 22 (by omega))).trans ((congrFun (hfI3 78 (by omega)) 22).trans i222)
              · rw [zup_n (by omega), zup_n (by omega), zup_n (by omega)]; exact ((kI5 23 (by omega)).trans (kI4 23 (by omega))).trans ((congrFun (hfI3 78 (by omega)) 23).trans i232)
              · rw [zup_n (by omega), zup_s]; exact (kI5 24 (by omega)).trans sI4
              · exact z_ar_eq (z_ar_fr zA2 ((uI5 88 (by omega)).trans ((uI4 88 (by omega)).trans (hfI3 88 (by omega))))) (fun z a b => by rw [zup_n (by omega), zup_n (by omega), zup_n (by omega)])
              · exact z_ar_eq (z_ar_fr hz3 ((uI5 89 (by omega)).trans (uI4 89 (by omega)))) (fun z a a2 => by
                  unfold zup
                  by_cases hz : z = S 5
                  · rw [if_pos hz, if_neg (by omega), if_neg (by omega), if_pos (by omega)]
                  · rw [if_neg hz, if_neg (by omega), if_neg (by omega), if_neg (by omega)])
        · refine s_bipush hV dX12_loan_44 (-4) (by decide) ?_
          refine r_iret hV dX12_loan_46 rfl rfl ?_
          show ite _ _ _
          rw [if_neg (by omega), if_neg (by omega), if_pos (by omega)]
          exact ⟨rfl, rfl, rfl, t0, t1⟩
      · refine s_bipush hV dX12_loan_32 (-3) (by decide) ?_
        refine r_iret hV dX12_loan_34 rfl rfl ?_
        show ite _ _ _
        rw [if_neg (by omega), if_pos (by omega)]
        exact ⟨rfl, rfl, rfl, t0, t1⟩
  · refine s_bipush hV dX12_loan_17 (-2) (by decide) ?_
    refine r_iret hV dX12_loan_19 rfl rfl ?_
    show ite _ _ _
    rw [if_pos (by omega)]
    exact ⟨rfl, rfl, rfl, t0, t1⟩

def f_gbm (S : Int → Int) (j z : Int) : Int := if z < j then S (6 + z + 1) else S (6 + z)
theorem f_gbm_s {S : Int → Int} {j : Int} (z : Int) : zup (f_gbm S j) j (S (6 + j + 1)) z = f_gbm S (j + 1) z := by
  unfold zup f_gbm
  by_cases q : z = j
  · rw [if_pos q, if_pos (by omega), q]
  · rw [if_neg q]
    by_cases q2 : z < j
    · rw [if_pos q2, if_pos (by omega)]
    · rw [if_neg q2, if_neg (by omega)]
theorem f_gbm_n {S : Int → Int} {j z : Int} (h : ¬ z < j) : f_gbm S j z = S (6 + z) := if_neg h
set_option maxRecDepth 20000 in
theorem n_back (I : zI) (J : zJ) (P : zP) (hM : mK P) (tl st r c : Int) (n e : Nat) (T F W U K S : Int → Int) (hI : mI I tl st r c n e T F W U K S) (dn dh : Nat) (hg : cG n S dn dh) (hcb : 0 ≤ c ∧ c ≤ 16) (H : Nat → Int → Int) (hB : mB I c H) : z_Sp 3 yX12_back cX12_back 2 (some .int) 108 108 I J P [.ref 78] (fun v I1 J1 P1 => if S 5 < 1 ∨ S 2 + zowed (S 6) < 0 then q_mno I J P (-3) v I1 J1 P1 else q_mact I J P tl st r (f_m16 c) n e T F W U K (f_gb S) (zpush S H) (S 2 + zowed (S 6)) v I1 J1 P1) := by
  obtain ⟨o1, o7, o9, o10, o11, o16, o17, o18, o19, o20, o25, o26, o28, o29, o30, o31, o36, o37, o38, o39, o40, o41, o42, o43, o44, o45, o46, o47, o48⟩ := id hM
  obtain ⟨g0, g1, g2, g3, g4, g5, g6, g7, g8⟩ := id hg
  have hz1 : 0 ≤ S 6 → zowed (S 6) = zow (S 6) := fun h => by unfold zowed; rw [if_pos h]
  have hz2 : S 6 < 0 → zowed (S 6) = -zow (S 6) := fun h => by unfold zowed; rw [if_neg (by omega)]
  have hz0 : S 6 = 0 → zow (S 6) = 0 := fun h => by rw [h]; rfl
  have g86 := g8 0 (by omega) (by omega)
  rw [show (6 : Int) + 0 = 6 from rfl] at g86
  have hzb := zow_b g86
  refine z_met false (by decide +kernel) (fun h => by cases h) (Nat.le_of_ble_eq_true rfl) (by first | decide | omega) (fun V hV => ?_)
  show V 108 I J P 0 [.ref 78, .null] []
  refine r_aload_n hV dX12_back_0 rfl rfl ?_
  refine s_iconst hV dX12_back_1 (0) (by decide) ?_
  refine r_putI hV dX12_back_2 fl_X12_104 (pf_X12_104 _) (z_okI_int rfl _) (by first | decide | omega) (by first | rfl | assumption) ?_
  generalize hI0e : zu I 78 (zu (I 78) 0 (iI 0)) = I0
  have t0 : ∀ q, q ≠ 78 → I0 q = I q := fun q h => by rw [← hI0e, zu_n _ _ h]
  have t1 : ∀ k, k ≠ 0 → I0 78 k = I 78 k := fun k h => by rw [← hI0e, zu_s, zu_n _ _ h]
  clear hI0e
  have hI0 := mI_fr hI t0 t1
  obtain ⟨⟨i20, i40, i50, i60, i80, i210, i220, i230, i240, i270⟩, zT0, zF0, zW0, zU0, zK0, zA0, zN0⟩ := id hI0
  refine r_aload_n hV dX12_back_5 rfl rfl ?_
  refine r_getI hV dX12_back_6 fl_X12_174 (by first | decide | omega) (by first | rfl | assumption) i240 ?_
  refine s_if_eq hV 37 dX12_back_9 (by decide) (by unfold z_rg; first | omega | (split <;> omega)) (fun c9 => ?_) (fun c9 => ?_)
  · refine s_bipush hV dX12_back_37 (-3) (by decide) ?_
    refine r_iret hV dX12_back_39 rfl rfl ?_
    show ite _ _ _
    rw [if_pos (by omega)]
    exact ⟨rfl, rfl, rfl, t0, t1⟩
  · refine r_aload_n hV dX12_back_12 rfl rfl ?_
    refine r_getR hV dX12_back_13 fl_X12_44 (by first | decide | omega) (by first | rfl | assumption) o25 ?_
    refine s_iconst hV dX12_back_16 (0) (by decide) ?_
    refine s_iaload hV dX12_back_17 (by first | decide | omega) (by first | rfl | assumption) (by decide) (by omega) (by omega) (show I0 89 (0 : Int).toNat = iI (S 6) from zN0 0 (by omega) (by omega)) ?_
    refine s_if_ge hV 40 dX12_back_18 (by decide) (by unfold z_rg; first | omega | (split <;> omega)) (fun c18 => ?_) (fun c18 => ?_)
    · refine r_aload_n hV dX12_back_40 rfl rfl ?_
      refine r_iv0 hV dX12_back_41 mv_X12_208 (n_note I0 J P hM tl st r c n e T F W U K S hI0 hcb H (mB_fr hB (t0 _ (by omega)))) (by first | decide | omega) (by first | rfl | assumption) (by decide) (Nat.le_refl _) (Nat.le_of_ble_eq_true rfl) (fun v2 I2 J2 P2 hq => ?_)
      obtain ⟨rfl, ej, ep, hI2, hB2, n1, n2⟩ := hq
      rw [ej, ep]
      show V 108 I2 J P _ _ []
      clear ej ep
      obtain ⟨⟨i22, i42, i52, i62, i82, i212, i222, i232, i242, i272⟩, zT2, zF2, zW2, zU2, zK2, zA2, zN2⟩ := id hI2
      refine r_aload_n hV dX12_back_44 rfl rfl ?_
      refine r_dup hV dX12_back_45 rfl ?_
      refine r_getI hV dX12_back_46 fl_X12_165 (by first | decide | omega) (by first | rfl | assumption) i212 ?_
      refine r_aload_n hV dX12_back_49 rfl rfl ?_
      refine r_getR hV dX12_back_50 fl_X12_44 (by first | decide | omega) (by first | rfl | assumption) o25 ?_
      refine s_iconst hV dX12_back_53 (0) (by decide) ?_
      refine s_iaload hV dX12_back_54 (by first | decide | omega) (by first | rfl | assumption) (by decide) (by omega) (by omega) (show I2 89 (0 : Int).toNat = iI (S 6) from zN2 0 (by omega) (by omega)) ?_
      refine s_if_le hV 70 dX12_back_55 (by decide) (by unfold z_rg; first | omega | (split <;> omega)) (fun c55 => ?_) (fun c55 => ?_)
      · refine r_aload_n hV dX12_back_70 rfl rfl ?_
        refine r_getR hV dX12_back_71 fl_X12_44 (by first | decide | omega) (by first | rfl | assumption) o25 ?_
        refine s_iconst hV dX12_back_74 (0) (by decide) ?_
        refine s_iaload hV dX12_back_75 (by first | decide | omega) (by first | rfl | assumption) (by decide) (by omega) (by omega) (show I2 89 (0 : Int).toNat = iI (S 6) from zN2 0 (by omega) (by omega)) ?_
        refine q_is1v hV dX12_back_76 ms_X12_184 (n_owed I2 J P (S 6) g86) (by decide) (Nat.le_refl _) (Nat.le_of_ble_eq_true rfl) ?_
        refine s_ineg hV dX12_back_79 ?_
        refine s_iadd hV dX12_back_80 ?_
        first
          | rw [show S 2 + zow (S 6) = S 2 + zowed (S 6) by omega]
          | rw [show S 2 + -zow (S 6) = S 2 + zowed (S 6) by omega]
        refine r_putI hV dX12_back_81 fl_X12_165 (pf_X12_165 _) (z_okI_int rfl _) (by first | decide | omega) (by first | rfl | assumption) ?_
        generalize hgI3 : zu I2 78 (zu (I2 78) 21 (iI (S 2 + zowed (S 6)))) = I3
        have uI3 : ∀ p, p ≠ 78 → I3 p = I2 p := fun p a => by rw [← hgI3, zu_n _ _ a]
        have kI3 : ∀ k, k ≠ 21 → I3 78 k = I2 78 k := fun k a => by rw [← hgI3, zu_s, zu_n _ _ a]
        have sI3 : I3 78 21 = iI (S 2 + zowed (S 6)) := by rw [← hgI3, zu_s, zu_s]
        clear hgI3
        refine r_aload_n hV dX12_back_84 rfl rfl ?_
        refine r_dup hV dX12_back_85 rfl ?_
        refine r_getI hV dX12_back_86 fl_X12_174 (by first | decide | omega) (by first | rfl | assumption) ((kI3 24 (by omega)).trans i242) ?_
        refine s_iconst hV dX12_back_89 (1) (by decide) ?_
        refine s_isub hV dX12_back_90 ?_
        refine r_putI hV dX12_back_91 fl_X12_174 (pf_X12_174 _) (z_okI_int rfl _) (by first | decide | omega) (by first | rfl | assumption) ?_
        generalize hgI4 : zu I3 78 (zu (I3 78) 24 (iI (S 5 - 1))) = I4
        have uI4 : ∀ p, p ≠ 78 → I4 p = I3 p := fun p a => by rw [← hgI4, zu_n _ _ a]
        have kI4 : ∀ k, k ≠ 24 → I4 78 k = I3 78 k := fun k a => by rw [← hgI4, zu_s, zu_n _ _ a]
        have sI4 : I4 78 24 = iI (S 5 - 1) := by rw [← hgI4, zu_s, zu_s]
        clear hgI4
        refine s_iconst hV dX12_back_94 (0) (by decide) ?_
        refine r_istore_n hV dX12_back_95 (Nat.le_of_ble_eq_true rfl) (z_st1_2_1 rfl) ?_
        have L96 : ∀ (k96 j : Nat) (I1 : zI), (S 5 - 1).toNat - j < k96 → j ≤ (S 5 - 1).toNat → (z_ar I1 89 8 (f_gbm S (j : Int))) → (∀ p, p ≠ 89 → I1 p = I4 p) → V 108 I1 J P 96 [.ref 78, .int (iI (j : Int))] [] := by
          intro k96
          induction k96 with
          | zero => intro j I1  hk1 hk2; omega
          | succ k96 ih96 =>
            intro j I1  hk96 hl96 hz hfr
            refine r_iload_n hV dX12_back_96 rfl ?_
            refine r_aload_n hV dX12_back_97 rfl rfl ?_
            refine r_getI hV dX12_back_98 fl_X12_174 (by first | decide | omega) (by first | rfl | assumption) ((congrFun (hfr 78 (by omega)) 24).trans sI4) ?_
            refine s_icmp_ge hV 124 dX12_back_101 (by decide) (by unfold z_rg; first | omega | (split <;> omega)) (by unfold z_rg; first | omega | (split <;> omega)) (fun c101 => ?_) (fun c101 => ?_)
            · refine r_aload_n hV dX12_back_124 rfl rfl ?_
              refine r_getI hV dX12_back_125 fl_X12_165 (by first | decide | omega) (by first | rfl | assumption) ((congrFun (hfr 78 (by omega)) 21).trans ((kI4 21 (by omega)).trans sI3)) ?_
              refine r_iret hV dX12_back_128 rfl rfl ?_
              show ite _ _ _
              rw [if_neg (by omega)]
              rw [show j = (S 5 - 1).toNat by omega] at hz
              have e78 : I1 78 = I4 78 := hfr 78 (by omega)
              refine q_mact_of t0 t1 hI2 hB2 n1 n2 (fun p a _ b => (hfr p b).trans ((uI4 p a).trans (uI3 p a))) (fun k a _ _ b => by rw [e78]; exact (kI4 k b).trans (kI3 k a)) ?_ ?_ ?_ ?_ ?_ ?_
              · rw [e78]; exact (kI4 21 (by omega)).trans (sI3.trans (congrArg iI (by unfold f_gb; rw [if_pos rfl])))
              · rw [e78]; exact ((kI4 22 (by omega)).trans (kI3 22 (by omega))).trans (i222.trans (congrArg iI (by unfold f_gb; rw [if_neg (by omega), if_neg (by omega), if_neg (by omega)])))
              · rw [e78]; exact ((kI4 23 (by omega)).trans (kI3 23 (by omega))).trans (i232.trans (congrArg iI (by unfold f_gb; rw [if_neg (by omega), if_neg (by omega), if_neg (by omega)])))
              · rw [e78]; exact sI4.trans (congrArg iI (by unfold f_gb; rw [if_neg (by omega), if_pos rfl]))
              · exact z_ar_eq (z_ar_fr zA2 ((hfr 88 (by omega)).trans ((uI4 88 (by omega)).trans (uI3 88 (by omega))))) (fun z a b => by unfold f_gb; rw [if_neg (by omega), if_neg (by omega), if_neg (by omega)])
              · exact z_ar_eq hz (fun z a b => by
                  unfold f_gb f_gbm
                  rw [if_neg (show ¬ 6 + z = 2 by omega), if_neg (show ¬ 6 + z = 5 by omega)]
                  by_cases q : z < (((S 5 - 1).toNat : Nat) : Int)
                  · rw [if_pos q, if_pos (by omega)]
                  · rw [if_neg q, if_neg (by omega)])
            · refine r_aload_n hV dX12_back_104 rfl rfl ?_
              refine r_getR hV dX12_back_105 fl_X12_44 (by first | decide | omega) (by first | rfl | assumption) o25 ?_
              refine r_iload_n hV dX12_back_108 rfl ?_
              refine r_aload_n hV dX12_back_109 rfl rfl ?_
              refine r_getR hV dX12_back_110 fl_X12_44 (by first | decide | omega) (by first | rfl | assumption) o25 ?_
              refine r_iload_n hV dX12_back_113 rfl ?_
              refine s_iconst hV dX12_back_114 (1) (by decide) ?_
              refine s_iadd hV dX12_back_115 ?_
              refine s_iaload hV dX12_back_116 (by first | decide | omega) (by first | rfl | assumption) (by decide) (by omega) (by omega) (show I1 89 ((j : Int) + 1).toNat = iI (S (6 + (j : Int) + 1)) from (hz ((j : Int) + 1) (by omega) (by omega)).trans (by rw [f_gbm_n (by omega), show 6 + ((j : Int) + 1) = 6 + (j : Int) + 1 by omega])) ?_
              refine s_iastore hV dX12_back_117 (by first | decide | omega) (by first | rfl | assumption) (by decide) (by omega) (by omega) ?_
              refine s_iinc hV dX12_back_118 rfl (z_st1_2_1 rfl) ?_
              refine r_goto hV 96 dX12_back_121 (by decide) ?_
              exact ih96 (j + 1) _ (by omega) (by omega) (z_ar_eq (z_ar_set hz (by omega) _) (fun z _ _ => f_gbm_s z)) (fun p h => by rw [zu_n _ _ h]; exact hfr p h)
        exact L96 ((S 5 - 1).toNat + 1) 0 I4 (by omega) (by omega) (z_ar_eq (z_ar_fr zN2 ((uI4 89 (by omega)).trans (uI3 89 (by omega)))) (fun z a _ => (f_gbm_n (by omega)).symm)) (fun p h => rfl)
      · refine r_aload_n hV dX12_back_58 rfl rfl ?_
        refine r_getR hV dX12_back_59 fl_X12_44 (by first | decide | omega) (by first | rfl | assumption) o25 ?_
        refine s_iconst hV dX12_back_62 (0) (by decide) ?_
        refine s_iaload hV dX12_back_63 (by first | decide | omega) (by first | rfl | assumption) (by decide) (by omega) (by omega) (show I2 89 (0 : Int).toNat = iI (S 6) from zN2 0 (by omega) (by omega)) ?_
        refine q_is1v hV dX12_back_64 ms_X12_184 (n_owed I2 J P (S 6) g86) (by decide) (Nat.le_refl _) (Nat.le_of_ble_eq_true rfl) ?_
        refine r_goto hV 80 dX12_back_67 (by decide) ?_
        refine s_iadd hV dX12_back_80 ?_
        first
          | rw [show S 2 + zow (S 6) = S 2 + zowed (S 6) by omega]
          | rw [show S 2 + -zow (S 6) = S 2 + zowed (S 6) by omega]
        refine r_putI hV dX12_back_81 fl_X12_165 (pf_X12_165 _) (z_okI_int rfl _) (by first | decide | omega) (by first | rfl | assumption) ?_
        generalize hgI3 : zu I2 78 (zu (I2 78) 21 (iI (S 2 + zowed (S 6)))) = I3
        have uI3 : ∀ p, p ≠ 78 → I3 p = I2 p := fun p a => by rw [← hgI3, zu_n _ _ a]
        have kI3 : ∀ k, k ≠ 21 → I3 78 k = I2 78 k := fun k a => by rw [← hgI3, zu_s, zu_n _ _ a]
        have sI3 : I3 78 21 = iI (S 2 + zowed (S 6)) := by rw [← hgI3, zu_s, zu_s]
        clear hgI3
        refine r_aload_n hV dX12_back_84 rfl rfl ?_
        refine r_dup hV dX12_back_85 rfl ?_
        refine r_getI hV dX12_back_86 fl_X12_174 (by first | decide | omega) (by first | rfl | assumption) ((kI3 24 (by omega)).trans i242) ?_
        refine s_iconst hV dX12_back_89 (1) (by decide) ?_
        refine s_isub hV dX12_back_90 ?_
        refine r_putI hV dX12_back_91 fl_X12_174 (pf_X12_174 _) (z_okI_int rfl _) (by first | decide | omega) (by first | rfl | assumption) ?_
        generalize hgI4 : zu I3 78 (zu (I3 78) 24 (iI (S 5 - 1))) = I4
        have uI4 : ∀ p, p ≠ 78 → I4 p = I3 p := fun p a => by rw [← hgI4, zu_n _ _ a]
        have kI4 : ∀ k, k ≠ 24 → I4 78 k = I3 78 k := fun k a => by rw [← hgI4, zu_s, zu_n _ _ a]
        have sI4 : I4 78 24 = iI (S 5 - 1) := by rw [← hgI4, zu_s, zu_s]
        clear hgI4
        refine s_iconst hV dX12_back_94 (0) (by decide) ?_
        refine r_istore_n hV dX12_back_95 (Nat.le_of_ble_eq_true rfl) (z_st1_2_1 rfl) ?_
        have L96 : ∀ (k96 j : Nat) (I1 : zI), (S 5 - 1).toNat - j < k96 → j ≤ (S 5 - 1).toNat → (z_ar I1 89 8 (f_gbm S (j : Int))) → (∀ p, p ≠ 89 → I1 p = I4 p) → V 108 I1 J P 96 [.ref 78, .int (iI (j : Int))] [] := by
          intro k96
          induction k96 with
          | zero => intro j I1  hk1 hk2; omega
          | succ k96 ih96 =>
            intro j I1  hk96 hl96 hz hfr
            refine r_iload_n hV dX12_back_96 rfl ?_
            refine r_aload_n hV dX12_back_97 rfl rfl ?_
            refine r_getI hV dX12_back_98 fl_X12_174 (by first | decide | omega) (by first | rfl | assumption) ((congrFun (hfr 78 (by omega)) 24).trans sI4) ?_
            refine s_icmp_ge hV 124 dX12_back_101 (by decide) (by unfold z_rg; first | omega | (split <;> omega)) (by unfold z_rg; first | omega | (split <;> omega)) (fun c101 => ?_) (fun c101 => ?_)
            · refine r_aload_n hV dX12_back_124 rfl rfl ?_
              refine r_getI hV dX12_back_125 fl_X12_165 (by first | decide | omega) (by first | rfl | assumption) ((congrFun (hfr 78 (by omega)) 21).trans ((kI4 21 (by omega)).trans sI3)) ?_
              refine r_iret hV dX12_back_128 rfl rfl ?_
              show ite _ _ _
              rw [if_neg (by omega)]
              rw [show j = (S 5 - 1).toNat by omega] at hz
              have e78 : I1 78 = I4 78 := hfr 78 (by omega)
              refine q_mact_of t0 t1 hI2 hB2 n1 n2 (fun p a _ b => (hfr p b).trans ((uI4 p a).trans (uI3 p a))) (fun k a _ _ b => by rw [e78]; exact (kI4 k b).trans (kI3 k a)) ?_ ?_ ?_ ?_ ?_ ?_
              · rw [e78]; exact (kI4 21 (by omega)).trans (sI3.trans (congrArg iI (by unfold f_gb; rw [if_pos rfl])))
              · rw [e78]; exact ((kI4 22 (by omega)).trans (kI3 22 (by omega))).trans (i222.trans (congrArg iI (by unfold f_gb; rw [if_neg (by omega), if_neg (by omega), if_neg (by omega)])))
              · rw [e78]; exact ((kI4 23 (by omega)).trans (kI3 23 (by omega))).trans (i232.trans (congrArg iI (by unfold f_gb; rw [if_neg (by omega), if_neg (by omega), if_neg (by omega)])))
              · rw [e78]; exact sI4.trans (congrArg iI (by unfold f_gb; rw [if_neg (by omega), if_pos rfl]))
              · exact z_ar_eq (z_ar_fr zA2 ((hfr 88 (by omega)).trans ((uI4 88 (by omega)).trans (uI3 88 (by omega))))) (fun z a b => by unfold f_gb; rw [if_neg (by omega), if_neg (by omega), if_neg (by omega)])
              · exact z_ar_eq hz (fun z a b => by
                  unfold f_gb f_gbm
                  rw [if_neg (show ¬ 6 + z = 2 by omega), if_neg (show ¬ 6 + z = 5 by omega)]
                  by_cases q : z < (((S 5 - 1).toNat : Nat) : Int)
                  · rw [if_pos q, if_pos (by omega)]
                  · rw [if_neg q, if_neg (by omega)])
            · refine r_aload_n hV dX12_back_104 rfl rfl ?_
              refine r_getR hV dX12_back_105 fl_X12_44 (by first | decide | omega) (by first | rfl | assumption) o25 ?_
              refine r_iload_n hV dX12_back_108 rfl ?_
              refine r_aload_n hV dX12_back_109 rfl rfl ?_
              refine r_getR hV dX12_back_110 fl_X12_44 (by first | decide | omega) (by first | rfl | assumption) o25 ?_
              refine r_iload_n hV dX12_back_113 rfl ?_
              refine s_iconst hV dX12_back_114 (1) (by decide) ?_
              refine s_iadd hV dX12_back_115 ?_
              refine s_iaload hV dX12_back_116 (by first | decide | omega) (by first | rfl | assumption) (by decide) (by omega) (by omega) (show I1 89 ((j : Int) + 1).toNat = iI (S (6 + (j : Int) + 1)) from (hz ((j : Int) + 1) (by omega) (by omega)).trans (by rw [f_gbm_n (by omega), show 6 + ((j : Int) + 1) = 6 + (j : Int) + 1 by omega])) ?_
              refine s_iastore hV dX12_back_117 (by first | decide | omega) (by first | rfl | assumption) (by decide) (by omega) (by omega) ?_
              refine s_iinc hV dX12_back_118 rfl (z_st1_2_1 rfl) ?_
              refine r_goto hV 96 dX12_back_121 (by decide) ?_
              exact ih96 (j + 1) _ (by omega) (by omega) (z_ar_eq (z_ar_set hz (by omega) _) (fun z _ _ => f_gbm_s z)) (fun p h => by rw [zu_n _ _ h]; exact hfr p h)
        exact L96 ((S 5 - 1).toNat + 1) 0 I4 (by omega) (by omega) (z_ar_eq (z_ar_fr zN2 ((uI4 89 (by omega)).trans (uI3 89 (by omega)))) (fun z a _ => (f_gbm_n (by omega)).symm)) (fun p h => rfl)
    · refine r_aload_n hV dX12_back_21 rfl rfl ?_
      refine r_getI hV dX12_back_22 fl_X12_165 (by first | decide | omega) (by first | rfl | assumption) i210 ?_
      refine r_aload_n hV dX12_back_25 rfl rfl ?_
      refine r_getR hV dX12_back_26 fl_X12_44 (by first | decide | omega) (by first | rfl | assumption) o25 ?_
      refine s_iconst hV dX12_back_29 (0) (by decide) ?_
      refine s_iaload hV dX12_back_30 (by first | decide | omega) (by first | rfl | assumption) (by decide) (by omega) (by omega) (show I0 89 (0 : Int).toNat = iI (S 6) from zN0 0 (by omega) (by omega)) ?_
      refine q_is1v hV dX12_back_31 ms_X12_184 (n_owed I0 J P (S 6) g86) (by decide) (Nat.le_refl _) (Nat.le_of_ble_eq_true rfl) ?_
      refine s_icmp_ge hV 40 dX12_back_34 (by decide) (by unfold z_rg; first | omega | (split <;> omega)) (by unfold z_rg; first | omega | (split <;> omega)) (fun c34 => ?_) (fun c34 => ?_)
      · refine r_aload_n hV dX12_back_40 rfl rfl ?_
        refine r_iv0 hV dX12_back_41 mv_X12_208 (n_note I0 J P hM tl st r c n e T F W U K S hI0 hcb H (mB_fr hB (t0 _ (by omega)))) (by first | decide | omega) (by first | rfl | assumption) (by decide) (Nat.le_refl _) (Nat.le_of_ble_eq_true rfl) (fun v2 I2 J2 P2 hq => ?_)
        obtain ⟨rfl, ej, ep, hI2, hB2, n1, n2⟩ := hq
        rw [ej, ep]
        show V 108 I2 J P _ _ []
        clear ej ep
        obtain ⟨⟨i22, i42, i52, i62, i82, i212, i222, i232, i242, i272⟩, zT2, zF2, zW2, zU2, zK2, zA2, zN2⟩ := id hI2
        refine r_aload_n hV dX12_back_44 rfl rfl ?_
        refine r_dup hV dX12_back_45 rfl ?_
        refine r_getI hV dX12_back_46 fl_X12_165 (by first | decide | omega) (by first | rfl | assumption) i212 ?_
        refine r_aload_n hV dX12_back_49 rfl rfl ?_
        refine r_getR hV dX12_back_50 fl_X12_44 (by first | decide | omega) (by first | rfl | assumption) o25 ?_
        refine s_iconst hV dX12_back_53 (0) (by decide) ?_
        refine s_iaload hV dX12_back_54 (by first | decide | omega) (by first | rfl | assumption) (by decide) (by omega) (by omega) (show I2 89 (0 : Int).toNat = iI (S 6) from zN2 0 (by omega) (by omega)) ?_
        refine s_if_le hV 70 dX12_back_55 (by decide) (by unfold z_rg; first | omega | (split <;> omega)) (fun c55 => ?_) (fun c55 => ?_)
        · refine r_aload_n hV dX12_back_70 rfl rfl ?_
          refine r_getR hV dX12_back_71 fl_X12_44 (by first | decide | omega) (by first | rfl | assumption) o25 ?_
          refine s_iconst hV dX12_back_74 (0) (by decide) ?_
          refine s_iaload hV dX12_back_75 (by first | decide | omega) (by first | rfl | assumption) (by decide) (by omega) (by omega) (show I2 89 (0 : Int).toNat = iI (S 6) from zN2 0 (by omega) (by omega)) ?_
          refine q_is1v hV dX12_back_76 ms_X12_184 (n_owed I2 J P (S 6) g86) (by decide) (Nat.le_refl _) (Nat.le_of_ble_eq_true rfl) ?_
          refine s_ineg hV dX12_back_79 ?_
          refine s_iadd hV dX12_back_80 ?_
          first
            | rw [show S 2 + zow (S 6) = S 2 + zowed (S 6) by omega]
            | rw [show S 2 + -zow (S 6) = S 2 + zowed (S 6) by omega]
          refine r_putI hV dX12_back_81 fl_X12_165 (pf_X12_165 _) (z_okI_int rfl _) (by first | decide | omega) (by first | rfl | assumption) ?_
          generalize hgI3 : zu I2 78 (zu (I2 78) 21 (iI (S 2 + zowed (S 6)))) = I3
          have uI3 : ∀ p, p ≠ 78 → I3 p = I2 p := fun p a => by rw [← hgI3, zu_n _ _ a]
          have kI3 : ∀ k, k ≠ 21 → I3 78 k = I2 78 k := fun k a => by rw [← hgI3, zu_s, zu_n _ _ a]
          have sI3 : I3 78 21 = iI (S 2 + zowed (S 6)) := by rw [← hgI3, zu_s, zu_s]
          clear hgI3
          refine r_aload_n hV dX12_back_84 rfl rfl ?_
          refine r_dup hV dX12_back_85 rfl ?_
          refine r_getI hV dX12_back_86 fl_X12_174 (by first | decide | omega) (by first | rfl | assumption) ((kI3 24 (by omega)).trans i242) ?_
          refine s_iconst hV dX12_back_89 (1) (by decide) ?_
          refine s_isub hV dX12_back_90 ?_
          refine r_putI hV dX12_back_91 fl_X12_174 (pf_X12_174 _) (z_okI_int rfl _) (by first | decide | omega) (by first | rfl | assumption) ?_
          generalize hgI4 : zu I3 78 (zu (I3 78) 24 (iI (S 5 - 1))) = I4
          have uI4 : ∀ p, p ≠ 78 → I4 p = I3 p := fun p a => by rw [← hgI4, zu_n _ _ a]
          have kI4 : ∀ k, k ≠ 24 → I4 78 k = I3 78 k := fun k a => by rw [← hgI4, zu_s, zu_n _ _ a]
          have sI4 : I4 78 24 = iI (S 5 - 1) := by rw [← hgI4, zu_s, zu_s]
          clear hgI4
          refine s_iconst hV dX12_back_94 (0) (by decide) ?_
          refine r_istore_n hV dX12_back_95 (Nat.le_of_ble_eq_true rfl) (z_st1_2_1 rfl) ?_
          have L96 : ∀ (k96 j : Nat) (I1 : zI), (S 5 - 1).toNat - j < k96 → j ≤ (S 5 - 1).toNat → (z_ar I1 89 8 (f_gbm S (j : Int))) → (∀ p, p ≠ 89 → I1 p = I4 p) → V 108 I1 J P 96 [.ref 78, .int (iI (j : Int))] [] := by
            intro k96
            induction k96 with
            | zero => intro j I1  hk1 hk2; omega
            | succ k96 ih96 =>
              intro j I1  hk96 hl96 hz hfr
              refine r_iload_n hV dX12_back_96 rfl ?_
              refine r_aload_n hV dX12_back_97 rfl rfl ?_
              refine r_getI hV dX12_back_98 fl_X12_174 (by first | decide | omega) (by first | rfl | assumption) ((congrFun (hfr 78 (by omega)) 24).trans sI4) ?_
              refine s_icmp_ge hV 124 dX12_back_101 (by decide) (by unfold z_rg; first | omega | (split <;> omega)) (by unfold z_rg; first | omega | (split <;> omega)) (fun c101 => ?_) (fun c101 => ?_)
              · refine r_aload_n hV dX12_back_124 rfl rfl ?_
                refine r_getI hV dX12_back_125 fl_X12_165 (by first | decide | omega) (by first | rfl | assumption) ((congrFun (hfr 78 (by omega)) 21).trans ((kI4 21 (by omega)).trans sI3)) ?_
                refine r_iret hV dX12_back_128 rfl rfl ?_
                show ite _ _ _
                rw [if_neg (by omega)]
                rw [show j = (S 5 - 1).toNat by omega] at hz
                have e78 : I1 78 = I4 78 := hfr 78 (by omega)
                refine q_mact_of t0 t1 hI2 hB2 n1 n2 (fun p a _ b => (hfr p b).trans ((uI4 p a).trans (uI3 p a))) (fun k a _ _ b => by rw [e78]; exact (kI4 k b).trans (kI3 k a)) ?_ ?_ ?_ ?_ ?_ ?_
                · rw [e78]; exact (kI4 21 (by omega)).trans (sI3.trans (congrArg iI (by unfold f_gb; rw [if_pos rfl])))
                · rw [e78]; exact ((kI4 22 (by omega)).trans (kI3 22 (by omega))).trans (i222.trans (congrArg iI (by unfold f_gb; rw [if_neg (by omega), if_neg (by omega), if_neg (by omega)])))
                · rw [e78]; exact ((kI4 23 (by omega)).trans (kI3 23 (by omega))).trans (i232.trans (congrArg iI (by unfold f_gb; rw [if_neg (by omega), if_neg (by omega), if_neg (by omega)])))
                · rw [e78]; exact sI4.trans (congrArg iI (by unfold f_gb; rw [if_neg (by omega), if_pos rfl]))
                · exact z_ar_eq (z_ar_fr zA2 ((hfr 88 (by omega)).trans ((uI4 88 (by omega)).trans (uI3 88 (by omega))))) (fun z a b => by unfold f_gb; rw [if_neg (by omega), if_neg (by omega), if_neg (by omega)])
                · exact z_ar_eq hz (fun z a b => by
                    unfold f_gb f_gbm
                    rw [if_neg (show ¬ 6 + z = 2 by omega), if_neg (show ¬ 6 + z = 5 by omega)]
                    by_cases q : z < (((S 5 - 1).toNat : Nat) : Int)
                    · rw [if_pos q, if_pos (by omega)]
                    · rw [if_neg q, if_neg (by omega)])
              · refine r_aload_n hV dX12_back_104 rfl rfl ?_
                refine r_getR hV dX12_back_105 fl_X12_44 (by first | decide | omega) (by first | rfl | assumption) o25 ?_
                refine r_iload_n hV dX12_back_108 rfl ?_
                refine r_aload_n hV dX12_back_109 rfl rfl ?_
                refine r_getR hV dX12_back_110 fl_X12_44 (by first | decide | omega) (by first | rfl | assumption) o25 ?_
                refine r_iload_n hV dX12_back_113 rfl ?_
                refine s_iconst hV dX12_back_114 (1) (by decide) ?_
                refine s_iadd hV dX12_back_115 ?_
                refine s_iaload hV dX12_back_116 (by first | decide | omega) (by first | rfl | assumption) (by decide) (by omega) (by omega) (show I1 89 ((j : Int) + 1).toNat = iI (S (6 + (j : Int) + 1)) from (hz ((j : Int) + 1) (by omega) (by omega)).trans (by rw [f_gbm_n (by omega), show 6 + ((j : Int) + 1) = 6 + (j : Int) + 1 by omega])) ?_
                refine s_iastore hV dX12_back_117 (by first | decide | omega) (by first | rfl | assumption) (by decide) (by omega) (by omega) ?_
                refine s_iinc hV dX12_back_118 rfl (z_st1_2_1 rfl) ?_
                refine r_goto hV 96 dX12_back_121 (by decide) ?_
                exact ih96 (j + 1) _ (by omega) (by omega) (z_ar_eq (z_ar_set hz (by omega) _) (fun z _ _ => f_gbm_s z)) (fun p h => by rw [zu_n _ _ h]; exact hfr p h)
          exact L96 ((S 5 - 1).toNat + 1) 0 I4 (by omega) (by omega) (z_ar_eq (z_ar_fr zN2 ((uI4 89 (by omega)).trans (uI3 89 (by omega)))) (fun z a _ => (f_gbm_n (by omega)).symm)) (fun p h => rfl)
        · refine r_aload_n hV dX12_back_58 rfl rfl ?_
          refine r_getR hV dX12_back_59 fl_X12_44 (by first | decide | omega) (by first | rfl | assumption) o25 ?_
          refine s_iconst hV dX12_back_62 (0) (by decide) ?_
          refine s_iaload hV dX12_back_63 (by first | decide | omega) (by first | rfl | assumption) (by decide) (by omega) (by omega) (show I2 89 (0 : Int).toNat = iI (S 6) from zN2 0 (by omega) (by omega)) ?_
          refine q_is1v hV dX12_back_64 ms_X12_184 (n_owed I2 J P (S 6) g86) (by decide) (Nat.le_refl _) (Nat.le_of_ble_eq_true rfl) ?_
          refine r_goto hV 80 dX12_back_67 (by decide) ?_
          refine s_iadd hV dX12_back_80 ?_
          first
            | rw [show S 2 + zow (S 6) = S 2 + zowed (S 6) by omega]
            | rw [show S 2 + -zow (S 6) = S 2 + zowed (S 6) by omega]
          refine r_putI hV dX12_back_81 fl_X12_165 (pf_X12_165 _) (z_okI_int rfl _) (by first | decide | omega) (by first | rfl | assumption) ?_
          generalize hgI3 : zu I2 78 (zu (I2 78) 21 (iI (S 2 + zowed (S 6)))) = I3
          have uI3 : ∀ p, p ≠ 78 → I3 p = I2 p := fun p a => by rw [← hgI3, zu_n _ _ a]
          have kI3 : ∀ k, k ≠ 21 → I3 78 k = I2 78 k := fun k a => by rw [← hgI3, zu_s, zu_n _ _ a]
          have sI3 : I3 78 21 = iI (S 2 + zowed (S 6)) := by rw [← hgI3, zu_s, zu_s]
          clear hgI3
          refine r_aload_n hV dX12_back_84 rfl rfl ?_
          refine r_dup hV dX12_back_85 rfl ?_
          refine r_getI hV dX12_back_86 fl_X12_174 (by first | decide | omega) (by first | rfl | assumption) ((kI3 24 (by omega)).trans i242) ?_
          refine s_iconst hV dX12_back_89 (1) (by decide) ?_
          refine s_isub hV dX12_back_90 ?_
          refine r_putI hV dX12_back_91 fl_X12_174 (pf_X12_174 _) (z_okI_int rfl _) (by first | decide | omega) (by first | rfl | assumption) ?_
          generalize hgI4 : zu I3 78 (zu (I3 78) 24 (iI (S 5 - 1))) = I4
          have uI4 : ∀ p, p ≠ 78 → I4 p = I3 p := fun p a => by rw [← hgI4, zu_n _ _ a]
          have kI4 : ∀ k, k ≠ 24 → I4 78 k = I3 78 k := fun k a => by rw [← hgI4, zu_s, zu_n _ _ a]
          have sI4 : I4 78 24 = iI (S 5 - 1) := by rw [← hgI4, zu_s, zu_s]
          clear hgI4
          refine s_iconst hV dX12_back_94 (0) (by decide) ?_
          refine r_istore_n hV dX12_back_95 (Nat.le_of_ble_eq_true rfl) (z_st1_2_1 rfl) ?_
          have L96 : ∀ (k96 j : Nat) (I1 : zI), (S 5 - 1).toNat - j < k96 → j ≤ (S 5 - 1).toNat → (z_ar I1 89 8 (f_gbm S (j : Int))) → (∀ p, p ≠ 89 → I1 p = I4 p) → V 108 I1 J P 96 [.ref 78, .int (iI (j : Int))] [] := by
            intro k96
            induction k96 with
            | zero => intro j I1  hk1 hk2; omega
            | succ k96 ih96 =>
              intro j I1  hk96 hl96 hz hfr
              refine r_iload_n hV dX12_back_96 rfl ?_
              refine r_aload_n hV dX12_back_97 rfl rfl ?_
              refine r_getI hV dX12_back_98 fl_X12_174 (by first | decide | omega) (by first | rfl | assumption) ((congrFun (hfr 78 (by omega)) 24).trans sI4) ?_
              refine s_icmp_ge hV 124 dX12_back_101 (by decide) (by unfold z_rg; first | omega | (split <;> omega)) (by unfold z_rg; first | omega | (split <;> omega)) (fun c101 => ?_) (fun c101 => ?_)
              · refine r_aload_n hV dX12_back_124 rfl rfl ?_
                refine r_getI hV dX12_back_125 fl_X12_165 (by first | decide | omega) (by first | rfl | assumption) ((congrFun (hfr 78 (by omega)) 21).trans ((kI4 21 (by omega)).trans sI3)) ?_
                refine r_iret hV dX12_back_128 rfl rfl ?_
                show ite _ _ _
                rw [if_neg (by omega)]
                rw [show j = (S 5 - 1).toNat by omega] at hz
                have e78 : I1 78 = I4 78 := hfr 78 (by omega)
                refine q_mact_of t0 t1 hI2 hB2 n1 n2 (fun p a _ b => (hfr p b).trans ((uI4 p a).trans (uI3 p a))) (fun k a _ _ b => by rw [e78]; exact (kI4 k b).trans (kI3 k a)) ?_ ?_ ?_ ?_ ?_ ?_
                · rw [e78]; exact (kI4 21 (by omega)).trans (sI3.trans (congrArg iI (by unfold f_gb; rw [if_pos rfl])))
                · rw [e78]; exact ((kI4 22 (by omega)).trans (kI3 22 (by omega))).trans (i222.trans (congrArg iI (by unfold f_gb; rw [if_neg (by omega), if_neg (by omega), if_neg (by omega)])))
                · rw [e78]; exact ((kI4 23 (by omega)).trans (kI3 23 (by omega))).trans (i232.trans (congrArg iI (by unfold f_gb; rw [if_neg (by omega), if_neg (by omega), if_neg (by omega)])))
                · rw [e78]; exact sI4.trans (congrArg iI (by unfold f_gb; rw [if_neg (by omega), if_pos rfl]))
                · exact z_ar_eq (z_ar_fr zA2 ((hfr 88 (by omega)).trans ((uI4 88 (by omega)).trans (uI3 88 (by omega))))) (fun z a b => by unfold f_gb; rw [if_neg (by omega), if_neg (by omega), if_neg (by omega)])
                · exact z_ar_eq hz (fun z a b => by
                    unfold f_gb f_gbm
                    rw [if_neg (show ¬ 6 + z = 2 by omega), if_neg (show ¬ 6 + z = 5 by omega)]
                    by_cases q : z < (((S 5 - 1).toNat : Nat) : Int)
                    · rw [if_pos q, if_pos (by omega)]
                    · rw [if_neg q, if_neg (by omega)])
              · refine r_aload_n hV dX12_back_104 rfl rfl ?_
                refine r_getR hV dX12_back_105 fl_X12_44 (by first | decide | omega) (by first | rfl | assumption) o25 ?_
                refine r_iload_n hV dX12_back_108 rfl ?_
                refine r_aload_n hV dX12_back_109 rfl rfl ?_
                refine r_getR hV dX12_back_110 fl_X12_44 (by first | decide | omega) (by first | rfl | assumption) o25 ?_
                refine r_iload_n hV dX12_back_113 rfl ?_
                refine s_iconst hV dX12_back_114 (1) (by decide) ?_
                refine s_iadd hV dX12_back_115 ?_
                refine s_iaload hV dX12_back_116 (by first | decide | omega) (by first | rfl | assumption) (by decide) (by omega) (by omega) (show I1 89 ((j : Int) + 1).toNat = iI (S (6 + (j : Int) + 1)) from (hz ((j : Int) + 1) (by omega) (by omega)).trans (by rw [f_gbm_n (by omega), show 6 + ((j : Int) + 1) = 6 + (j : Int) + 1 by omega])) ?_
                refine s_iastore hV dX12_back_117 (by first | decide | omega) (by first | rfl | assumption) (by decide) (by omega) (by omega) ?_
                refine s_iinc hV dX12_back_118 rfl (z_st1_2_1 rfl) ?_
                refine r_goto hV 96 dX12_back_121 (by decide) ?_
                exact ih96 (j + 1) _ (by omega) (by omega) (z_ar_eq (z_ar_set hz (by omega) _) (fun z _ _ => f_gbm_s z)) (fun p h => by rw [zu_n _ _ h]; exact hfr p h)
          exact L96 ((S 5 - 1).toNat + 1) 0 I4 (by omega) (by omega) (z_ar_eq (z_ar_fr zN2 ((uI4 89 (by omega)).trans (uI3 89 (by omega)))) (fun z a _ => (f_gbm_n (by omega)).symm)) (fun p h => rfl)
      · refine s_bipush hV dX12_back_37 (-3) (by decide) ?_
        refine r_iret hV dX12_back_39 rfl rfl ?_
        show ite _ _ _
        rw [if_pos (by omega)]
        exact ⟨rfl, rfl, rfl, t0, t1⟩

set_option maxRecDepth 20000 in
theorem n_undo (I : zI) (J : zJ) (P : zP) (hM : mK P) (tl st r c : Int) (n e : Nat) (T F W U K S : Int → Int) (hI : mI I tl st r c n e T F W U K S) (hcb : 0 ≤ c ∧ c ≤ 16) (H : Nat → Int → Int) (hB : mB I c H) : z_Sp 2 yX12_undo cX12_undo 1 (some .int) 108 108 I J P [.ref 78] (fun v I1 J1 P1 => if c < 1 then q_mno I J P (-3) v I1 J1 P1 else q_mact I J P tl st r (c - 1) n e T F W U K (H 0) (fun i => H (i + 1)) (c - 1) v I1 J1 P1) := by
  obtain ⟨o1, o7, o9, o10, o11, o16, o17, o18, o19, o20, o25, o26, o28, o29, o30, o31, o36, o37, o38, o39, o40, o41, o42, o43, o44, o45, o46, o47, o48⟩ := id hM
  refine z_met false (by decide +kernel) (fun h => by cases h) (Nat.le_of_ble_eq_true rfl) (by first | decide | omega) (fun V hV => ?_)
  show V 108 I J P 0 [.ref 78] []
  refine r_aload_n hV dX12_undo_0 rfl rfl ?_
  refine s_iconst hV dX12_undo_1 (0) (by decide) ?_
  refine r_putI hV dX12_undo_2 fl_X12_104 (pf_X12_104 _) (z_okI_int rfl _) (by first | decide | omega) (by first | rfl | assumption) ?_
  generalize hI0e : zu I 78 (zu (I 78) 0 (iI 0)) = I0
  have t0 : ∀ q, q ≠ 78 → I0 q = I q := fun q h => by rw [← hI0e, zu_n _ _ h]
  have t1 : ∀ k, k ≠ 0 → I0 78 k = I 78 k := fun k h => by rw [← hI0e, zu_s, zu_n _ _ h]
  clear hI0e
  have hI0 := mI_fr hI t0 t1
  obtain ⟨⟨i20, i40, i50, i60, i80, i210, i220, i230, i240, i270⟩, zT0, zF0, zW0, zU0, zK0, zA0, zN0⟩ := id hI0
  refine r_aload_n hV dX12_undo_5 rfl rfl ?_
  refine r_getI hV dX12_undo_6 fl_X12_177 (by first | decide | omega) (by first | rfl | assumption) i270 ?_
  refine s_if_ne hV 15 dX12_undo_9 (by decide) (by unfold z_rg; first | omega | (split <;> omega)) (fun c9 => ?_) (fun c9 => ?_)
  · refine r_aload_n hV dX12_undo_15 rfl rfl ?_
    refine r_dup hV dX12_undo_16 rfl ?_
    refine r_getI hV dX12_undo_17 fl_X12_177 (by first | decide | omega) (by first | rfl | assumption) i270 ?_
    refine s_iconst hV dX12_undo_20 (1) (by decide) ?_
    refine s_isub hV dX12_undo_21 ?_
    refine r_putI hV dX12_undo_22 fl_X12_177 (pf_X12_177 _) (z_okI_int rfl _) (by first | decide | omega) (by first | rfl | assumption) ?_
    generalize hgI1 : zu I0 78 (zu (I0 78) 27 (iI (c - 1))) = I1
    have uI1 : ∀ p, p ≠ 78 → I1 p = I0 p := fun p a => by rw [← hgI1, zu_n _ _ a]
    have kI1 : ∀ k, k ≠ 27 → I1 78 k = I0 78 k := fun k a => by rw [← hgI1, zu_s, zu_n _ _ a]
    have sI1 : I1 78 27 = iI (c - 1) := by rw [← hgI1, zu_s, zu_s]
    clear hgI1
    refine r_aload_n hV dX12_undo_25 rfl rfl ?_
    refine r_aload_n hV dX12_undo_26 rfl rfl ?_
    refine r_getR hV dX12_undo_27 fl_X12_47 (by first | decide | omega) (by first | rfl | assumption) o26 ?_
    refine s_bipush hV dX12_undo_30 (28) (by decide) ?_
    refine r_aload_n hV dX12_undo_32 rfl rfl ?_
    refine r_getI hV dX12_undo_33 fl_X12_177 (by first | decide | omega) (by first | rfl | assumption) sI1 ?_
    refine s_imul hV dX12_undo_36 ?_
    refine r_iv2 hV dX12_undo_37 mv_X12_216 (n_takePage90 I1 J P hM (H 0) (28 * (c - 1)) (by omega) (fun z a b => by rw [uI1 90 (by omega), t0 90 (by omega)]; have h := hB 0 z (by omega) a b; rwa [show 28 * (c - 1 - ((0 : Nat) : Int)) + z = 28 * (c - 1) + z by omega] at h)) (by first | decide | omega) (by first | rfl | assumption) (by decide) (Nat.le_refl _) (Nat.le_of_ble_eq_true rfl) (fun v2 I2 J2 P2 hq => ?_)
    obtain ⟨rfl, ej, ep, ⟨y21, y22, y23, y24⟩, yA, yN, yq, yk⟩ := hq
    rw [ej, ep]
    show V 108 I2 J P _ _ []
    clear ej ep
    refine r_aload_n hV dX12_undo_40 rfl rfl ?_
    refine r_getI hV dX12_undo_41 fl_X12_177 (by first | decide | omega) (by first | rfl | assumption) ((yk 27 (by omega) (by omega) (by omega) (by omega)).trans sI1) ?_
    refine r_iret hV dX12_undo_44 rfl rfl ?_
    show ite _ _ _
    rw [if_neg (by omega)]
    refine ⟨rfl, rfl, rfl, ?_, fun i z a b g => ?_, fun p b1 b2 b3 _ => (yq p b1 b2 b3).trans ((uI1 p b1).trans (t0 p b1)), fun k b0 b1 b2 b3 b4 b5 => (yk k b1 b2 b3 b4).trans ((kI1 k b5).trans (t1 k b0))⟩
    · exact mI_act hI (fun p b1 b2 b3 _ => (yq p b1 b2 b3).trans ((uI1 p b1).trans (t0 p b1))) (fun k b0 b1 b2 b3 b4 b5 => (yk k b1 b2 b3 b4).trans ((kI1 k b5).trans (t1 k b0))) y21 y22 y23 y24 ((yk 27 (by omega) (by omega) (by omega) (by omega)).trans sI1) yA yN
    · rw [yq 90 (by omega) (by omega) (by omega), uI1 90 (by omega), t0 90 (by omega)]
      have h := hB (i + 1) z (by omega) b g
      rwa [show 28 * (c - 1 - ((i + 1 : Nat) : Int)) + z = 28 * (c - 1 - 1 - (i : Int)) + z by omega] at h
  · refine s_bipush hV dX12_undo_12 (-3) (by decide) ?_
    refine r_iret hV dX12_undo_14 rfl rfl ?_
    show ite _ _ _
    rw [if_pos (by omega)]
    exact ⟨rfl, rfl, rfl, t0, t1⟩

def q_mkeep (I : zI) (J : zJ) (P : zP) (k : Int) (FU S : Int → Int) (SL : Int → Int → Int) (v : Option Value) (I1 : zI) (J1 : zJ) (P1 : zP) : Prop := v = some (.int (iI (S 2))) ∧ J1 = J ∧ P1 = P ∧ mL I1 (zup FU k 1) (fun j => if j = k then S else SL j) ∧ (∀ p, p ≠ 78 → p ≠ 91 → p ≠ 92 → I1 p = I p) ∧ ∀ k, k ≠ 0 → I1 78 k = I 78 k
set_option maxRecDepth 20000 in
theorem n_keep (I : zI) (J : zJ) (P : zP) (hM : mK P) (tl st r c : Int) (n e : Nat) (T F W U K S : Int → Int) (hI : mI I tl st r c n e T F W U K S) (FU : Int → Int) (SL : Int → Int → Int) (hL : mL I FU SL) (hFUb : z_bd FU 2 0 1) (k : Int) (hk : z_rg k) : z_Sp 2 yX12_keep cX12_keep 2 (some .int) 108 108 I J P [.ref 78, .int (iI k)] (fun v I1 J1 P1 => if ¬ (0 ≤ k ∧ k < 2) then q_mno I J P (-1) v I1 J1 P1 else q_mkeep I J P k FU S SL v I1 J1 P1) := by
  obtain ⟨o1, o7, o9, o10, o11, o16, o17, o18, o19, o20, o25, o26, o28, o29, o30, o31, o36, o37, o38, o39, o40, o41, o42, o43, o44, o45, o46, o47, o48⟩ := id hM
  have hk1 := hk.1
  have hk2 := hk.2
  refine z_met false (by decide +kernel) (fun h => by cases h) (Nat.le_of_ble_eq_true rfl) (by first | decide | omega) (fun V hV => ?_)
  show V 108 I J P 0 [.ref 78, .int (iI k)] []
  refine r_aload_n hV dX12_keep_0 rfl rfl ?_
  refine s_iconst hV dX12_keep_1 (0) (by decide) ?_
  refine r_putI hV dX12_keep_2 fl_X12_104 (pf_X12_104 _) (z_okI_int rfl _) (by first | decide | omega) (by first | rfl | assumption) ?_
  generalize hI0e : zu I 78 (zu (I 78) 0 (iI 0)) = I0
  have t0 : ∀ q, q ≠ 78 → I0 q = I q := fun q h => by rw [← hI0e, zu_n _ _ h]
  have t1 : ∀ k, k ≠ 0 → I0 78 k = I 78 k := fun k h => by rw [← hI0e, zu_s, zu_n _ _ h]
  clear hI0e
  have hI0 := mI_fr hI t0 t1
  obtain ⟨⟨i20, i40, i50, i60, i80, i210, i220, i230, i240, i270⟩, zT0, zF0, zW0, zU0, zK0, zA0, zN0⟩ := id hI0
  refine r_iload_n hV dX12_keep_5 rfl ?_
  refine s_i2l hV dX12_keep_6 (by unfold z_rg; first | omega | (split <;> omega)) ?_
  refine s_lconst hV dX12_keep_7 (0) (by decide) ?_
  refine s_lconst hV dX12_keep_8 (1) (by decide) ?_
  refine q_is3v hV dX12_keep_9 ms_X12_107 (n_in I0 J P (k) (0) (1) (by unfold z_rgL; omega) (by unfold z_rgL; omega) (by unfold z_rgL; omega)) (by decide) (Nat.le_refl _) (Nat.le_of_ble_eq_true rfl) ?_
  refine s_if_ne hV 17 dX12_keep_12 (by decide) (by unfold z_rg; first | omega | (split <;> omega)) (fun c12 => ?_) (fun c12 => ?_)
  · refine r_aload_n hV dX12_keep_17 rfl rfl ?_
    refine r_getR hV dX12_keep_18 fl_X12_53 (by first | decide | omega) (by first | rfl | assumption) o29 ?_
    refine r_iload_n hV dX12_keep_21 rfl ?_
    refine s_iconst hV dX12_keep_22 (1) (by decide) ?_
    refine s_bastore hV dX12_keep_23 (by omega) (by first | decide | omega) (by first | rfl | assumption) (by decide) (by omega) (by omega) ?_
    have hL0 := z_ar_fr hL.1 (t0 92 (by omega))
    have hf1 := z_ar_set hL0 (z := k) (by omega) (1)
    generalize hI1 : zu I0 (92) (zu (I0 92) (k).toNat (iI (1))) = I1
    have hfI1 : ∀ q, q ≠ 92 → I1 q = I0 q := fun q h => by rw [← hI1]; exact zu_n _ _ h
    rw [hI1] at hf1
    clear hI1
    have hI1 := mI_fr3 hI0 (fun q h => hfI1 q (by omega)) (fun k h => congrFun (hfI1 78 (by omega)) k)
    refine r_aload_n hV dX12_keep_24 rfl rfl ?_
    refine r_aload_n hV dX12_keep_25 rfl rfl ?_
    refine r_getR hV dX12_keep_26 fl_X12_50 (by first | decide | omega) (by first | rfl | assumption) o28 ?_
    refine s_bipush hV dX12_keep_29 (28) (by decide) ?_
    refine r_iload_n hV dX12_keep_31 rfl ?_
    refine s_imul hV dX12_keep_32 ?_
    refine r_iv2 hV dX12_keep_33 mv_X12_200 (n_layPage91 I1 J P hM tl st r c n e T F W U K S hI1 (28 * k) (by omega)) (by first | decide | omega) (by first | rfl | assumption) (by decide) (Nat.le_refl _) (Nat.le_of_ble_eq_true rfl) (fun v2 I2 J2 P2 hq => ?_)
    obtain ⟨rfl, ej, ep, y1, y2⟩ := hq
    rw [ej, ep]
    show V 108 I2 J P _ _ []
    refine r_aload_n hV dX12_keep_36 rfl rfl ?_
    refine r_getI hV dX12_keep_37 fl_X12_165 (by first | decide | omega) (by first | rfl | assumption) ((congrFun ((y2 78 (by omega)).trans (hfI1 78 (by omega))) 21).trans i210) ?_
    refine r_iret hV dX12_keep_40 rfl rfl ?_
    show ite _ _ _
    rw [if_neg (by omega)]
    refine ⟨rfl, rfl, rfl, ⟨z_ar_fr hf1 (y2 92 (by omega)), fun j z a b g h i => ?_⟩, fun p b1 b2 b3 => (y2 p b2).trans ((hfI1 p b3).trans (t0 p b1)), fun j b => (congrFun ((y2 78 (by omega)).trans (hfI1 78 (by omega))) j).trans (t1 j b)⟩
    show I2 91 (28 * j + z).toNat = iI ((if j = k then S else SL j) z)
    by_cases q : j = k
    · subst q
      rw [if_pos rfl]
      exact z_ar14 y1 (by omega) (by omega) z h i
    · rw [if_neg q, z_ar14' y1 _ (by omega) (by omega), hfI1 91 (by omega), t0 91 (by omega)]
      exact hL.2 j z a b (by rwa [zup_n q] at g) h i
  · refine s_iconst hV dX12_keep_15 (-1) (by decide) ?_
    refine r_iret hV dX12_keep_16 rfl rfl ?_
    show ite _ _ _
    rw [if_pos (by omega)]
    exact ⟨rfl, rfl, rfl, t0, t1⟩

set_option maxRecDepth 20000 in
theorem n_again (I : zI) (J : zJ) (P : zP) (hM : mK P) (tl st r c : Int) (n e : Nat) (T F W U K S : Int → Int) (hI : mI I tl st r c n e T F W U K S) (FU : Int → Int) (SL : Int → Int → Int) (hL : mL I FU SL) (hFUb : z_bd FU 2 0 1) (k : Int) (hk : z_rg k) (H : Nat → Int → Int) : z_Sp 2 yX12_again cX12_again 2 (some .int) 108 108 I J P [.ref 78, .int (iI k)] (fun v I1 J1 P1 => if ¬ (0 ≤ k ∧ k < 2) then q_mno I J P (-1) v I1 J1 P1 else if ¬ FU k = 1 then q_mno I J P (-3) v I1 J1 P1 else q_mact I J P tl st r 0 n e T F W U K (SL k) H (SL k 2) v I1 J1 P1) := by
  obtain ⟨o1, o7, o9, o10, o11, o16, o17, o18, o19, o20, o25, o26, o28, o29, o30, o31, o36, o37, o38, o39, o40, o41, o42, o43, o44, o45, o46, o47, o48⟩ := id hM
  have hk1 := hk.1
  have hk2 := hk.2
  refine z_met false (by decide +kernel) (fun h => by cases h) (Nat.le_of_ble_eq_true rfl) (by first | decide | omega) (fun V hV => ?_)
  show V 108 I J P 0 [.ref 78, .int (iI k)] []
  refine r_aload_n hV dX12_again_0 rfl rfl ?_
  refine s_iconst hV dX12_again_1 (0) (by decide) ?_
  refine r_putI hV dX12_again_2 fl_X12_104 (pf_X12_104 _) (z_okI_int rfl _) (by first | decide | omega) (by first | rfl | assumption) ?_
  generalize hI0e : zu I 78 (zu (I 78) 0 (iI 0)) = I0
  have t0 : ∀ q, q ≠ 78 → I0 q = I q := fun q h => by rw [← hI0e, zu_n _ _ h]
  have t1 : ∀ k, k ≠ 0 → I0 78 k = I 78 k := fun k h => by rw [← hI0e, zu_s, zu_n _ _ h]
  clear hI0e
  have hI0 := mI_fr hI t0 t1
  obtain ⟨⟨i20, i40, i50, i60, i80, i210, i220, i230, i240, i270⟩, zT0, zF0, zW0, zU0, zK0, zA0, zN0⟩ := id hI0
  refine r_iload_n hV dX12_again_5 rfl ?_
  refine s_i2l hV dX12_again_6 (by unfold z_rg; first | omega | (split <;> omega)) ?_
  refine s_lconst hV dX12_again_7 (0) (by decide) ?_
  refine s_lconst hV dX12_again_8 (1) (by decide) ?_
  refine q_is3v hV dX12_again_9 ms_X12_107 (n_in I0 J P (k) (0) (1) (by unfold z_rgL; omega) (by unfold z_rgL; omega) (by unfold z_rgL; omega)) (by decide) (Nat.le_refl _) (Nat.le_of_ble_eq_true rfl) ?_
  refine s_if_ne hV 17 dX12_again_12 (by decide) (by unfold z_rg; first | omega | (split <;> omega)) (fun c12 => ?_) (fun c12 => ?_)
  · refine r_aload_n hV dX12_again_17 rfl rfl ?_
    refine r_getR hV dX12_again_18 fl_X12_53 (by first | decide | omega) (by first | rfl | assumption) o29 ?_
    refine r_iload_n hV dX12_again_21 rfl ?_
    refine s_baload hV dX12_again_22 (by first | decide | omega) (by first | rfl | assumption) (by decide) (by omega) (by omega) ((congrFun (t0 92 (by omega)) _).trans (hL.1 k (by omega) (by omega))) ?_
    have hfk := hFUb k (by omega) (by omega)
    refine s_if_ne hV 29 dX12_again_23 (by decide) (by unfold z_rg; first | omega | (split <;> omega)) (fun c23 => ?_) (fun c23 => ?_)
    · refine r_aload_n hV dX12_again_29 rfl rfl ?_
      refine r_aload_n hV dX12_again_30 rfl rfl ?_
      refine r_getR hV dX12_again_31 fl_X12_50 (by first | decide | omega) (by first | rfl | assumption) o28 ?_
      refine s_bipush hV dX12_again_34 (28) (by decide) ?_
      refine r_iload_n hV dX12_again_36 rfl ?_
      refine s_imul hV dX12_again_37 ?_
      refine r_iv2 hV dX12_again_38 mv_X12_216 (n_takePage91 I0 J P hM (SL k) (28 * k) (by omega) (fun z a b => by rw [t0 91 (by omega)]; exact hL.2 k z (by omega) (by omega) (by omega) a b)) (by first | decide | omega) (by first | rfl | assumption) (by decide) (Nat.le_refl _) (Nat.le_of_ble_eq_true rfl) (fun v2 I2 J2 P2 hq => ?_)
      obtain ⟨rfl, ej, ep, ⟨y21, y22, y23, y24⟩, yA, yN, yq, yk⟩ := hq
      rw [ej, ep]
      show V 108 I2 J P _ _ []
      clear ej ep
      refine r_aload_n hV dX12_again_41 rfl rfl ?_
      refine s_iconst hV dX12_again_42 (0) (by decide) ?_
      refine r_putI hV dX12_again_43 fl_X12_177 (pf_X12_177 _) (z_okI_int rfl _) (by first | decide | omega) (by first | rfl | assumption) ?_
      generalize hgI3 : zu I2 78 (zu (I2 78) 27 (iI (0))) = I3
      have uI3 : ∀ p, p ≠ 78 → I3 p = I2 p := fun p a => by rw [← hgI3, zu_n _ _ a]
      have kI3 : ∀ k, k ≠ 27 → I3 78 k = I2 78 k := fun k a => by rw [← hgI3, zu_s, zu_n _ _ a]
      have sI3 : I3 78 27 = iI (0) := by rw [← hgI3, zu_s, zu_s]
      clear hgI3
      refine r_aload_n hV dX12_again_46 rfl rfl ?_
      refine r_getI hV dX12_again_47 fl_X12_165 (by first | decide | omega) (by first | rfl | assumption) ((kI3 21 (by omega)).trans y21) ?_
      refine r_iret hV dX12_again_50 rfl rfl ?_
      show ite _ _ _
      rw [if_neg (by omega), if_neg (by omega)]
      have f1 : ∀ p, p ≠ 78 → p ≠ 88 → p ≠ 89 → I3 p = I p := fun p b1 b2 b3 => (uI3 p b1).trans ((yq p b1 b2 b3).trans (t0 p b1))
      have f2 : ∀ k, k ≠ 0 → k ≠ 21 → k ≠ 22 → k ≠ 23 → k ≠ 24 → k ≠ 27 → I3 78 k = I 78 k := fun k b0 b1 b2 b3 b4 b5 => (kI3 k b5).trans ((yk k b1 b2 b3 b4).trans (t1 k b0))
      refine ⟨rfl, rfl, rfl, ?_, fun i z a b g => absurd a (by omega), fun p b1 b2 b3 _ => f1 p b1 b2 b3, f2⟩
      exact mI_act hI (fun p b1 b2 b3 _ => f1 p b1 b2 b3) f2 ((kI3 21 (by omega)).trans y21) ((kI3 22 (by omega)).trans y22) ((kI3 23 (by omega)).trans y23) ((kI3 24 (by omega)).trans y24) sI3 (z_ar_fr yA (uI3 88 (by omega))) (z_ar_fr yN (uI3 89 (by omega)))
    · refine s_bipush hV dX12_again_26 (-3) (by decide) ?_
      refine r_iret hV dX12_again_28 rfl rfl ?_
      show ite _ _ _
      rw [if_neg (by omega), if_pos (by omega)]
      exact ⟨rfl, rfl, rfl, t0, t1⟩
  · refine s_iconst hV dX12_again_15 (-1) (by decide) ?_
    refine r_iret hV dX12_again_16 rfl rfl ?_
    show ite _ _ _
    rw [if_pos (by omega)]
    exact ⟨rfl, rfl, rfl, t0, t1⟩

