/-! THE LAW: pairs of calls, walked: 4 -/
set_option maxRecDepth 20000 in
theorem l_ends {V : Nat → zI → zJ → zP → Nat → List Value → List Value → Prop} {post : Option Value → zI → zJ → zP → Prop} {L : Nat} {xs : Nat → Int32} (hV : z_Cl RL cL_law 11 108 false (some (L, xs)) (some .boolean) post V) (hL : L ≤ 2048) {b : Int} (hb : 999 ≤ b ∧ b + 109 ≤ 90000) {I : zI} {J : zJ} {P : zP} (h : lInv b I P) {f : UInt32} {i : Int} (hi : 0 ≤ i ∧ i + 4 ≤ L) (hgo : ∀ (I : zI) (J : zJ) (P : zP), lInv (b + 109) I P → V 108 I J P 897 [.float f, .ref 0, .ref 78, .int (iI i)] []) : V 108 I J P 715 [.float f, .ref 0, .ref 78, .int (iI i)] [] := by
  obtain ⟨d, d1, n, e, tl, st, r, c, nx, T, F, W, U, K, S, H, FU, SL, hC, hM, hB⟩ := h
  obtain ⟨hnb, he6, htb, hTb, hsb, hcb, hxb, hFk, hFb, ⟨hWb, hWb5⟩, hUb, hKb, hFUb, hGS, hHg, hSg⟩ := id hB
  obtain ⟨hK, q10, q11, hdd, hRw, ⟨hn, hst, hr, he⟩, ⟨hF, hW, hU, hKk⟩, hdf, hS, ⟨hc, hnx⟩, hring, hFU, hSL, htl, hT⟩ := id hC
  obtain ⟨W0, U0, K0, hW0, hU0, hK0, hW0b, hU0b, hK0b⟩ := id hdf
  obtain ⟨dn, dh, hg, hS2⟩ := id hGS
  refine r_aload_n hV dL_law_715 rfl rfl ?_
  refine r_aload_n hV dL_law_716 rfl rfl ?_
  refine r_iload_n hV dL_law_717 rfl ?_
  refine s_iconst hV dL_law_718 (1) (by decide) ?_
  refine s_iadd hV dL_law_719 ?_
  refine s_scl hV dL_law_720 hL (by omega) (by omega) ?_
  refine r_aload_n hV dL_law_721 rfl rfl ?_
  refine r_iload_n hV dL_law_722 rfl ?_
  refine s_iconst hV dL_law_723 (2) (by decide) ?_
  refine s_iadd hV dL_law_724 ?_
  refine s_scl hV dL_law_725 hL (by omega) (by omega) ?_
  refine r_aload_n hV dL_law_726 rfl rfl ?_
  refine r_iload_n hV dL_law_727 rfl ?_
  refine s_iconst hV dL_law_728 (3) (by decide) ?_
  refine s_iadd hV dL_law_729 ?_
  refine s_scl hV dL_law_730 hL (by omega) (by omega) ?_
  refine r_iv3 hV dL_law_731 mv_L_102 (m_ends I J P d d1 hK q10 q11 hdd hRw n hn hnb F hF hFb _ (z_rg_of _) _ (z_rg_of _) _ (z_rg_of _)) (by first | decide | omega) (by first | rfl | assumption) (by decide) (Nat.le_refl _) (Nat.le_of_ble_eq_true rfl) (fun v I1 J1 P1 hq => ?_)
  obtain ⟨x, rfl⟩ : ∃ x : Int32, v = some (.int x) := ⟨_, hq.1⟩
  have hkp := kp_rows hq
  show V 108 I1 J1 P1 _ _ [.int x]
  have hM1 := lM_kp hM hkp
  obtain ⟨mK1, mI1, mB1, mL1⟩ := id hM1
  refine r_aload_n hV dL_law_734 rfl rfl ?_
  refine r_aload_n hV dL_law_735 rfl rfl ?_
  refine r_iload_n hV dL_law_736 rfl ?_
  refine s_iconst hV dL_law_737 (1) (by decide) ?_
  refine s_iadd hV dL_law_738 ?_
  refine s_scl hV dL_law_739 hL (by omega) (by omega) ?_
  refine r_aload_n hV dL_law_740 rfl rfl ?_
  refine r_iload_n hV dL_law_741 rfl ?_
  refine s_iconst hV dL_law_742 (2) (by decide) ?_
  refine s_iadd hV dL_law_743 ?_
  refine s_scl hV dL_law_744 hL (by omega) (by omega) ?_
  refine r_aload_n hV dL_law_745 rfl rfl ?_
  refine r_iload_n hV dL_law_746 rfl ?_
  refine s_iconst hV dL_law_747 (3) (by decide) ?_
  refine s_iadd hV dL_law_748 ?_
  refine s_scl hV dL_law_749 hL (by omega) (by omega) ?_
  refine r_iv3 hV dL_law_750 mv_L_105 (n_ends I1 J1 P1 mK1 tl st r c n e T F W U K S mI1 hnb hFk.1 _ (z_rg_of _) _ (z_rg_of _) _ (z_rg_of _)) (by first | decide | omega) (by first | rfl | assumption) (by decide) (Nat.le_refl _) (Nat.le_of_ble_eq_true rfl) (fun v2 I2 J2 P2 hq2 => ?_)
  obtain ⟨rfl, hI⟩ := pr_ends hb hC hB hq hM1 hq2
  show V 108 I2 J2 P2 _ _ [.int x, .int x]
  exact l_eqI hV dL_law_753 (by decide) (hgo _ _ _ hI)
set_option maxRecDepth 20000 in
theorem l_chance {V : Nat → zI → zJ → zP → Nat → List Value → List Value → Prop} {post : Option Value → zI → zJ → zP → Prop} {L : Nat} {xs : Nat → Int32} (hV : z_Cl RL cL_law 11 108 false (some (L, xs)) (some .boolean) post V) (hL : L ≤ 2048) {b : Int} (hb : 999 ≤ b ∧ b + 109 ≤ 90000) {I : zI} {J : zJ} {P : zP} (h : lInv b I P) {f : UInt32} {i : Int} (hi : 0 ≤ i ∧ i + 4 ≤ L) (hgo : ∀ (I : zI) (J : zJ) (P : zP), lInv (b + 109) I P → V 108 I J P 897 [.float f, .ref 0, .ref 78, .int (iI i)] []) : V 108 I J P 758 [.float f, .ref 0, .ref 78, .int (iI i)] [] := by
  obtain ⟨d, d1, n, e, tl, st, r, c, nx, T, F, W, U, K, S, H, FU, SL, hC, hM, hB⟩ := h
  obtain ⟨hnb, he6, htb, hTb, hsb, hcb, hxb, hFk, hFb, ⟨hWb, hWb5⟩, hUb, hKb, hFUb, hGS, hHg, hSg⟩ := id hB
  obtain ⟨hK, q10, q11, hdd, hRw, ⟨hn, hst, hr, he⟩, ⟨hF, hW, hU, hKk⟩, hdf, hS, ⟨hc, hnx⟩, hring, hFU, hSL, htl, hT⟩ := id hC
  obtain ⟨W0, U0, K0, hW0, hU0, hK0, hW0b, hU0b, hK0b⟩ := id hdf
  obtain ⟨dn, dh, hg, hS2⟩ := id hGS
  refine r_aload_n hV dL_law_758 rfl rfl ?_
  refine r_aload_n hV dL_law_759 rfl rfl ?_
  refine r_iload_n hV dL_law_760 rfl ?_
  refine s_iconst hV dL_law_761 (1) (by decide) ?_
  refine s_iadd hV dL_law_762 ?_
  refine s_scl hV dL_law_763 hL (by omega) (by omega) ?_
  refine r_aload_n hV dL_law_764 rfl rfl ?_
  refine r_iload_n hV dL_law_765 rfl ?_
  refine s_iconst hV dL_law_766 (2) (by decide) ?_
  refine s_iadd hV dL_law_767 ?_
  refine s_scl hV dL_law_768 hL (by omega) (by omega) ?_
  refine r_aload_n hV dL_law_769 rfl rfl ?_
  refine r_iload_n hV dL_law_770 rfl ?_
  refine s_iconst hV dL_law_771 (3) (by decide) ?_
  refine s_iadd hV dL_law_772 ?_
  refine s_scl hV dL_law_773 hL (by omega) (by omega) ?_
  have J782 : ∀ y : Int, (((xs (i + 3).toNat).toInt) = 0 ∧ y = 0) ∨ (¬ ((xs (i + 3).toNat).toInt) = 0 ∧ y = 1) → V 108 I J P 782 [.float f, .ref 0, .ref 78, .int (iI i)] [.int (iI y), .int (iI ((xs (i + 2).toNat).toInt)), .int (iI ((xs (i + 1).toNat).toInt)), .ref 0] := by
    intro y hy
    have hy01 : y = 0 ∨ y = 1 := by omega
    have hyr : z_rg y := by unfold z_rg; omega
    refine r_iv3 hV dL_law_782 mv_L_106 (m_chance I J P d d1 hK q10 q11 hdd n hn hnb e he he6 F hF hFb W hW hWb _ (z_rg_of _) _ (z_rg_of _) y hyr) (by first | decide | omega) (by first | rfl | assumption) (by decide) (Nat.le_refl _) (Nat.le_of_ble_eq_true rfl) (fun v I1 J1 P1 hq => ?_)
    obtain ⟨x, rfl⟩ : ∃ x : Int64, v = some (.long x) := ⟨_, hq.1⟩
    have hkp := kp_gss hq
    show V 108 I1 J1 P1 _ _ [.long x]
    have hM1 := lM_kp hM hkp
    obtain ⟨mK1, mI1, mB1, mL1⟩ := id hM1
    refine r_aload_n hV dL_law_785 rfl rfl ?_
    refine r_aload_n hV dL_law_786 rfl rfl ?_
    refine r_iload_n hV dL_law_787 rfl ?_
    refine s_iconst hV dL_law_788 (1) (by decide) ?_
    refine s_iadd hV dL_law_789 ?_
    refine s_scl hV dL_law_790 hL (by omega) (by omega) ?_
    refine r_aload_n hV dL_law_791 rfl rfl ?_
    refine r_iload_n hV dL_law_792 rfl ?_
    refine s_iconst hV dL_law_793 (2) (by decide) ?_
    refine s_iadd hV dL_law_794 ?_
    refine s_scl hV dL_law_795 hL (by omega) (by omega) ?_
    refine r_aload_n hV dL_law_796 rfl rfl ?_
    refine r_iload_n hV dL_law_797 rfl ?_
    refine s_iconst hV dL_law_798 (3) (by decide) ?_
    refine s_iadd hV dL_law_799 ?_
    refine s_scl hV dL_law_800 hL (by omega) (by omega) ?_
    have J809 : V 108 I1 J1 P1 809 [.float f, .ref 0, .ref 78, .int (iI i)] [.int (iI y), .int (iI ((xs (i + 2).toNat).toInt)), .int (iI ((xs (i + 1).toNat).toInt)), .ref 78, .long x] := by
      skip
      refine r_iv3 hV dL_law_809 mv_L_110 (n_chance I1 J1 P1 mK1 tl st r c n e T F W U K S mI1 hnb he6 hFk.1 hWb _ (z_rg_of _) _ (z_rg_of _) y hyr) (by first | decide | omega) (by first | rfl | assumption) (by decide) (Nat.le_refl _) (Nat.le_of_ble_eq_true rfl) (fun v2 I2 J2 P2 hq2 => ?_)
      obtain ⟨rfl, hI⟩ := pr_chance hb hC hB hq hM1 hq2
      show V 108 I2 J2 P2 _ _ [.long x, .long x]
      exact l_eqL hV dL_law_812 dL_law_813 (by decide) (hgo _ _ _ hI)
    refine s_if_eq hV 808 dL_law_801 (by decide) (z_rg_of _) (fun c801 => ?_) (fun c801 => ?_)
    · refine s_iconst hV dL_law_808 (0) (by decide) ?_
      first | (rw [show (y : Int) = 0 by omega] at J809; exact J809) | (rw [show (y : Int) = 1 by omega] at J809; exact J809)
    · refine s_iconst hV dL_law_804 (1) (by decide) ?_
      refine r_goto hV 809 dL_law_805 (by decide) ?_
      first | (rw [show (y : Int) = 0 by omega] at J809; exact J809) | (rw [show (y : Int) = 1 by omega] at J809; exact J809)
  refine s_if_eq hV 781 dL_law_774 (by decide) (z_rg_of _) (fun c774 => ?_) (fun c774 => ?_)
  · refine s_iconst hV dL_law_781 (0) (by decide) ?_
    first | exact J782 0 (Or.inl ⟨c774, rfl⟩) | exact J782 1 (Or.inr ⟨c774, rfl⟩)
  · refine s_iconst hV dL_law_777 (1) (by decide) ?_
    refine r_goto hV 782 dL_law_778 (by decide) ?_
    first | exact J782 0 (Or.inl ⟨c774, rfl⟩) | exact J782 1 (Or.inr ⟨c774, rfl⟩)
set_option maxRecDepth 20000 in
theorem l_spare {V : Nat → zI → zJ → zP → Nat → List Value → List Value → Prop} {post : Option Value → zI → zJ → zP → Prop} {L : Nat} {xs : Nat → Int32} (hV : z_Cl RL cL_law 11 108 false (some (L, xs)) (some .boolean) post V) (hL : L ≤ 2048) {b : Int} (hb : 999 ≤ b ∧ b + 109 ≤ 90000) {I : zI} {J : zJ} {P : zP} (h : lInv b I P) {f : UInt32} {i : Int} (hi : 0 ≤ i ∧ i + 4 ≤ L) (hgo : ∀ (I : zI) (J : zJ) (P : zP), lInv (b + 109) I P → V 108 I J P 897 [.float f, .ref 0, .ref 78, .int (iI i)] []) : V 108 I J P 818 [.float f, .ref 0, .ref 78, .int (iI i)] [] := by
  obtain ⟨d, d1, n, e, tl, st, r, c, nx, T, F, W, U, K, S, H, FU, SL, hC, hM, hB⟩ := h
  obtain ⟨hnb, he6, htb, hTb, hsb, hcb, hxb, hFk, hFb, ⟨hWb, hWb5⟩, hUb, hKb, hFUb, hGS, hHg, hSg⟩ := id hB
  obtain ⟨hK, q10, q11, hdd, hRw, ⟨hn, hst, hr, he⟩, ⟨hF, hW, hU, hKk⟩, hdf, hS, ⟨hc, hnx⟩, hring, hFU, hSL, htl, hT⟩ := id hC
  obtain ⟨W0, U0, K0, hW0, hU0, hK0, hW0b, hU0b, hK0b⟩ := id hdf
  obtain ⟨dn, dh, hg, hS2⟩ := id hGS
  refine r_aload_n hV dL_law_818 rfl rfl ?_
  refine r_aload_n hV dL_law_819 rfl rfl ?_
  refine r_iload_n hV dL_law_820 rfl ?_
  refine s_iconst hV dL_law_821 (1) (by decide) ?_
  refine s_iadd hV dL_law_822 ?_
  refine s_scl hV dL_law_823 hL (by omega) (by omega) ?_
  refine r_aload_n hV dL_law_824 rfl rfl ?_
  refine r_iload_n hV dL_law_825 rfl ?_
  refine s_iconst hV dL_law_826 (2) (by decide) ?_
  refine s_iadd hV dL_law_827 ?_
  refine s_scl hV dL_law_828 hL (by omega) (by omega) ?_
  refine r_iv2 hV dL_law_829 mv_L_111 (m_spare I J P d d1 hK q10 q11 hdd n hn hnb e he he6 F hF hFb W hW hWb _ (z_rg_of _) _ (z_rg_of _)) (by first | decide | omega) (by first | rfl | assumption) (by decide) (Nat.le_refl _) (Nat.le_of_ble_eq_true rfl) (fun v I1 J1 P1 hq => ?_)
  obtain ⟨x, rfl⟩ : ∃ x : Int32, v = some (.int x) := ⟨_, hq.1⟩
  have hkp := kp_gss hq
  show V 108 I1 J1 P1 _ _ [.int x]
  have hM1 := lM_kp hM hkp
  obtain ⟨mK1, mI1, mB1, mL1⟩ := id hM1
  refine r_aload_n hV dL_law_832 rfl rfl ?_
  refine r_aload_n hV dL_law_833 rfl rfl ?_
  refine r_iload_n hV dL_law_834 rfl ?_
  refine s_iconst hV dL_law_835 (1) (by decide) ?_
  refine s_iadd hV dL_law_836 ?_
  refine s_scl hV dL_law_837 hL (by omega) (by omega) ?_
  refine r_aload_n hV dL_law_838 rfl rfl ?_
  refine r_iload_n hV dL_law_839 rfl ?_
  refine s_iconst hV dL_law_840 (2) (by decide) ?_
  refine s_iadd hV dL_law_841 ?_
  refine s_scl hV dL_law_842 hL (by omega) (by omega) ?_
  refine r_iv2 hV dL_law_843 mv_L_114 (n_spare I1 J1 P1 mK1 tl st r c n e T F W U K S mI1 hnb he6 hFk.1 hWb _ (z_rg_of _) _ (z_rg_of _)) (by first | decide | omega) (by first | rfl | assumption) (by decide) (Nat.le_refl _) (Nat.le_of_ble_eq_true rfl) (fun v2 I2 J2 P2 hq2 => ?_)
  obtain ⟨rfl, hI⟩ := pr_spare hb hC hB hq hM1 hq2
  show V 108 I2 J2 P2 _ _ [.int x, .int x]
  exact l_eqI hV dL_law_846 (by decide) (hgo _ _ _ hI)
set_option maxRecDepth 20000 in
theorem l_keep {V : Nat → zI → zJ → zP → Nat → List Value → List Value → Prop} {post : Option Value → zI → zJ → zP → Prop} {L : Nat} {xs : Nat → Int32} (hV : z_Cl RL cL_law 11 108 false (some (L, xs)) (some .boolean) post V) (hL : L ≤ 2048) {b : Int} (hb : 999 ≤ b ∧ b + 109 ≤ 90000) {I : zI} {J : zJ} {P : zP} (h : lInv b I P) {f : UInt32} {i : Int} (hi : 0 ≤ i ∧ i + 4 ≤ L) (hgo : ∀ (I : zI) (J : zJ) (P : zP), lInv (b + 109) I P → V 108 I J P 897 [.float f, .ref 0, .ref 78, .int (iI i)] []) : V 108 I J P 851 [.float f, .ref 0, .ref 78, .int (iI i)] [] := by
  obtain ⟨d, d1, n, e, tl, st, r, c, nx, T, F, W, U, K, S, H, FU, SL, hC, hM, hB⟩ := h
  obtain ⟨hnb, he6, htb, hTb, hsb, hcb, hxb, hFk, hFb, ⟨hWb, hWb5⟩, hUb, hKb, hFUb, hGS, hHg, hSg⟩ := id hB
  obtain ⟨hK, q10, q11, hdd, hRw, ⟨hn, hst, hr, he⟩, ⟨hF, hW, hU, hKk⟩, hdf, hS, ⟨hc, hnx⟩, hring, hFU, hSL, htl, hT⟩ := id hC
  obtain ⟨W0, U0, K0, hW0, hU0, hK0, hW0b, hU0b, hK0b⟩ := id hdf
  obtain ⟨dn, dh, hg, hS2⟩ := id hGS
  refine r_aload_n hV dL_law_851 rfl rfl ?_
  refine r_aload_n hV dL_law_852 rfl rfl ?_
  refine r_iload_n hV dL_law_853 rfl ?_
  refine s_iconst hV dL_law_854 (1) (by decide) ?_
  refine s_iadd hV dL_law_855 ?_
  refine s_scl hV dL_law_856 hL (by omega) (by omega) ?_
  refine r_iv1 hV dL_law_857 mv_L_115 (m_keep I J P d d1 hK q10 q11 hdd S hS FU hFU hFUb _ (z_rg_of _)) (by first | decide | omega) (by first | rfl | assumption) (by decide) (Nat.le_refl _) (Nat.le_of_ble_eq_true rfl) (fun v I1 J1 P1 hq => ?_)
  obtain ⟨⟨x, rfl⟩, hkp⟩ : lSh I P v I1 P1 := sh_ite hq (fun _ => sh_no) (fun c1 hq => sh_keep (Classical.not_not.mp c1) hq)
  show V 108 I1 J1 P1 _ _ [.int x]
  have hM1 := lM_kp hM hkp
  obtain ⟨mK1, mI1, mB1, mL1⟩ := id hM1
  refine r_aload_n hV dL_law_860 rfl rfl ?_
  refine r_aload_n hV dL_law_861 rfl rfl ?_
  refine r_iload_n hV dL_law_862 rfl ?_
  refine s_iconst hV dL_law_863 (1) (by decide) ?_
  refine s_iadd hV dL_law_864 ?_
  refine s_scl hV dL_law_865 hL (by omega) (by omega) ?_
  refine r_iv1 hV dL_law_866 mv_L_118 (n_keep I1 J1 P1 mK1 tl st r c n e T F W U K S mI1 FU SL mL1 hFUb _ (z_rg_of _)) (by first | decide | omega) (by first | rfl | assumption) (by decide) (Nat.le_refl _) (Nat.le_of_ble_eq_true rfl) (fun v2 I2 J2 P2 hq2 => ?_)
  obtain ⟨rfl, hI⟩ := pr_keep hb hC hB hq hM1 hq2
  show V 108 I2 J2 P2 _ _ [.int x, .int x]
  exact l_eqI hV dL_law_869 (by decide) (hgo _ _ _ hI)
set_option maxRecDepth 20000 in
theorem l_again {V : Nat → zI → zJ → zP → Nat → List Value → List Value → Prop} {post : Option Value → zI → zJ → zP → Prop} {L : Nat} {xs : Nat → Int32} (hV : z_Cl RL cL_law 11 108 false (some (L, xs)) (some .boolean) post V) (hL : L ≤ 2048) {b : Int} (hb : 999 ≤ b ∧ b + 109 ≤ 90000) {I : zI} {J : zJ} {P : zP} (h : lInv b I P) {f : UInt32} {i : Int} (hi : 0 ≤ i ∧ i + 4 ≤ L) (hgo : ∀ (I : zI) (J : zJ) (P : zP), lInv (b + 109) I P → V 108 I J P 897 [.float f, .ref 0, .ref 78, .int (iI i)] []) : V 108 I J P 874 [.float f, .ref 0, .ref 78, .int (iI i)] [] := by
  obtain ⟨d, d1, n, e, tl, st, r, c, nx, T, F, W, U, K, S, H, FU, SL, hC, hM, hB⟩ := h
  obtain ⟨hnb, he6, htb, hTb, hsb, hcb, hxb, hFk, hFb, ⟨hWb, hWb5⟩, hUb, hKb, hFUb, hGS, hHg, hSg⟩ := id hB
  obtain ⟨hK, q10, q11, hdd, hRw, ⟨hn, hst, hr, he⟩, ⟨hF, hW, hU, hKk⟩, hdf, hS, ⟨hc, hnx⟩, hring, hFU, hSL, htl, hT⟩ := id hC
  obtain ⟨W0, U0, K0, hW0, hU0, hK0, hW0b, hU0b, hK0b⟩ := id hdf
  obtain ⟨dn, dh, hg, hS2⟩ := id hGS
  refine r_aload_n hV dL_law_874 rfl rfl ?_
  refine r_aload_n hV dL_law_875 rfl rfl ?_
  refine r_iload_n hV dL_law_876 rfl ?_
  refine s_iconst hV dL_law_877 (1) (by decide) ?_
  refine s_iadd hV dL_law_878 ?_
  refine s_scl hV dL_law_879 hL (by omega) (by omega) ?_
  refine r_iv1 hV dL_law_880 mv_L_119 (m_again I J P d d1 hK q10 q11 hdd FU hFU hFUb SL hSL _ (z_rg_of _)) (by first | decide | omega) (by first | rfl | assumption) (by decide) (Nat.le_refl _) (Nat.le_of_ble_eq_true rfl) (fun v I1 J1 P1 hq => ?_)
  obtain ⟨⟨x, rfl⟩, hkp⟩ : lSh I P v I1 P1 := sh_ite hq (fun _ => sh_no) (fun c1 hq => sh_ite hq (fun _ => sh_no) (fun c1 hq => sh_again hq))
  show V 108 I1 J1 P1 _ _ [.int x]
  have hM1 := lM_kp hM hkp
  obtain ⟨mK1, mI1, mB1, mL1⟩ := id hM1
  refine r_aload_n hV dL_law_883 rfl rfl ?_
  refine r_aload_n hV dL_law_884 rfl rfl ?_
  refine r_iload_n hV dL_law_885 rfl ?_
  refine s_iconst hV dL_law_886 (1) (by decide) ?_
  refine s_iadd hV dL_law_887 ?_
  refine s_scl hV dL_law_888 hL (by omega) (by omega) ?_
  refine r_iv1 hV dL_law_889 mv_L_122 (n_again I1 J1 P1 mK1 tl st r c n e T F W U K S mI1 FU SL mL1 hFUb _ (z_rg_of _) H) (by first | decide | omega) (by first | rfl | assumption) (by decide) (Nat.le_refl _) (Nat.le_of_ble_eq_true rfl) (fun v2 I2 J2 P2 hq2 => ?_)
  obtain ⟨rfl, hI⟩ := pr_again hb hC hB hq hM1 hq2
  show V 108 I2 J2 P2 _ _ [.int x, .int x]
  exact l_eqI hV dL_law_892 (by decide) (hgo _ _ _ hI)
