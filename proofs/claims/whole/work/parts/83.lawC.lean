/-! THE LAW: pairs of calls, walked: 3 -/
set_option maxRecDepth 20000 in
theorem l_tour {V : Nat → zI → zJ → zP → Nat → List Value → List Value → Prop} {post : Option Value → zI → zJ → zP → Prop} {L : Nat} {xs : Nat → Int32} (hV : z_Cl RL cL_law 11 108 false (some (L, xs)) (some .boolean) post V) (hL : L ≤ 2048) {b : Int} (hb : 999 ≤ b ∧ b + 109 ≤ 90000) {I : zI} {J : zJ} {P : zP} (h : lInv b I P) {f : UInt32} {i : Int} (hi : 0 ≤ i ∧ i + 4 ≤ L) (hgo : ∀ (I : zI) (J : zJ) (P : zP), lInv (b + 109) I P → V 108 I J P 897 [.float f, .ref 0, .ref 78, .int (iI i)] []) : V 108 I J P 579 [.float f, .ref 0, .ref 78, .int (iI i)] [] := by
  obtain ⟨d, d1, n, e, tl, st, r, c, nx, T, F, W, U, K, S, H, FU, SL, hC, hM, hB⟩ := h
  obtain ⟨hnb, he6, htb, hTb, hsb, hcb, hxb, hFk, hFb, ⟨hWb, hWb5⟩, hUb, hKb, hFUb, hGS, hHg, hSg⟩ := id hB
  obtain ⟨hK, q10, q11, hdd, hRw, ⟨hn, hst, hr, he⟩, ⟨hF, hW, hU, hKk⟩, hdf, hS, ⟨hc, hnx⟩, hring, hFU, hSL, htl, hT⟩ := id hC
  obtain ⟨W0, U0, K0, hW0, hU0, hK0, hW0b, hU0b, hK0b⟩ := id hdf
  obtain ⟨dn, dh, hg, hS2⟩ := id hGS
  refine r_aload_n hV dL_law_579 rfl rfl ?_
  refine r_aload_n hV dL_law_580 rfl rfl ?_
  refine r_iload_n hV dL_law_581 rfl ?_
  refine s_iconst hV dL_law_582 (1) (by decide) ?_
  refine s_iadd hV dL_law_583 ?_
  refine s_scl hV dL_law_584 hL (by omega) (by omega) ?_
  refine r_aload_n hV dL_law_585 rfl rfl ?_
  refine r_iload_n hV dL_law_586 rfl ?_
  refine s_iconst hV dL_law_587 (2) (by decide) ?_
  refine s_iadd hV dL_law_588 ?_
  refine s_scl hV dL_law_589 hL (by omega) (by omega) ?_
  refine r_iv2 hV dL_law_590 mv_L_81 (m_tour I J P d d1 hK q10 q11 hdd n hn hnb e he he6 F hF hFb W hW hWb K hKk hKb S hS dn dh hg _ (z_rg_of _) _ (z_rg_of _)) (by first | decide | omega) (by first | rfl | assumption) (by decide) (Nat.le_refl _) (Nat.le_of_ble_eq_true rfl) (fun v I1 J1 P1 hq => ?_)
  obtain ⟨⟨x, rfl⟩, hkp⟩ : lSh I P v I1 P1 := sh_scr (by omega) hq
  show V 108 I1 J1 P1 _ _ [.int x]
  have hM1 := lM_kp hM hkp
  obtain ⟨mK1, mI1, mB1, mL1⟩ := id hM1
  refine r_aload_n hV dL_law_593 rfl rfl ?_
  refine r_aload_n hV dL_law_594 rfl rfl ?_
  refine r_iload_n hV dL_law_595 rfl ?_
  refine s_iconst hV dL_law_596 (1) (by decide) ?_
  refine s_iadd hV dL_law_597 ?_
  refine s_scl hV dL_law_598 hL (by omega) (by omega) ?_
  refine r_aload_n hV dL_law_599 rfl rfl ?_
  refine r_iload_n hV dL_law_600 rfl ?_
  refine s_iconst hV dL_law_601 (2) (by decide) ?_
  refine s_iadd hV dL_law_602 ?_
  refine s_scl hV dL_law_603 hL (by omega) (by omega) ?_
  refine r_iv2 hV dL_law_604 mv_L_84 (n_tour I1 J1 P1 mK1 tl st r c n e T F W U K S mI1 hnb he6 hFk.1 hWb hKb dn dh hg _ (z_rg_of _) _ (z_rg_of _)) (by first | decide | omega) (by first | rfl | assumption) (by decide) (Nat.le_refl _) (Nat.le_of_ble_eq_true rfl) (fun v2 I2 J2 P2 hq2 => ?_)
  obtain ⟨rfl, hI⟩ := pr_tour hb hC hB hg hS2 hq hM1 hq2
  show V 108 I2 J2 P2 _ _ [.int x, .int x]
  exact l_eqI hV dL_law_607 (by decide) (hgo _ _ _ hI)
set_option maxRecDepth 20000 in
theorem l_plan {V : Nat → zI → zJ → zP → Nat → List Value → List Value → Prop} {post : Option Value → zI → zJ → zP → Prop} {L : Nat} {xs : Nat → Int32} (hV : z_Cl RL cL_law 11 108 false (some (L, xs)) (some .boolean) post V) (hL : L ≤ 2048) {b : Int} (hb : 999 ≤ b ∧ b + 109 ≤ 90000) {I : zI} {J : zJ} {P : zP} (h : lInv b I P) {f : UInt32} {i : Int} (hi : 0 ≤ i ∧ i + 4 ≤ L) (hgo : ∀ (I : zI) (J : zJ) (P : zP), lInv (b + 109) I P → V 108 I J P 897 [.float f, .ref 0, .ref 78, .int (iI i)] []) : V 108 I J P 612 [.float f, .ref 0, .ref 78, .int (iI i)] [] := by
  obtain ⟨d, d1, n, e, tl, st, r, c, nx, T, F, W, U, K, S, H, FU, SL, hC, hM, hB⟩ := h
  obtain ⟨hnb, he6, htb, hTb, hsb, hcb, hxb, hFk, hFb, ⟨hWb, hWb5⟩, hUb, hKb, hFUb, hGS, hHg, hSg⟩ := id hB
  obtain ⟨hK, q10, q11, hdd, hRw, ⟨hn, hst, hr, he⟩, ⟨hF, hW, hU, hKk⟩, hdf, hS, ⟨hc, hnx⟩, hring, hFU, hSL, htl, hT⟩ := id hC
  obtain ⟨W0, U0, K0, hW0, hU0, hK0, hW0b, hU0b, hK0b⟩ := id hdf
  obtain ⟨dn, dh, hg, hS2⟩ := id hGS
  refine r_aload_n hV dL_law_612 rfl rfl ?_
  refine r_aload_n hV dL_law_613 rfl rfl ?_
  refine r_iload_n hV dL_law_614 rfl ?_
  refine s_iconst hV dL_law_615 (1) (by decide) ?_
  refine s_iadd hV dL_law_616 ?_
  refine s_scl hV dL_law_617 hL (by omega) (by omega) ?_
  refine r_iv1 hV dL_law_618 mv_L_85 (m_plan I J P d d1 hK q10 q11 hdd n hn hnb e he he6 F hF hFb W hW hWb U hU hUb K hKk hKb S hS dn dh hg _ (z_rg_of _)) (by first | decide | omega) (by first | rfl | assumption) (by decide) (Nat.le_refl _) (Nat.le_of_ble_eq_true rfl) (fun v I1 J1 P1 hq => ?_)
  obtain ⟨⟨x, rfl⟩, hkp⟩ : lSh I P v I1 P1 := sh_scr (by omega) hq
  show V 108 I1 J1 P1 _ _ [.int x]
  have hM1 := lM_kp hM hkp
  obtain ⟨mK1, mI1, mB1, mL1⟩ := id hM1
  refine r_aload_n hV dL_law_621 rfl rfl ?_
  refine r_aload_n hV dL_law_622 rfl rfl ?_
  refine r_iload_n hV dL_law_623 rfl ?_
  refine s_iconst hV dL_law_624 (1) (by decide) ?_
  refine s_iadd hV dL_law_625 ?_
  refine s_scl hV dL_law_626 hL (by omega) (by omega) ?_
  refine r_iv1 hV dL_law_627 mv_L_88 (n_plan I1 J1 P1 mK1 tl st r c n e T F W U K S mI1 hnb he6 hFk.1 hWb hUb hKb dn dh hg _ (z_rg_of _)) (by first | decide | omega) (by first | rfl | assumption) (by decide) (Nat.le_refl _) (Nat.le_of_ble_eq_true rfl) (fun v2 I2 J2 P2 hq2 => ?_)
  obtain ⟨rfl, hI⟩ := pr_plan hb hC hB hg hS2 hq hM1 hq2
  show V 108 I2 J2 P2 _ _ [.int x, .int x]
  exact l_eqI hV dL_law_630 (by decide) (hgo _ _ _ hI)
set_option maxRecDepth 20000 in
theorem l_live {V : Nat → zI → zJ → zP → Nat → List Value → List Value → Prop} {post : Option Value → zI → zJ → zP → Prop} {L : Nat} {xs : Nat → Int32} (hV : z_Cl RL cL_law 11 108 false (some (L, xs)) (some .boolean) post V) (hL : L ≤ 2048) {b : Int} (hb : 999 ≤ b ∧ b + 109 ≤ 90000) {I : zI} {J : zJ} {P : zP} (h : lInv b I P) {f : UInt32} {i : Int} (hi : 0 ≤ i ∧ i + 4 ≤ L) (hgo : ∀ (I : zI) (J : zJ) (P : zP), lInv (b + 109) I P → V 108 I J P 897 [.float f, .ref 0, .ref 78, .int (iI i)] []) : V 108 I J P 635 [.float f, .ref 0, .ref 78, .int (iI i)] [] := by
  obtain ⟨d, d1, n, e, tl, st, r, c, nx, T, F, W, U, K, S, H, FU, SL, hC, hM, hB⟩ := h
  obtain ⟨hnb, he6, htb, hTb, hsb, hcb, hxb, hFk, hFb, ⟨hWb, hWb5⟩, hUb, hKb, hFUb, hGS, hHg, hSg⟩ := id hB
  obtain ⟨hK, q10, q11, hdd, hRw, ⟨hn, hst, hr, he⟩, ⟨hF, hW, hU, hKk⟩, hdf, hS, ⟨hc, hnx⟩, hring, hFU, hSL, htl, hT⟩ := id hC
  obtain ⟨W0, U0, K0, hW0, hU0, hK0, hW0b, hU0b, hK0b⟩ := id hdf
  obtain ⟨dn, dh, hg, hS2⟩ := id hGS
  refine r_aload_n hV dL_law_635 rfl rfl ?_
  refine r_iv0 hV dL_law_636 mv_L_89 (m_live I J P d d1 hK q10 q11 hdd n hn hnb e he he6 F hF hFb W hW hWb U hU hUb K hKk hKb st hst hsb) (by first | decide | omega) (by first | rfl | assumption) (by decide) (Nat.le_refl _) (Nat.le_of_ble_eq_true rfl) (fun v I1 J1 P1 hq => ?_)
  obtain ⟨⟨x, rfl⟩, hkp⟩ : lSh I P v I1 P1 := sh_scr (by omega) hq
  show V 108 I1 J1 P1 _ _ [.int x]
  have hM1 := lM_kp hM hkp
  obtain ⟨mK1, mI1, mB1, mL1⟩ := id hM1
  refine r_aload_n hV dL_law_639 rfl rfl ?_
  refine r_iv0 hV dL_law_640 mv_L_92 (n_live I1 J1 P1 mK1 tl st r c n e T F W U K S mI1 hnb he6 hFk.1 hWb hUb hKb hsb) (by first | decide | omega) (by first | rfl | assumption) (by decide) (Nat.le_refl _) (Nat.le_of_ble_eq_true rfl) (fun v2 I2 J2 P2 hq2 => ?_)
  obtain ⟨rfl, hI⟩ := pr_live hb hC hB hq hM1 hq2
  show V 108 I2 J2 P2 _ _ [.int x, .int x]
  exact l_eqI hV dL_law_643 (by decide) (hgo _ _ _ hI)
set_option maxRecDepth 20000 in
theorem l_byTurns {V : Nat → zI → zJ → zP → Nat → List Value → List Value → Prop} {post : Option Value → zI → zJ → zP → Prop} {L : Nat} {xs : Nat → Int32} (hV : z_Cl RL cL_law 11 108 false (some (L, xs)) (some .boolean) post V) (hL : L ≤ 2048) {b : Int} (hb : 999 ≤ b ∧ b + 109 ≤ 90000) {I : zI} {J : zJ} {P : zP} (h : lInv b I P) {f : UInt32} {i : Int} (hi : 0 ≤ i ∧ i + 4 ≤ L) (hgo : ∀ (I : zI) (J : zJ) (P : zP), lInv (b + 109) I P → V 108 I J P 897 [.float f, .ref 0, .ref 78, .int (iI i)] []) : V 108 I J P 648 [.float f, .ref 0, .ref 78, .int (iI i)] [] := by
  obtain ⟨d, d1, n, e, tl, st, r, c, nx, T, F, W, U, K, S, H, FU, SL, hC, hM, hB⟩ := h
  obtain ⟨hnb, he6, htb, hTb, hsb, hcb, hxb, hFk, hFb, ⟨hWb, hWb5⟩, hUb, hKb, hFUb, hGS, hHg, hSg⟩ := id hB
  obtain ⟨hK, q10, q11, hdd, hRw, ⟨hn, hst, hr, he⟩, ⟨hF, hW, hU, hKk⟩, hdf, hS, ⟨hc, hnx⟩, hring, hFU, hSL, htl, hT⟩ := id hC
  obtain ⟨W0, U0, K0, hW0, hU0, hK0, hW0b, hU0b, hK0b⟩ := id hdf
  obtain ⟨dn, dh, hg, hS2⟩ := id hGS
  refine r_aload_n hV dL_law_648 rfl rfl ?_
  refine r_aload_n hV dL_law_649 rfl rfl ?_
  refine r_iload_n hV dL_law_650 rfl ?_
  refine s_iconst hV dL_law_651 (1) (by decide) ?_
  refine s_iadd hV dL_law_652 ?_
  refine s_scl hV dL_law_653 hL (by omega) (by omega) ?_
  refine r_iv1 hV dL_law_654 mv_L_93 (m_byTurns I J P d d1 hK q10 q11 hdd n hn hnb e he he6 F hF hFb W hW hWb U hU hUb K hKk hKb S hS dn dh hg _ (z_rg_of _)) (by first | decide | omega) (by first | rfl | assumption) (by decide) (Nat.le_refl _) (Nat.le_of_ble_eq_true rfl) (fun v I1 J1 P1 hq => ?_)
  obtain ⟨⟨x, rfl⟩, hkp⟩ : lSh I P v I1 P1 := sh_btn hq
  show V 108 I1 J1 P1 _ _ [.int x]
  have hM1 := lM_kp hM hkp
  obtain ⟨mK1, mI1, mB1, mL1⟩ := id hM1
  refine r_aload_n hV dL_law_657 rfl rfl ?_
  refine r_aload_n hV dL_law_658 rfl rfl ?_
  refine r_iload_n hV dL_law_659 rfl ?_
  refine s_iconst hV dL_law_660 (1) (by decide) ?_
  refine s_iadd hV dL_law_661 ?_
  refine s_scl hV dL_law_662 hL (by omega) (by omega) ?_
  refine r_iv1 hV dL_law_663 mv_L_96 (n_byTurns I1 J1 P1 mK1 tl st r c n e T F W U K S mI1 hnb he6 hFk.1 (show F 0 = 0 from hFk.2.2.1 0 (by omega)) hWb hUb hKb dn dh hg _ (z_rg_of _)) (by first | decide | omega) (by first | rfl | assumption) (by decide) (Nat.le_refl _) (Nat.le_of_ble_eq_true rfl) (fun v2 I2 J2 P2 hq2 => ?_)
  obtain ⟨rfl, hI⟩ := pr_byTurns hb hC hB hg hS2 hq hM1 hq2
  show V 108 I2 J2 P2 _ _ [.int x, .int x]
  exact l_eqI hV dL_law_666 (by decide) (hgo _ _ _ hI)
set_option maxRecDepth 20000 in
theorem l_ledger {V : Nat → zI → zJ → zP → Nat → List Value → List Value → Prop} {post : Option Value → zI → zJ → zP → Prop} {L : Nat} {xs : Nat → Int32} (hV : z_Cl RL cL_law 11 108 false (some (L, xs)) (some .boolean) post V) (hL : L ≤ 2048) {b : Int} (hb : 999 ≤ b ∧ b + 109 ≤ 90000) {I : zI} {J : zJ} {P : zP} (h : lInv b I P) {f : UInt32} {i : Int} (hi : 0 ≤ i ∧ i + 4 ≤ L) (hgo : ∀ (I : zI) (J : zJ) (P : zP), lInv (b + 109) I P → V 108 I J P 897 [.float f, .ref 0, .ref 78, .int (iI i)] []) : V 108 I J P 671 [.float f, .ref 0, .ref 78, .int (iI i)] [] := by
  obtain ⟨d, d1, n, e, tl, st, r, c, nx, T, F, W, U, K, S, H, FU, SL, hC, hM, hB⟩ := h
  obtain ⟨hnb, he6, htb, hTb, hsb, hcb, hxb, hFk, hFb, ⟨hWb, hWb5⟩, hUb, hKb, hFUb, hGS, hHg, hSg⟩ := id hB
  obtain ⟨hK, q10, q11, hdd, hRw, ⟨hn, hst, hr, he⟩, ⟨hF, hW, hU, hKk⟩, hdf, hS, ⟨hc, hnx⟩, hring, hFU, hSL, htl, hT⟩ := id hC
  obtain ⟨W0, U0, K0, hW0, hU0, hK0, hW0b, hU0b, hK0b⟩ := id hdf
  obtain ⟨dn, dh, hg, hS2⟩ := id hGS
  refine r_aload_n hV dL_law_671 rfl rfl ?_
  refine r_aload_n hV dL_law_672 rfl rfl ?_
  refine r_iload_n hV dL_law_673 rfl ?_
  refine s_iconst hV dL_law_674 (1) (by decide) ?_
  refine s_iadd hV dL_law_675 ?_
  refine s_scl hV dL_law_676 hL (by omega) (by omega) ?_
  refine r_aload_n hV dL_law_677 rfl rfl ?_
  refine r_iload_n hV dL_law_678 rfl ?_
  refine s_iconst hV dL_law_679 (2) (by decide) ?_
  refine s_iadd hV dL_law_680 ?_
  refine s_scl hV dL_law_681 hL (by omega) (by omega) ?_
  refine r_aload_n hV dL_law_682 rfl rfl ?_
  refine r_iload_n hV dL_law_683 rfl ?_
  refine s_iconst hV dL_law_684 (3) (by decide) ?_
  refine s_iadd hV dL_law_685 ?_
  refine s_scl hV dL_law_686 hL (by omega) (by omega) ?_
  refine r_iv3 hV dL_law_687 mv_L_97 (m_ledger I J P d d1 hK q10 q11 hdd hRw n hn hnb F hF hFb _ (z_rg_of _) _ (z_rg_of _) _ (z_rg_of _)) (by first | decide | omega) (by first | rfl | assumption) (by decide) (Nat.le_refl _) (Nat.le_of_ble_eq_true rfl) (fun v I1 J1 P1 hq => ?_)
  obtain ⟨x, rfl⟩ : ∃ x : Int64, v = some (.long x) := ⟨_, hq.1⟩
  have hkp := kp_rows hq
  show V 108 I1 J1 P1 _ _ [.long x]
  have hM1 := lM_kp hM hkp
  obtain ⟨mK1, mI1, mB1, mL1⟩ := id hM1
  refine r_aload_n hV dL_law_690 rfl rfl ?_
  refine r_aload_n hV dL_law_691 rfl rfl ?_
  refine r_iload_n hV dL_law_692 rfl ?_
  refine s_iconst hV dL_law_693 (1) (by decide) ?_
  refine s_iadd hV dL_law_694 ?_
  refine s_scl hV dL_law_695 hL (by omega) (by omega) ?_
  refine r_aload_n hV dL_law_696 rfl rfl ?_
  refine r_iload_n hV dL_law_697 rfl ?_
  refine s_iconst hV dL_law_698 (2) (by decide) ?_
  refine s_iadd hV dL_law_699 ?_
  refine s_scl hV dL_law_700 hL (by omega) (by omega) ?_
  refine r_aload_n hV dL_law_701 rfl rfl ?_
  refine r_iload_n hV dL_law_702 rfl ?_
  refine s_iconst hV dL_law_703 (3) (by decide) ?_
  refine s_iadd hV dL_law_704 ?_
  refine s_scl hV dL_law_705 hL (by omega) (by omega) ?_
  refine r_iv3 hV dL_law_706 mv_L_101 (n_ledger I1 J1 P1 mK1 tl st r c n e T F W U K S mI1 hnb hFk.1 _ (z_rg_of _) _ (z_rg_of _) _ (z_rg_of _)) (by first | decide | omega) (by first | rfl | assumption) (by decide) (Nat.le_refl _) (Nat.le_of_ble_eq_true rfl) (fun v2 I2 J2 P2 hq2 => ?_)
  obtain ⟨rfl, hI⟩ := pr_ledger hb hC hB hq hM1 hq2
  show V 108 I2 J2 P2 _ _ [.long x, .long x]
  exact l_eqL hV dL_law_709 dL_law_710 (by decide) (hgo _ _ _ hI)
