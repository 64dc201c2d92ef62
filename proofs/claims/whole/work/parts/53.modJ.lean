theorem f_rd_0 {T : Int → Int} {tl n r : Int} {R : Int → Int} {p : Int} (h : ¬ (r < 10 ∧ r < n * (n - 1) / 2)) : f_rdF T tl n r R p = p := if_pos h
theorem f_er_0 {T : Int → Int} {tl n e p : Int} (h : ¬ (zsg T tl p = 69 ∧ e < 6)) : f_erF T tl n e p = p := if_pos h
def q_mpt (I : zI) (J : zJ) (P : zP) (tl p r e : Int) (n : Nat) (T R W U K : Int → Int) (v : Option Value) (I1 : zI) (J1 : zJ) (P1 : zP) : Prop := J1 = J ∧ P1 = P ∧ (∀ q, q ≠ 78 → (q < 84 ∨ 87 < q) → I1 q = I q) ∧ (∀ k, k ≠ 3 → k ≠ 14 → k ≠ 15 → I1 78 k = I 78 k) ∧ ((zsg T tl p = 82 ∧ f_rdF T tl n r R p = -9 ∧ v = some (.int (iI 1)) ∧ mR I1 tl (p + 5) (r + 1) e n T (f_rdR T tl R p) W U K) ∨ (zsg T tl p = 82 ∧ ¬ f_rdF T tl n r R p = -9 ∧ v = some (.int (iI 0)) ∧ I1 78 3 = iI (f_rdF T tl n r R p)) ∨ (¬ zsg T tl p = 82 ∧ f_erF T tl n e p = -9 ∧ v = some (.int (iI 1)) ∧ mR I1 tl (p + 4) r (e + 1) n T R (zup W e (zfg T tl (p + 1))) (zup U e (zfg T tl (p + 2))) (zup K e (zfg T tl (p + 3)))) ∨ (¬ zsg T tl p = 82 ∧ ¬ f_erF T tl n e p = -9 ∧ v = some (.int (iI 0)) ∧ I1 78 3 = iI (f_erF T tl n e p)))
set_option maxRecDepth 20000 in
theorem n_readPart (I : zI) (J : zJ) (P : zP) (hM : mK P) (tl p r e : Int) (n : Nat) (T R W U K : Int → Int) (hR : mR I tl p r e n T R W U K) (htb : 0 ≤ tl ∧ tl ≤ 80) (hp : 0 ≤ p ∧ p < tl) (hTb : z_bd T 80 0 255) (hnb : 2 ≤ n ∧ n ≤ 6) (hRb : z_bd R 36 0 99) (hrd : zRd n r R) (heb : 0 ≤ e ∧ e ≤ 6) (hrb : 0 ≤ r ∧ r ≤ 10) : z_Sp 3 yX12_readPart cX12_readPart 2 (some .boolean) 108 108 I J P [.ref 78] (q_mpt I J P tl p r e n T R W U K) := by
  obtain ⟨o1, o7, o9, o10, o11, o16, o17, o18, o19, o20, o25, o26, o28, o29, o30, o31, o36, o37, o38, o39, o40, o41, o42, o43, o44, o45, o46, o47, o48⟩ := id hM
  obtain ⟨h2, h3, h12, h14, h15, zT, zR, zW, zU, zK⟩ := id hR
  refine z_met false (by decide +kernel) (fun h => by cases h) (Nat.le_of_ble_eq_true rfl) (by first | decide | omega) (fun V hV => ?_)
  show V 108 I J P 0 [.ref 78, .null] []
  refine r_aload_n hV dX12_readPart_0 rfl rfl ?_
  refine r_getR hV dX12_readPart_1 fl_X12_7 (by first | decide | omega) (by first | rfl | assumption) o1 ?_
  refine r_aload_n hV dX12_readPart_4 rfl rfl ?_
  refine r_getI hV dX12_readPart_5 fl_X12_119 (by first | decide | omega) (by first | rfl | assumption) h3 ?_
  refine s_iaload hV dX12_readPart_8 (by first | decide | omega) (by first | rfl | assumption) (by decide) (by omega) (by omega) ((zT p (by omega) (by omega)).trans (congrArg iI (show T p = zsg T tl p from (if_pos hp).symm))) ?_
  have hsb := zsg_b (p := p) hTb htb.2
  refine r_istore_n hV dX12_readPart_9 (Nat.le_of_ble_eq_true rfl) (z_st1_2_1 rfl) ?_
  refine r_iload_n hV dX12_readPart_10 rfl ?_
  refine s_bipush hV dX12_readPart_11 (82) (by decide) ?_
  refine s_icmp_ne hV 47 dX12_readPart_13 (by decide) (by unfold z_rg; first | omega | (split <;> omega)) (by unfold z_rg; first | omega | (split <;> omega)) (fun c13 => ?_) (fun c13 => ?_)
  · refine r_iload_n hV dX12_readPart_47 rfl ?_
    refine s_bipush hV dX12_readPart_48 (69) (by decide) ?_
    refine s_icmp_ne hV 77 dX12_readPart_50 (by decide) (by unfold z_rg; first | omega | (split <;> omega)) (by unfold z_rg; first | omega | (split <;> omega)) (fun c50 => ?_) (fun c50 => ?_)
    · refine s_iconst hV dX12_readPart_77 (0) (by decide) ?_
      refine s_zret hV dX12_readPart_78 rfl (by omega) rfl ?_
      refine ⟨rfl, rfl, fun _ _ _ => rfl, fun _ _ _ _ => rfl, ?_⟩
      by_cases h82 : zsg T tl p = 82
      · have hF := f_rd_0 (T := T) (tl := tl) (n := (n : Int)) (r := r) (R := R) (p := p) (by omega)
        exact Or.inr (Or.inl ⟨h82, by omega, rfl, by rw [hF]; exact h3⟩)
      · have hF := f_er_0 (T := T) (tl := tl) (n := (n : Int)) (e := e) (p := p) (by omega)
        exact Or.inr (Or.inr (Or.inr ⟨h82, by omega, rfl, by rw [hF]; exact h3⟩))
    · refine r_aload_n hV dX12_readPart_53 rfl rfl ?_
      refine r_getI hV dX12_readPart_54 fl_X12_136 (by first | decide | omega) (by first | rfl | assumption) h15 ?_
      refine s_bipush hV dX12_readPart_57 (6) (by decide) ?_
      refine s_icmp_ge hV 77 dX12_readPart_59 (by decide) (by unfold z_rg; first | omega | (split <;> omega)) (by unfold z_rg; first | omega | (split <;> omega)) (fun c59 => ?_) (fun c59 => ?_)
      · refine s_iconst hV dX12_readPart_77 (0) (by decide) ?_
        refine s_zret hV dX12_readPart_78 rfl (by omega) rfl ?_
        refine ⟨rfl, rfl, fun _ _ _ => rfl, fun _ _ _ _ => rfl, ?_⟩
        by_cases h82 : zsg T tl p = 82
        · have hF := f_rd_0 (T := T) (tl := tl) (n := (n : Int)) (r := r) (R := R) (p := p) (by omega)
          exact Or.inr (Or.inl ⟨h82, by omega, rfl, by rw [hF]; exact h3⟩)
        · have hF := f_er_0 (T := T) (tl := tl) (n := (n : Int)) (e := e) (p := p) (by omega)
          exact Or.inr (Or.inr (Or.inr ⟨h82, by omega, rfl, by rw [hF]; exact h3⟩))
      · refine r_aload_n hV dX12_readPart_62 rfl rfl ?_
        refine r_dup hV dX12_readPart_63 rfl ?_
        refine r_getI hV dX12_readPart_64 fl_X12_119 (by first | decide | omega) (by first | rfl | assumption) h3 ?_
        refine s_iconst hV dX12_readPart_67 (1) (by decide) ?_
        refine s_iadd hV dX12_readPart_68 ?_
        refine r_putI hV dX12_readPart_69 fl_X12_119 (pf_X12_119 _) (z_okI_int rfl _) (by first | decide | omega) (by first | rfl | assumption) ?_
        generalize hI1 : zu I (78) (zu (I 78) 3 (iI (p + 1))) = I1
        have hfI1 : ∀ q, q ≠ 78 → I1 q = I q := fun q h => by rw [← hI1]; exact zu_n _ _ h
        have pI1 : I1 78 3 = iI (p + 1) := by rw [← hI1, zu_s, zu_s]
        have kI1 : ∀ k, k ≠ 3 → I1 78 k = I 78 k := fun k a => by rw [← hI1, zu_s, zu_n _ _ a]
        have uI1 : ∀ q, q ≠ 78 → I1 q = I q := fun q a => hfI1 q a
        clear hI1 hfI1
        refine r_aload_n hV dX12_readPart_72 rfl rfl ?_
        refine r_iv0 hV dX12_readPart_73 mv_X12_146 (n_readErrand I1 J P hM tl p ((kI1 2 (by omega)).trans h2) htb hp T (z_ar_fr zT (uI1 79 (by omega))) hTb pI1 n ((kI1 12 (by omega)).trans h12) hnb e ((kI1 15 (by omega)).trans h15) W U K (z_ar_fr zW (uI1 85 (by omega))) (z_ar_fr zU (uI1 86 (by omega))) (z_ar_fr zK (uI1 87 (by omega))) heb ⟨by omega, by omega⟩) (by first | decide | omega) (by first | rfl | assumption) (by decide) (Nat.le_refl _) (Nat.le_of_ble_eq_true rfl) (fun v2 I2 J2 P2 hq => ?_)
        obtain ⟨rfl, ej, ep, y3, y15, yW, yU, yK, yq, yk⟩ := hq
        rw [ej, ep]
        show V 108 I2 J P _ _ [.int (iI (if f_erF T tl n e p = -9 then 1 else 0))]
        refine s_zret hV dX12_readPart_76 rfl (by split <;> omega) rfl ?_
        refine ⟨rfl, rfl, fun q a b => (yq q a (by omega) (by omega) (by omega)).trans (uI1 q a), fun k a b c => (yk k a c).trans (kI1 k a), ?_⟩
        by_cases hF : f_erF T tl n e p = -9
        · rw [if_pos hF] at y3 y15 yW yU yK ⊢
          refine Or.inr (Or.inr (Or.inl ⟨by omega, hF, rfl, ((yk 2 (by omega) (by omega)).trans (kI1 2 (by omega))).trans h2, y3, ((yk 12 (by omega) (by omega)).trans (kI1 12 (by omega))).trans h12, ((yk 14 (by omega) (by omega)).trans (kI1 14 (by omega))).trans h14, y15, z_ar_fr zT ((yq 79 (by omega) (by omega) (by omega) (by omega)).trans (uI1 79 (by omega))), z_ar_fr zR ((yq 84 (by omega) (by omega) (by omega) (by omega)).trans (uI1 84 (by omega))), yW, yU, yK⟩))
        · rw [if_neg hF] at y3 ⊢
          exact Or.inr (Or.inr (Or.inr ⟨by omega, hF, rfl, y3⟩))
  · refine r_aload_n hV dX12_readPart_16 rfl rfl ?_
    refine r_getI hV dX12_readPart_17 fl_X12_133 (by first | decide | omega) (by first | rfl | assumption) h14 ?_
    refine s_bipush hV dX12_readPart_20 (10) (by decide) ?_
    refine s_icmp_ge hV 47 dX12_readPart_22 (by decide) (by unfold z_rg; first | omega | (split <;> omega)) (by unfold z_rg; first | omega | (split <;> omega)) (fun c22 => ?_) (fun c22 => ?_)
    · refine r_iload_n hV dX12_readPart_47 rfl ?_
      refine s_bipush hV dX12_readPart_48 (69) (by decide) ?_
      refine s_icmp_ne hV 77 dX12_readPart_50 (by decide) (by unfold z_rg; first | omega | (split <;> omega)) (by unfold z_rg; first | omega | (split <;> omega)) (fun c50 => ?_) (fun c50 => ?_)
      · refine s_iconst hV dX12_readPart_77 (0) (by decide) ?_
        refine s_zret hV dX12_readPart_78 rfl (by omega) rfl ?_
        refine ⟨rfl, rfl, fun _ _ _ => rfl, fun _ _ _ _ => rfl, ?_⟩
        by_cases h82 : zsg T tl p = 82
        · have hF := f_rd_0 (T := T) (tl := tl) (n := (n : Int)) (r := r) (R := R) (p := p) (by omega)
          exact Or.inr (Or.inl ⟨h82, by omega, rfl, by rw [hF]; exact h3⟩)
        · have hF := f_er_0 (T := T) (tl := tl) (n := (n : Int)) (e := e) (p := p) (by omega)
          exact Or.inr (Or.inr (Or.inr ⟨h82, by omega, rfl, by rw [hF]; exact h3⟩))
      · refine r_aload_n hV dX12_readPart_53 rfl rfl ?_
        refine r_getI hV dX12_readPart_54 fl_X12_136 (by first | decide | omega) (by first | rfl | assumption) h15 ?_
        refine s_bipush hV dX12_readPart_57 (6) (by decide) ?_
        refine s_icmp_ge hV 77 dX12_readPart_59 (by decide) (by unfold z_rg; first | omega | (split <;> omega)) (by unfold z_rg; first | omega | (split <;> omega)) (fun c59 => ?_) (fun c59 => ?_)
        · refine s_iconst hV dX12_readPart_77 (0) (by decide) ?_
          refine s_zret hV dX12_readPart_78 rfl (by omega) rfl ?_
          refine ⟨rfl, rfl, fun _ _ _ => rfl, fun _ _ _ _ => rfl, ?_⟩
          by_cases h82 : zsg T tl p = 82
          · have hF := f_rd_0 (T := T) (tl := tl) (n := (n : Int)) (r := r) (R := R) (p := p) (by omega)
            exact Or.inr (Or.inl ⟨h82, by omega, rfl, by rw [hF]; exact h3⟩)
          · have hF := f_er_0 (T := T) (tl := tl) (n := (n : Int)) (e := e) (p := p) (by omega)
            exact Or.inr (Or.inr (Or.inr ⟨h82, by omega, rfl, by rw [hF]; exact h3⟩))
        · refine r_aload_n hV dX12_readPart_62 rfl rfl ?_
          refine r_dup hV dX12_readPart_63 rfl ?_
          refine r_getI hV dX12_readPart_64 fl_X12_119 (by first | decide | omega) (by first | rfl | assumption) h3 ?_
          refine s_iconst hV dX12_readPart_67 (1) (by decide) ?_
          refine s_iadd hV dX12_readPart_68 ?_
          refine r_putI hV dX12_readPart_69 fl_X12_119 (pf_X12_119 _) (z_okI_int rfl _) (by first | decide | omega) (by first | rfl | assumption) ?_
          generalize hI1 : zu I (78) (zu (I 78) 3 (iI (p + 1))) = I1
          have hfI1 : ∀ q, q ≠ 78 → I1 q = I q := fun q h => by rw [← hI1]; exact zu_n _ _ h
          have pI1 : I1 78 3 = iI (p + 1) := by rw [← hI1, zu_s, zu_s]
          have kI1 : ∀ k, k ≠ 3 → I1 78 k = I 78 k := fun k a => by rw [← hI1, zu_s, zu_n _ _ a]
          have uI1 : ∀ q, q ≠ 78 → I1 q = I q := fun q a => hfI1 q a
          clear hI1 hfI1
          refine r_aload_n hV dX12_readPart_72 rfl rfl ?_
          refine r_iv0 hV dX12_readPart_73 mv_X12_146 (n_readErrand I1 J P hM tl p ((kI1 2 (by omega)).trans h2) htb hp T (z_ar_fr zT (uI1 79 (by omega))) hTb pI1 n ((kI1 12 (by omega)).trans h12) hnb e ((kI1 15 (by omega)).trans h15) W U K (z_ar_fr zW (uI1 85 (by omega))) (z_ar_fr zU (uI1 86 (by omega))) (z_ar_fr zK (uI1 87 (by omega))) heb ⟨by omega, by omega⟩) (by first | decide | omega) (by first | rfl | assumption) (by decide) (Nat.le_refl _) (Nat.le_of_ble_eq_true rfl) (fun v2 I2 J2 P2 hq => ?_)
          obtain ⟨rfl, ej, ep, y3, y15, yW, yU, yK, yq, yk⟩ := hq
          rw [ej, ep]
          show V 108 I2 J P _ _ [.int (iI (if f_erF T tl n e p = -9 then 1 else 0))]
          refine s_zret hV dX12_readPart_76 rfl (by split <;> omega) rfl ?_
          refine ⟨rfl, rfl, fun q a b => (yq q a (by omega) (by omega) (by omega)).trans (uI1 q a), fun k a b c => (yk k a c).trans (kI1 k a), ?_⟩
          by_cases hF : f_erF T tl n e p = -9
          · rw [if_pos hF] at y3 y15 yW yU yK ⊢
            refine Or.inr (Or.inr (Or.inl ⟨by omega, hF, rfl, ((yk 2 (by omega) (by omega)).trans (kI1 2 (by omega))).trans h2, y3, ((yk 12 (by omega) (by omega)).trans (kI1 12 (by omega))).trans h12, ((yk 14 (by omega) (by omega)).trans (kI1 14 (by omega))).trans h14, y15, z_ar_fr zT ((yq 79 (by omega) (by omega) (by omega) (by omega)).trans (uI1 79 (by omega))), z_ar_fr zR ((yq 84 (by omega) (by omega) (by omega) (by omega)).trans (uI1 84 (by omega))), yW, yU, yK⟩))
          · rw [if_neg hF] at y3 ⊢
            exact Or.inr (Or.inr (Or.inr ⟨by omega, hF, rfl, y3⟩))
    · refine r_aload_n hV dX12_readPart_25 rfl rfl ?_
      refine q_iv0v hV dX12_readPart_26 mv_X12_139 (n_hasPair I J P hM n h12 hnb.2 R zR hRb r hrd) (by first | decide | omega) (by first | rfl | assumption) (by decide) (Nat.le_refl _) (Nat.le_of_ble_eq_true rfl) ?_
      refine s_if_eq hV 47 dX12_readPart_29 (by decide) (by unfold z_rg; first | omega | (split <;> omega)) (fun c29 => ?_) (fun c29 => ?_)
      · have hpr := z_ite0 (by first | exact c29 | exact Classical.not_not.mp c29)
        refine r_iload_n hV dX12_readPart_47 rfl ?_
        refine s_bipush hV dX12_readPart_48 (69) (by decide) ?_
        refine s_icmp_ne hV 77 dX12_readPart_50 (by decide) (by unfold z_rg; first | omega | (split <;> omega)) (by unfold z_rg; first | omega | (split <;> omega)) (fun c50 => ?_) (fun c50 => ?_)
        · refine s_iconst hV dX12_readPart_77 (0) (by decide) ?_
          refine s_zret hV dX12_readPart_78 rfl (by omega) rfl ?_
          refine ⟨rfl, rfl, fun _ _ _ => rfl, fun _ _ _ _ => rfl, ?_⟩
          by_cases h82 : zsg T tl p = 82
          · have hF := f_rd_0 (T := T) (tl := tl) (n := (n : Int)) (r := r) (R := R) (p := p) (by omega)
            exact Or.inr (Or.inl ⟨h82, by omega, rfl, by rw [hF]; exact h3⟩)
          · have hF := f_er_0 (T := T) (tl := tl) (n := (n : Int)) (e := e) (p := p) (by omega)
            exact Or.inr (Or.inr (Or.inr ⟨h82, by omega, rfl, by rw [hF]; exact h3⟩))
        · refine r_aload_n hV dX12_readPart_53 rfl rfl ?_
          refine r_getI hV dX12_readPart_54 fl_X12_136 (by first | decide | omega) (by first | rfl | assumption) h15 ?_
          refine s_bipush hV dX12_readPart_57 (6) (by decide) ?_
          refine s_icmp_ge hV 77 dX12_readPart_59 (by decide) (by unfold z_rg; first | omega | (split <;> omega)) (by unfold z_rg; first | omega | (split <;> omega)) (fun c59 => ?_) (fun c59 => ?_)
          · refine s_iconst hV dX12_readPart_77 (0) (by decide) ?_
            refine s_zret hV dX12_readPart_78 rfl (by omega) rfl ?_
            refine ⟨rfl, rfl, fun _ _ _ => rfl, fun _ _ _ _ => rfl, ?_⟩
            by_cases h82 : zsg T tl p = 82
            · have hF := f_rd_0 (T := T) (tl := tl) (n := (n : Int)) (r := r) (R := R) (p := p) (by omega)
              exact Or.inr (Or.inl ⟨h82, by omega, rfl, by rw [hF]; exact h3⟩)
            · have hF := f_er_0 (T := T) (tl := tl) (n := (n : Int)) (e := e) (p := p) (by omega)
              exact Or.inr (Or.inr (Or.inr ⟨h82, by omega, rfl, by rw [hF]; exact h3⟩))
          · refine r_aload_n hV dX12_readPart_62 rfl rfl ?_
            refine r_dup hV dX12_readPart_63 rfl ?_
            refine r_getI hV dX12_readPart_64 fl_X12_119 (by first | decide | omega) (by first | rfl | assumption) h3 ?_
            refine s_iconst hV dX12_readPart_67 (1) (by decide) ?_
            refine s_iadd hV dX12_readPart_68 ?_
            refine r_putI hV dX12_readPart_69 fl_X12_119 (pf_X12_119 _) (z_okI_int rfl _) (by first | decide | omega) (by first | rfl | assumption) ?_
            generalize hI1 : zu I (78) (zu (I 78) 3 (iI (p + 1))) = I1
            have hfI1 : ∀ q, q ≠ 78 → I1 q = I q := fun q h => by rw [← hI1]; exact zu_n _ _ h
            have pI1 : I1 78 3 = iI (p + 1) := by rw [← hI1, zu_s, zu_s]
            have kI1 : ∀ k, k ≠ 3 → I1 78 k = I 78 k := fun k a => by rw [← hI1, zu_s, zu_n _ _ a]
            have uI1 : ∀ q, q ≠ 78 → I1 q = I q := fun q a => hfI1 q a
            clear hI1 hfI1
            refine r_aload_n hV dX12_readPart_72 rfl rfl ?_
            refine r_iv0 hV dX12_readPart_73 mv_X12_146 (n_readErrand I1 J P hM tl p ((kI1 2 (by omega)).trans h2) htb hp T (z_ar_fr zT (uI1 79 (by omega))) hTb pI1 n ((kI1 12 (by omega)).trans h12) hnb e ((kI1 15 (by omega)).trans h15) W U K (z_ar_fr zW (uI1 85 (by omega))) (z_ar_fr zU (uI1 86 (by omega))) (z_ar_fr zK (uI1 87 (by omega))) heb ⟨by omega, by omega⟩) (by first | decide | omega) (by first | rfl | assumption) (by decide) (Nat.le_refl _) (Nat.le_of_ble_eq_true rfl) (fun v2 I2 J2 P2 hq => ?_)
            obtain ⟨rfl, ej, ep, y3, y15, yW, yU, yK, yq, yk⟩ := hq
            rw [ej, ep]
            show V 108 I2 J P _ _ [.int (iI (if f_erF T tl n e p = -9 then 1 else 0))]
            refine s_zret hV dX12_readPart_76 rfl (by split <;> omega) rfl ?_
            refine ⟨rfl, rfl, fun q a b => (yq q a (by omega) (by omega) (by omega)).trans (uI1 q a), fun k a b c => (yk k a c).trans (kI1 k a), ?_⟩
            by_cases hF : f_erF T tl n e p = -9
            · rw [if_pos hF] at y3 y15 yW yU yK ⊢
              refine Or.inr (Or.inr (Or.inl ⟨by omega, hF, rfl, ((yk 2 (by omega) (by omega)).trans (kI1 2 (by omega))).trans h2, y3, ((yk 12 (by omega) (by omega)).trans (kI1 12 (by omega))).trans h12, ((yk 14 (by omega) (by omega)).trans (kI1 14 (by omega))).trans h14, y15, z_ar_fr zT ((yq 79 (by omega) (by omega) (by omega) (by omega)).trans (uI1 79 (by omega))), z_ar_fr zR ((yq 84 (by omega) (by omega) (by omega) (by omega)).trans (uI1 84 (by omega))), yW, yU, yK⟩))
            · rw [if_neg hF] at y3 ⊢
              exact Or.inr (Or.inr (Or.inr ⟨by omega, hF, rfl, y3⟩))
      · have hpr := z_ite1 c29
        refine r_aload_n hV dX12_readPart_32 rfl rfl ?_
        refine r_dup hV dX12_readPart_33 rfl ?_
        refine r_getI hV dX12_readPart_34 fl_X12_119 (by first | decide | omega) (by first | rfl | assumption) h3 ?_
        refine s_iconst hV dX12_readPart_37 (1) (by decide) ?_
        refine s_iadd hV dX12_readPart_38 ?_
        refine r_putI hV dX12_readPart_39 fl_X12_119 (pf_X12_119 _) (z_okI_int rfl _) (by first | decide | omega) (by first | rfl | assumption) ?_
        generalize hI1 : zu I (78) (zu (I 78) 3 (iI (p + 1))) = I1
        have hfI1 : ∀ q, q ≠ 78 → I1 q = I q := fun q h => by rw [← hI1]; exact zu_n _ _ h
        have pI1 : I1 78 3 = iI (p + 1) := by rw [← hI1, zu_s, zu_s]
        have kI1 : ∀ k, k ≠ 3 → I1 78 k = I 78 k := fun k a => by rw [← hI1, zu_s, zu_n _ _ a]
        have uI1 : ∀ q, q ≠ 78 → I1 q = I q := fun q a => hfI1 q a
        clear hI1 hfI1
        refine r_aload_n hV dX12_readPart_42 rfl rfl ?_
        refine r_iv0 hV dX12_readPart_43 mv_X12_143 (n_readRoad I1 J P hM tl p ((kI1 2 (by omega)).trans h2) htb hp T (z_ar_fr zT (uI1 79 (by omega))) hTb pI1 n ((kI1 12 (by omega)).trans h12) hnb R (z_ar_fr zR (uI1 84 (by omega))) hRb r ((kI1 14 (by omega)).trans h14) ⟨by omega, hpr⟩) (by first | decide | omega) (by first | rfl | assumption) (by decide) (Nat.le_refl _) (Nat.le_of_ble_eq_true rfl) (fun v2 I2 J2 P2 hq => ?_)
        obtain ⟨rfl, ej, ep, y3, y14, yR, yq, yk⟩ := hq
        rw [ej, ep]
        show V 108 I2 J P _ _ [.int (iI (if f_rdF T tl n r R p = -9 then 1 else 0))]
        refine s_zret hV dX12_readPart_46 rfl (by split <;> omega) rfl ?_
        refine ⟨rfl, rfl, fun q a b => (yq q a (by omega)).trans (uI1 q a), fun k a b c => (yk k a b).trans (kI1 k a), ?_⟩
        by_cases hF : f_rdF T tl n r R p = -9
        · rw [if_pos hF] at y3 y14 yR ⊢
          refine Or.inl ⟨by omega, hF, rfl, ((yk 2 (by omega) (by omega)).trans (kI1 2 (by omega))).trans h2, y3, ((yk 12 (by omega) (by omega)).trans (kI1 12 (by omega))).trans h12, y14, ((yk 15 (by omega) (by omega)).trans (kI1 15 (by omega))).trans h15, z_ar_fr zT ((yq 79 (by omega) (by omega)).trans (uI1 79 (by omega))), yR, z_ar_fr zW ((yq 85 (by omega) (by omega)).trans (uI1 85 (by omega))), z_ar_fr zU ((yq 86 (by omega) (by omega)).trans (uI1 86 (by omega))), z_ar_fr zK ((yq 87 (by omega) (by omega)).trans (uI1 87 (by omega)))⟩
        · rw [if_neg hF] at y3 ⊢
          exact Or.inr (Or.inl ⟨by omega, hF, rfl, y3⟩)

