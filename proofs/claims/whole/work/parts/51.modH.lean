theorem f_rd_a {T : Int → Int} {tl r : Int} {n : Nat} {R : Int → Int} {p : Int} (hr : r < 10 ∧ r < (n : Int) * ((n : Int) - 1) / 2) (h : ¬ (0 ≤ zfg T tl (p + 1) ∧ zfg T tl (p + 1) < n) ∨ ¬ zany (f_fr n R (zfg T tl (p + 1))) n = true) : f_rdF T tl n r R p = p + 1 := by
  unfold f_rdF
  rw [if_neg (not_not_intro hr), Int.toNat_natCast, if_pos]
  rcases h with h | h
  · rw [zany_no (fun i hi => by simp only [f_fr, decide_eq_false_iff_not]; omega)]
    decide
  · exact h
theorem f_rd_b {T : Int → Int} {tl r : Int} {n : Nat} {R : Int → Int} {p : Int} (hr : r < 10 ∧ r < (n : Int) * ((n : Int) - 1) / 2) (h : zany (f_fr n R (zfg T tl (p + 1))) n = true) (hf : ¬ (((0 ≤ zfg T tl (p + 1) ∧ zfg T tl (p + 1) < n) ∧ (0 ≤ zfg T tl (p + 2) ∧ zfg T tl (p + 2) < n)) ∧ ¬ zfg T tl (p + 1) = zfg T tl (p + 2) ∧ R (zfg T tl (p + 1) * 6 + zfg T tl (p + 2)) = 0)) : f_rdF T tl n r R p = p + 2 := by
  unfold f_rdF
  rw [if_neg (not_not_intro hr), Int.toNat_natCast, if_neg (not_not_intro h), if_pos hf]
theorem f_rd_c {T : Int → Int} {tl r : Int} {n : Nat} {R : Int → Int} {p : Int} (hr : r < 10 ∧ r < (n : Int) * ((n : Int) - 1) / 2) (h : zany (f_fr n R (zfg T tl (p + 1))) n = true) (hf : ((0 ≤ zfg T tl (p + 1) ∧ zfg T tl (p + 1) < n) ∧ (0 ≤ zfg T tl (p + 2) ∧ zfg T tl (p + 2) < n)) ∧ ¬ zfg T tl (p + 1) = zfg T tl (p + 2) ∧ R (zfg T tl (p + 1) * 6 + zfg T tl (p + 2)) = 0) : f_rdF T tl n r R p = if zfg T tl (p + 3) < 0 then p + 3 else if zfg T tl (p + 4) < 0 ∨ zfg T tl (p + 3) + zfg T tl (p + 4) = 0 then p + 4 else -9 := by
  unfold f_rdF
  rw [if_neg (not_not_intro hr), Int.toNat_natCast, if_neg (not_not_intro h), if_neg (not_not_intro hf)]
def q_mrd (I : zI) (J : zJ) (P : zP) (F p r : Int) (R R2 : Int → Int) (v : Option Value) (I1 : zI) (J1 : zJ) (P1 : zP) : Prop := v = some (.int (iI (if F = -9 then 1 else 0))) ∧ J1 = J ∧ P1 = P ∧ I1 78 3 = iI (if F = -9 then p + 5 else F) ∧ I1 78 14 = iI (if F = -9 then r + 1 else r) ∧ z_ar I1 84 36 (mRf (if F = -9 then R2 else R)) ∧ (∀ q, q ≠ 78 → q ≠ 84 → I1 q = I q) ∧ ∀ k, k ≠ 3 → k ≠ 14 → I1 78 k = I 78 k
set_option maxRecDepth 20000 in
theorem n_readRoad (I : zI) (J : zJ) (P : zP) (hM : mK P) (tl p : Int) (h2 : I 78 2 = iI tl) (htb : 0 ≤ tl ∧ tl ≤ 80) (hp : 0 ≤ p ∧ p < tl) (T : Int → Int) (zT : z_ar I 79 80 T) (hTb : z_bd T 80 0 255) (h3 : I 78 3 = iI (p + 1)) (n : Nat) (h12 : I 78 12 = iI (n : Int)) (hnb : 2 ≤ n ∧ n ≤ 6) (R : Int → Int) (zR : z_ar I 84 36 (mRf R)) (hRb : z_bd R 36 0 99) (r : Int) (h14 : I 78 14 = iI r) (hroom : r < 10 ∧ r < (n : Int) * ((n : Int) - 1) / 2) : z_Sp 2 yX12_readRoad cX12_readRoad 5 (some .boolean) 108 108 I J P [.ref 78] (q_mrd I J P (f_rdF T tl n r R p) p r R (f_rdR T tl R p)) := by
  obtain ⟨o1, o7, o9, o10, o11, o16, o17, o18, o19, o20, o25, o26, o28, o29, o30, o31, o36, o37, o38, o39, o40, o41, o42, o43, o44, o45, o46, o47, o48⟩ := id hM
  have hv1 : zfg T tl (p + 1) = if 48 ≤ zsg T tl (p + 1) ∧ zsg T tl (p + 1) ≤ 57 then zsg T tl (p + 1) - 48 else -1 := rfl
  have hs1 : zsg T tl (p + 1) = if 0 ≤ p + 1 ∧ p + 1 < tl then T (p + 1) else 0 := rfl
  have hv2 : zfg T tl (p + 2) = if 48 ≤ zsg T tl (p + 2) ∧ zsg T tl (p + 2) ≤ 57 then zsg T tl (p + 2) - 48 else -1 := rfl
  have hs2 : zsg T tl (p + 2) = if 0 ≤ p + 2 ∧ p + 2 < tl then T (p + 2) else 0 := rfl
  have hv3 : zfg T tl (p + 3) = if 48 ≤ zsg T tl (p + 3) ∧ zsg T tl (p + 3) ≤ 57 then zsg T tl (p + 3) - 48 else -1 := rfl
  have hs3 : zsg T tl (p + 3) = if 0 ≤ p + 3 ∧ p + 3 < tl then T (p + 3) else 0 := rfl
  have hv4 : zfg T tl (p + 4) = if 48 ≤ zsg T tl (p + 4) ∧ zsg T tl (p + 4) ≤ 57 then zsg T tl (p + 4) - 48 else -1 := rfl
  have hs4 : zsg T tl (p + 4) = if 0 ≤ p + 4 ∧ p + 4 < tl then T (p + 4) else 0 := rfl
  refine z_met false (by decide +kernel) (fun h => by cases h) (Nat.le_of_ble_eq_true rfl) (by first | decide | omega) (fun V hV => ?_)
  show V 108 I J P 0 [.ref 78, .null, .null, .null, .null] []
  have J28 : ∀ a0 : Int, z_rg a0 → ((0 ≤ a0 ∧ a0 ≤ (n : Int) - 1) ↔ (0 ≤ zfg T tl (p + 1) ∧ zfg T tl (p + 1) < n)) → ((0 ≤ a0 ∧ a0 ≤ (n : Int) - 1) → a0 = zfg T tl (p + 1)) → V 108 I J P 28 [.ref 78, .null, .null, .null, .null] [.int (iI a0)] := by
    intro a1 hr1 hi1 he1
    have hr11 := hr1.1
    have hr12 := hr1.2
    refine r_istore_n hV dX12_readRoad_28 (Nat.le_of_ble_eq_true rfl) (z_st1_5_1 rfl) ?_
    refine r_iload_n hV dX12_readRoad_29 rfl ?_
    refine s_i2l hV dX12_readRoad_30 (by unfold z_rg; first | omega | (split <;> omega)) ?_
    refine s_lconst hV dX12_readRoad_31 (0) (by decide) ?_
    refine r_aload_n hV dX12_readRoad_32 rfl rfl ?_
    refine r_getI hV dX12_readRoad_33 fl_X12_122 (by first | decide | omega) (by first | rfl | assumption) h12 ?_
    refine s_iconst hV dX12_readRoad_36 (1) (by decide) ?_
    refine s_isub hV dX12_readRoad_37 ?_
    refine s_i2l hV dX12_readRoad_38 (by unfold z_rg; first | omega | (split <;> omega)) ?_
    refine q_is3v hV dX12_readRoad_39 ms_X12_107 (n_in I J P a1 0 ((n : Int) - 1) (by unfold z_rgL; omega) (by unfold z_rgL; omega) (by unfold z_rgL; omega)) (by decide) (Nat.le_refl _) (Nat.le_of_ble_eq_true rfl) ?_
    refine s_if_eq hV 53 dX12_readRoad_42 (by decide) (by unfold z_rg; first | omega | (split <;> omega)) (fun c42 => ?_) (fun c42 => ?_)
    · refine s_iconst hV dX12_readRoad_53 (0) (by decide) ?_
      refine s_zret hV dX12_readRoad_54 rfl (by omega) rfl ?_
      have e0 := f_rd_a (T := T) (tl := tl) (p := p) (R := R) hroom (by first | exact Or.inr hzf | (left; omega))
      refine ⟨by rw [e0, if_neg (by omega)], rfl, rfl, by rw [e0, if_neg (by omega)]; exact h3, by rw [e0, if_neg (by omega)]; exact h14, by rw [e0, if_neg (by omega)]; exact zR, fun _ _ _ => rfl, fun _ _ _ => rfl⟩
    · have ea := he1 (by omega)
      subst ea
      refine r_aload_n hV dX12_readRoad_45 rfl rfl ?_
      refine r_iload_n hV dX12_readRoad_46 rfl ?_
      refine q_iv1v hV dX12_readRoad_47 mv_X12_125 (n_hasPartner I J P hM n h12 hnb.2 R zR hRb (zfg T tl (p + 1)) (by omega)) (by first | decide | omega) (by first | rfl | assumption) (by decide) (Nat.le_refl _) (Nat.le_of_ble_eq_true rfl) ?_
      refine s_if_ne hV 55 dX12_readRoad_50 (by decide) (by unfold z_rg; first | omega | (split <;> omega)) (fun c50 => ?_) (fun c50 => ?_)
      · have hzt := z_ite1 c50
        refine r_aload_n hV dX12_readRoad_55 rfl rfl ?_
        refine r_dup hV dX12_readRoad_56 rfl ?_
        refine r_getI hV dX12_readRoad_57 fl_X12_119 (by first | decide | omega) (by first | rfl | assumption) h3 ?_
        refine s_iconst hV dX12_readRoad_60 (1) (by decide) ?_
        refine s_iadd hV dX12_readRoad_61 ?_
        rw [show p + 1 + 1 = p + 2 by omega]
        refine r_putI hV dX12_readRoad_62 fl_X12_119 (pf_X12_119 _) (z_okI_int rfl _) (by first | decide | omega) (by first | rfl | assumption) ?_
        generalize hI1 : zu I (78) (zu (I 78) 3 (iI (p + 2))) = I1
        have hfI1 : ∀ q, q ≠ 78 → I1 q = I q := fun q h => by rw [← hI1]; exact zu_n _ _ h
        have pI1 : I1 78 3 = iI (p + 2) := by rw [← hI1, zu_s, zu_s]
        have kI1 : ∀ k, k ≠ 3 → I1 78 k = I 78 k := fun k a => by rw [← hI1, zu_s, zu_n _ _ a]
        have uI1 : ∀ q, q ≠ 78 → I1 q = I q := fun q a => hfI1 q a
        clear hI1 hfI1
        have J93 : ∀ a0 : Int, z_rg a0 → ((0 ≤ a0 ∧ a0 ≤ (n : Int) - 1) ↔ (0 ≤ zfg T tl (p + 2) ∧ zfg T tl (p + 2) < n)) → ((0 ≤ a0 ∧ a0 ≤ (n : Int) - 1) → a0 = zfg T tl (p + 2)) → V 108 I1 J P 93 [.ref 78, .int (iI (zfg T tl (p + 1))), .null, .null, .null] [.int (iI a0)] := by
          intro a2 hr2 hi2 he2
          have hr21 := hr2.1
          have hr22 := hr2.2
          refine r_istore_n hV dX12_readRoad_93 (Nat.le_of_ble_eq_true rfl) (z_st1_5_2 rfl) ?_
          refine r_iload_n hV dX12_readRoad_94 rfl ?_
          refine s_i2l hV dX12_readRoad_95 (by unfold z_rg; first | omega | (split <;> omega)) ?_
          refine s_lconst hV dX12_readRoad_96 (0) (by decide) ?_
          refine r_aload_n hV dX12_readRoad_97 rfl rfl ?_
          refine r_getI hV dX12_readRoad_98 fl_X12_122 (by first | decide | omega) (by first | rfl | assumption) ((kI1 12 (by omega)).trans h12) ?_
          refine s_iconst hV dX12_readRoad_101 (1) (by decide) ?_
          refine s_isub hV dX12_readRoad_102 ?_
          refine s_i2l hV dX12_readRoad_103 (by unfold z_rg; first | omega | (split <;> omega)) ?_
          refine q_is3v hV dX12_readRoad_104 ms_X12_107 (n_in I1 J P a2 0 ((n : Int) - 1) (by unfold z_rgL; omega) (by unfold z_rgL; omega) (by unfold z_rgL; omega)) (by decide) (Nat.le_refl _) (Nat.le_of_ble_eq_true rfl) ?_
          refine s_if_eq hV 131 dX12_readRoad_107 (by decide) (by unfold z_rg; first | omega | (split <;> omega)) (fun c107 => ?_) (fun c107 => ?_)
          · refine s_iconst hV dX12_readRoad_131 (0) (by decide) ?_
            refine s_zret hV dX12_readRoad_132 rfl (by omega) rfl ?_
            have e0 := f_rd_b (T := T) (tl := tl) (p := p) hroom hzt (by omega)
            refine ⟨by rw [e0, if_neg (by omega)], rfl, rfl, by rw [e0, if_neg (by omega)]; exact pI1, by rw [e0, if_neg (by omega)]; exact ((kI1 14 (by omega)).trans h14), by rw [e0, if_neg (by omega)]; exact (z_ar_fr zR (uI1 84 (by omega))), fun q a _ => uI1 q a, fun k a _ => kI1 k a⟩
          · have ea2 := he2 (by omega)
            subst ea2
            refine r_iload_n hV dX12_readRoad_110 rfl ?_
            refine r_iload_n hV dX12_readRoad_111 rfl ?_
            refine s_icmp_eq hV 131 dX12_readRoad_112 (by decide) (by unfold z_rg; first | omega | (split <;> omega)) (by unfold z_rg; first | omega | (split <;> omega)) (fun c112 => ?_) (fun c112 => ?_)
            · refine s_iconst hV dX12_readRoad_131 (0) (by decide) ?_
              refine s_zret hV dX12_readRoad_132 rfl (by omega) rfl ?_
              have e0 := f_rd_b (T := T) (tl := tl) (p := p) hroom hzt (by omega)
              refine ⟨by rw [e0, if_neg (by omega)], rfl, rfl, by rw [e0, if_neg (by omega)]; exact pI1, by rw [e0, if_neg (by omega)]; exact ((kI1 14 (by omega)).trans h14), by rw [e0, if_neg (by omega)]; exact (z_ar_fr zR (uI1 84 (by omega))), fun q a _ => uI1 q a, fun k a _ => kI1 k a⟩
            · refine r_aload_n hV dX12_readRoad_115 rfl rfl ?_
              refine r_getR hV dX12_readRoad_116 fl_X12_29 (by first | decide | omega) (by first | rfl | assumption) o16 ?_
              refine s_bipush hV dX12_readRoad_119 (6) (by decide) ?_
              refine r_iload_n hV dX12_readRoad_121 rfl ?_
              refine s_imul hV dX12_readRoad_122 ?_
              refine r_iload_n hV dX12_readRoad_123 rfl ?_
              refine s_iadd hV dX12_readRoad_124 ?_
              refine s_iaload hV dX12_readRoad_125 (by first | decide | omega) (by first | rfl | assumption) (by decide) (by omega) (by omega) ((congrFun (uI1 84 (by omega)) _).trans ((zR (6 * zfg T tl (p + 1) + zfg T tl (p + 2)) (by omega) (by omega)).trans (congrArg iI (mRf_ab (R := R) (a := zfg T tl (p + 1)) (b := zfg T tl (p + 2)) (by omega) (by omega))))) ?_
              have hrb := hRb (zfg T tl (p + 1) * 6 + zfg T tl (p + 2)) (by omega) (by omega)
              refine s_ldc hV dX12_readRoad_126 ct_X12_103 (99999) (by decide) ?_
              refine s_icmp_eq hV 133 dX12_readRoad_128 (by decide) (by unfold z_rg; first | omega | (split <;> omega)) (by unfold z_rg; first | omega | (split <;> omega)) (fun c128 => ?_) (fun c128 => ?_)
              · have hfree : ((0 ≤ zfg T tl (p + 1) ∧ zfg T tl (p + 1) < n) ∧ (0 ≤ zfg T tl (p + 2) ∧ zfg T tl (p + 2) < n)) ∧ ¬ zfg T tl (p + 1) = zfg T tl (p + 2) ∧ R (zfg T tl (p + 1) * 6 + zfg T tl (p + 2)) = 0 := by
                  refine ⟨⟨by omega, by omega⟩, by omega, ?_⟩
                  have := c128
                  split at this <;> omega
                have hF := f_rd_c (T := T) (tl := tl) (p := p) hroom hzt hfree
                refine r_aload_n hV dX12_readRoad_133 rfl rfl ?_
                refine r_dup hV dX12_readRoad_134 rfl ?_
                refine r_getI hV dX12_readRoad_135 fl_X12_119 (by first | decide | omega) (by first | rfl | assumption) pI1 ?_
                refine s_iconst hV dX12_readRoad_138 (1) (by decide) ?_
                refine s_iadd hV dX12_readRoad_139 ?_
                rw [show p + 2 + 1 = p + 3 by omega]
                refine r_putI hV dX12_readRoad_140 fl_X12_119 (pf_X12_119 _) (z_okI_int rfl _) (by first | decide | omega) (by first | rfl | assumption) ?_
                generalize hI2 : zu I1 (78) (zu (I1 78) 3 (iI (p + 3))) = I2
                have hfI2 : ∀ q, q ≠ 78 → I2 q = I1 q := fun q h => by rw [← hI2]; exact zu_n _ _ h
                have pI2 : I2 78 3 = iI (p + 3) := by rw [← hI2, zu_s, zu_s]
                have kI2 : ∀ k, k ≠ 3 → I2 78 k = I 78 k := fun k a => by rw [← hI2, zu_s, zu_n _ _ a]; exact kI1 k a
                have uI2 : ∀ q, q ≠ 78 → I2 q = I q := fun q a => (hfI2 q a).trans (uI1 q a)
                clear hI2 hfI2
                refine r_aload_n hV dX12_readRoad_143 rfl rfl ?_
                refine s_iconst hV dX12_readRoad_144 (0) (by decide) ?_
                refine s_bipush hV dX12_readRoad_145 (9) (by decide) ?_
                refine r_iv2 hV dX12_readRoad_147 mv_X12_129 (n_figure I2 J P hM tl (p + 3) ((kI2 2 (by omega)).trans h2) pI2 htb (by omega) T (z_ar_fr zT (uI2 79 (by omega))) hTb 0 9 (by omega) (by omega)) (by first | decide | omega) (by first | rfl | assumption) (by decide) (Nat.le_refl _) (Nat.le_of_ble_eq_true rfl) (fun v3 I3 J3 P3 hq => ?_)
                obtain ⟨rfl, ej, ep, y1, y2, y3⟩ := hq
                rw [ej, ep]
                show V 108 I3 J P _ _ [.int (iI (f_fg T tl (p + 3) 0 9))]
                clear ej ep
                have hfg3 : f_fg T tl (p + 3) 0 9 = if 0 ≤ zfg T tl (p + 3) ∧ zfg T tl (p + 3) ≤ 9 then zfg T tl (p + 3) else -9 := rfl
                have hzb3 := zfg_b (T := T) (tl := tl) (p := p + 3)
                have uI3 : ∀ q, q ≠ 78 → I3 q = I q := fun q a => (y2 q a).trans (uI2 q a)
                have kI3 : ∀ k, k ≠ 3 → I3 78 k = I 78 k := fun k a => (y3 k a).trans (kI2 k a)
                clear y2 y3
                refine r_istore_n hV dX12_readRoad_150 (Nat.le_of_ble_eq_true rfl) (z_st1_5_3 rfl) ?_
                refine r_iload_n hV dX12_readRoad_151 rfl ?_
                refine s_bipush hV dX12_readRoad_152 (-9) (by decide) ?_
                refine s_icmp_ne hV 162 dX12_readRoad_154 (by decide) (by unfold z_rg; first | omega | (split <;> omega)) (by unfold z_rg; first | omega | (split <;> omega)) (fun c154 => ?_) (fun c154 => ?_)
                · rw [if_neg (by omega), show p + 3 + 1 = p + 4 by omega] at y1
                  refine r_aload_n hV dX12_readRoad_162 rfl rfl ?_
                  refine r_iload_n hV dX12_readRoad_163 rfl ?_
                  refine s_if_ne hV 171 dX12_readRoad_164 (by decide) (by unfold z_rg; first | omega | (split <;> omega)) (fun c164 => ?_) (fun c164 => ?_)
                  · obtain ⟨ls, hls⟩ : ∃ ls : Int, ls = 0 := ⟨0, rfl⟩
                    refine s_iconst hV dX12_readRoad_171 (0) (by decide) ?_
                    first
                      | rw [show iI 1 = iI ls by rw [hls]]
                      | rw [show iI 0 = iI ls by rw [hls]]
                    refine s_bipush hV dX12_readRoad_172 (9) (by decide) ?_
                    refine r_iv2 hV dX12_readRoad_174 mv_X12_129 (n_figure I3 J P hM tl (p + 4) ((kI3 2 (by omega)).trans h2) y1 htb (by omega) T (z_ar_fr zT (uI3 79 (by omega))) hTb ls 9 (by omega) (by omega)) (by first | decide | omega) (by first | rfl | assumption) (by decide) (Nat.le_refl _) (Nat.le_of_ble_eq_true rfl) (fun v4 I4 J4 P4 hq => ?_)
                    obtain ⟨rfl, ej, ep, w1, w2, w3⟩ := hq
                    rw [ej, ep]
                    show V 108 I4 J P _ _ [.int (iI (f_fg T tl (p + 4) ls 9))]
                    clear ej ep
                    have hfg4 : f_fg T tl (p + 4) ls 9 = if ls ≤ zfg T tl (p + 4) ∧ zfg T tl (p + 4) ≤ 9 then zfg T tl (p + 4) else -9 := rfl
                    have hzb4 := zfg_b (T := T) (tl := tl) (p := p + 4)
                    have uI4 : ∀ q, q ≠ 78 → I4 q = I q := fun q a => (w2 q a).trans (uI3 q a)
                    have kI4 : ∀ k, k ≠ 3 → I4 78 k = I 78 k := fun k a => (w3 k a).trans (kI3 k a)
                    clear w2 w3
                    refine r_istore hV dX12_readRoad_177 (Nat.le_of_ble_eq_true rfl) (z_st1_5_4 rfl) ?_
                    refine r_iload hV dX12_readRoad_179 rfl ?_
                    refine s_bipush hV dX12_readRoad_181 (-9) (by decide) ?_
                    refine s_icmp_ne hV 188 dX12_readRoad_183 (by decide) (by unfold z_rg; first | omega | (split <;> omega)) (by unfold z_rg; first | omega | (split <;> omega)) (fun c183 => ?_) (fun c183 => ?_)
                    · have e0 : f_rdF T tl n r R p = -9 := by rw [hF, if_neg (by omega), if_neg (by omega)]
                      have w3v : f_fg T tl (p + 3) 0 9 = zfg T tl (p + 3) := by rw [hfg3, if_pos (by omega)]
                      have w4v : f_fg T tl (p + 4) ls 9 = zfg T tl (p + 4) := by rw [hfg4, if_pos (by omega)]
                      rw [w3v, w4v]
                      rw [if_neg (by omega), show p + 4 + 1 = p + 5 by omega] at w1
                      refine r_aload_n hV dX12_readRoad_188 rfl rfl ?_
                      refine r_getR hV dX12_readRoad_189 fl_X12_29 (by first | decide | omega) (by first | rfl | assumption) o16 ?_
                      refine s_bipush hV dX12_readRoad_192 (6) (by decide) ?_
                      refine r_iload_n hV dX12_readRoad_194 rfl ?_
                      refine s_imul hV dX12_readRoad_195 ?_
                      refine r_iload_n hV dX12_readRoad_196 rfl ?_
                      refine s_iadd hV dX12_readRoad_197 ?_
                      refine s_bipush hV dX12_readRoad_198 (10) (by decide) ?_
                      refine r_iload_n hV dX12_readRoad_200 rfl ?_
                      refine s_imul hV dX12_readRoad_201 ?_
                      refine r_iload hV dX12_readRoad_202 rfl ?_
                      refine s_iadd hV dX12_readRoad_204 ?_
                      rw [show 10 * zfg T tl (p + 3) + zfg T tl (p + 4) = zfg T tl (p + 3) * 10 + zfg T tl (p + 4) by omega]
                      refine s_iastore hV dX12_readRoad_205 (by first | decide | omega) (by first | rfl | assumption) (by decide) (by omega) (by omega) ?_
                      have zR0 := z_ar_fr zR (uI4 84 (by omega))
                      have zR5 := z_ar_set zR0 (z := 6 * zfg T tl (p + 1) + zfg T tl (p + 2)) (by omega) (zfg T tl (p + 3) * 10 + zfg T tl (p + 4))
                      generalize hI5 : zu I4 (84) (zu (I4 84) (6 * zfg T tl (p + 1) + zfg T tl (p + 2)).toNat (iI (zfg T tl (p + 3) * 10 + zfg T tl (p + 4)))) = I5
                      have hfI5 : ∀ q, q ≠ 84 → I5 q = I4 q := fun q h => by rw [← hI5]; exact zu_n _ _ h
                      rw [hI5] at zR5
                      clear hI5
                      refine r_aload_n hV dX12_readRoad_206 rfl rfl ?_
                      refine r_getR hV dX12_readRoad_207 fl_X12_29 (by first | decide | omega) (by first | rfl | assumption) o16 ?_
                      refine s_bipush hV dX12_readRoad_210 (6) (by decide) ?_
                      refine r_iload_n hV dX12_readRoad_212 rfl ?_
                      refine s_imul hV dX12_readRoad_213 ?_
                      refine r_iload_n hV dX12_readRoad_214 rfl ?_
                      refine s_iadd hV dX12_readRoad_215 ?_
                      refine s_bipush hV dX12_readRoad_216 (10) (by decide) ?_
                      refine r_iload_n hV dX12_readRoad_218 rfl ?_
                      refine s_imul hV dX12_readRoad_219 ?_
                      refine r_iload hV dX12_readRoad_220 rfl ?_
                      refine s_iadd hV dX12_readRoad_222 ?_
                      rw [show 10 * zfg T tl (p + 3) + zfg T tl (p + 4) = zfg T tl (p + 3) * 10 + zfg T tl (p + 4) by omega]
                      refine s_iastore hV dX12_readRoad_223 (by first | decide | omega) (by first | rfl | assumption) (by decide) (by omega) (by omega) ?_
                      have zR6 := z_ar_set zR5 (z := 6 * zfg T tl (p + 2) + zfg T tl (p + 1)) (by omega) (zfg T tl (p + 3) * 10 + zfg T tl (p + 4))
                      generalize hI6 : zu I5 (84) (zu (I5 84) (6 * zfg T tl (p + 2) + zfg T tl (p + 1)).toNat (iI (zfg T tl (p + 3) * 10 + zfg T tl (p + 4)))) = I6
                      have hfI6 : ∀ q, q ≠ 84 → I6 q = I5 q := fun q h => by rw [← hI6]; exact zu_n _ _ h
                      rw [hI6] at zR6
                      clear hI6
                      have u6 : ∀ q, q ≠ 84 → I6 q = I4 q := fun q a => (hfI6 q a).trans (hfI5 q a)
                      refine r_aload_n hV dX12_readRoad_224 rfl rfl ?_
                      refine r_dup hV dX12_readRoad_225 rfl ?_
                      refine r_getI hV dX12_readRoad_226 fl_X12_133 (by first | decide | omega) (by first | rfl | assumption) ((congrFun (u6 78 (by omega)) 14).trans ((kI4 14 (by omega)).trans h14)) ?_
                      refine s_iconst hV dX12_readRoad_229 (1) (by decide) ?_
                      refine s_iadd hV dX12_readRoad_230 ?_
                      refine r_putI hV dX12_readRoad_231 fl_X12_133 (pf_X12_133 _) (z_okI_int rfl _) (by first | decide | omega) (by first | rfl | assumption) ?_
                      refine s_iconst hV dX12_readRoad_234 (1) (by decide) ?_
                      refine s_zret hV dX12_readRoad_235 rfl (by omega) rfl ?_
                      exact ⟨by rw [e0, if_pos rfl], rfl, rfl, by rw [e0, if_pos rfl, zu_s, zu_n _ _ (by omega)]; exact (congrFun (u6 78 (by omega)) 3).trans w1, by rw [e0, if_pos rfl, zu_s, zu_s], by
                        rw [e0, if_pos rfl]
                        exact z_ar_eq (z_ar_fr zR6 (zu_n _ _ (by omega))) (fun z _ _ => mRf_up (by omega) (by omega) (by omega) (by omega) z), fun q a b => by rw [zu_n _ _ a]; exact (u6 q b).trans (uI4 q a), fun k a b => by rw [zu_s, zu_n _ _ b]; exact (congrFun (u6 78 (by omega)) k).trans (kI4 k a)⟩
                    · refine s_iconst hV dX12_readRoad_186 (0) (by decide) ?_
                      refine s_zret hV dX12_readRoad_187 rfl (by omega) rfl ?_
                      first
                        | (have e0 : f_rdF T tl n r R p = p + 4 := by rw [hF, if_neg (by omega), if_pos (by omega)]
                           rw [if_pos (by omega)] at w1
                           exact ⟨by rw [e0, if_neg (by omega)], rfl, rfl, by rw [e0, if_neg (by omega)]; exact w1, by rw [e0, if_neg (by omega)]; exact (kI4 14 (by omega)).trans h14, by rw [e0, if_neg (by omega)]; exact z_ar_fr zR (uI4 84 (by omega)), fun q a _ => uI4 q a, fun k a _ => kI4 k a⟩)
                        | (have e0 : f_rdF T tl n r R p = p + 3 := by rw [hF, if_pos (by omega)]
                           rw [if_pos (by omega)] at y1
                           exact ⟨by rw [e0, if_neg (by omega)], rfl, rfl, by rw [e0, if_neg (by omega)]; exact y1, by rw [e0, if_neg (by omega)]; exact (kI3 14 (by omega)).trans h14, by rw [e0, if_neg (by omega)]; exact z_ar_fr zR (uI3 84 (by omega)), fun q a _ => uI3 q a, fun k a _ => kI3 k a⟩)
                  · obtain ⟨ls, hls⟩ : ∃ ls : Int, ls = 1 := ⟨1, rfl⟩
                    refine s_iconst hV dX12_readRoad_167 (1) (by decide) ?_
                    refine r_goto hV 172 dX12_readRoad_168 (by decide) ?_
                    first
                      | rw [show iI 1 = iI ls by rw [hls]]
                      | rw [show iI 0 = iI ls by rw [hls]]
                    refine s_bipush hV dX12_readRoad_172 (9) (by decide) ?_
                    refine r_iv2 hV dX12_readRoad_174 mv_X12_129 (n_figure I3 J P hM tl (p + 4) ((kI3 2 (by omega)).trans h2) y1 htb (by omega) T (z_ar_fr zT (uI3 79 (by omega))) hTb ls 9 (by omega) (by omega)) (by first | decide | omega) (by first | rfl | assumption) (by decide) (Nat.le_refl _) (Nat.le_of_ble_eq_true rfl) (fun v4 I4 J4 P4 hq => ?_)
                    obtain ⟨rfl, ej, ep, w1, w2, w3⟩ := hq
                    rw [ej, ep]
                    show V 108 I4 J P _ _ [.int (iI (f_fg T tl (p + 4) ls 9))]
                    clear ej ep
                    have hfg4 : f_fg T tl (p + 4) ls 9 = if ls ≤ zfg T tl (p + 4) ∧ zfg T tl (p + 4) ≤ 9 then zfg T tl (p + 4) else -9 := rfl
                    have hzb4 := zfg_b (T := T) (tl := tl) (p := p + 4)
                    have uI4 : ∀ q, q ≠ 78 → I4 q = I q := fun q a => (w2 q a).trans (uI3 q a)
                    have kI4 : ∀ k, k ≠ 3 → I4 78 k = I 78 k := fun k a => (w3 k a).trans (kI3 k a)
                    clear w2 w3
                    refine r_istore hV dX12_readRoad_177 (Nat.le_of_ble_eq_true rfl) (z_st1_5_4 rfl) ?_
                    refine r_iload hV dX12_readRoad_179 rfl ?_
                    refine s_bipush hV dX12_readRoad_181 (-9) (by decide) ?_
                    refine s_icmp_ne hV 188 dX12_readRoad_183 (by decide) (by unfold z_rg; first | omega | (split <;> omega)) (by unfold z_rg; first | omega | (split <;> omega)) (fun c183 => ?_) (fun c183 => ?_)
                    · have e0 : f_rdF T tl n r R p = -9 := by rw [hF, if_neg (by omega), if_neg (by omega)]
                      have w3v : f_fg T tl (p + 3) 0 9 = zfg T tl (p + 3) := by rw [hfg3, if_pos (by omega)]
                      have w4v : f_fg T tl (p + 4) ls 9 = zfg T tl (p + 4) := by rw [hfg4, if_pos (by omega)]
                      rw [w3v, w4v]
                      rw [if_neg (by omega), show p + 4 + 1 = p + 5 by omega] at w1
                      refine r_aload_n hV dX12_readRoad_188 rfl rfl ?_
                      refine r_getR hV dX12_readRoad_189 fl_X12_29 (by first | decide | omega) (by first | rfl | assumption) o16 ?_
                      refine s_bipush hV dX12_readRoad_192 (6) (by decide) ?_
                      refine r_iload_n hV dX12_readRoad_194 rfl ?_
                      refine s_imul hV dX12_readRoad_195 ?_
                      refine r_iload_n hV dX12_readRoad_196 rfl ?_
                      refine s_iadd hV dX12_readRoad_197 ?_
                      refine s_bipush hV dX12_readRoad_198 (10) (by decide) ?_
                      refine r_iload_n hV dX12_readRoad_200 rfl ?_
                      refine s_imul hV dX12_readRoad_201 ?_
                      refine r_iload hV dX12_readRoad_202 rfl ?_
                      refine s_iadd hV dX12_readRoad_204 ?_
                      rw [show 10 * zfg T tl (p + 3) + zfg T tl (p + 4) = zfg T tl (p + 3) * 10 + zfg T tl (p + 4) by omega]
                      refine s_iastore hV dX12_readRoad_205 (by first | decide | omega) (by first | rfl | assumption) (by decide) (by omega) (by omega) ?_
                      have zR0 := z_ar_fr zR (uI4 84 (by omega))
                      have zR5 := z_ar_set zR0 (z := 6 * zfg T tl (p + 1) + zfg T tl (p + 2)) (by omega) (zfg T tl (p + 3) * 10 + zfg T tl (p + 4))
                      generalize hI5 : zu I4 (84) (zu (I4 84) (6 * zfg T tl (p + 1) + zfg T tl (p + 2)).toNat (iI (zfg T tl (p + 3) * 10 + zfg T tl (p + 4)))) = I5
                      have hfI5 : ∀ q, q ≠ 84 → I5 q = I4 q := fun q h => by rw [← hI5]; exact zu_n _ _ h
                      rw [hI5] at zR5
                      clear hI5
                      refine r_aload_n hV dX12_readRoad_206 rfl rfl ?_
                      refine r_getR hV dX12_readRoad_207 fl_X12_29 (by first | decide | omega) (by first | rfl | assumption) o16 ?_
                      refine s_bipush hV dX12_readRoad_210 (6) (by decide) ?_
                      refine r_iload_n hV dX12_readRoad_212 rfl ?_
                      refine s_imul hV dX12_readRoad_213 ?_
                      refine r_iload_n hV dX12_readRoad_214 rfl ?_
                      refine s_iadd hV dX12_readRoad_215 ?_
                      refine s_bipush hV dX12_readRoad_216 (10) (by decide) ?_
                      refine r_iload_n hV dX12_readRoad_218 rfl ?_
                      refine s_imul hV dX12_readRoad_219 ?_
                      refine r_iload hV dX12_readRoad_220 rfl ?_
                      refine s_iadd hV dX12_readRoad_222 ?_
                      rw [show 10 * zfg T tl (p + 3) + zfg T tl (p + 4) = zfg T tl (p + 3) * 10 + zfg T tl (p + 4) by omega]
                      refine s_iastore hV dX12_readRoad_223 (by first | decide | omega) (by first | rfl | assumption) (by decide) (by omega) (by omega) ?_
                      have zR6 := z_ar_set zR5 (z := 6 * zfg T tl (p + 2) + zfg T tl (p + 1)) (by omega) (zfg T tl (p + 3) * 10 + zfg T tl (p + 4))
                      generalize hI6 : zu I5 (84) (zu (I5 84) (6 * zfg T tl (p + 2) + zfg T tl (p + 1)).toNat (iI (zfg T tl (p + 3) * 10 + zfg T tl (p + 4)))) = I6
                      have hfI6 : ∀ q, q ≠ 84 → I6 q = I5 q := fun q h => by rw [← hI6]; exact zu_n _ _ h
                      rw [hI6] at zR6
                      clear hI6
                      have u6 : ∀ q, q ≠ 84 → I6 q = I4 q := fun q a => (hfI6 q a).trans (hfI5 q a)
                      refine r_aload_n hV dX12_readRoad_224 rfl rfl ?_
                      refine r_dup hV dX12_readRoad_225 rfl ?_
                      refine r_getI hV dX12_readRoad_226 fl_X12_133 (by first | decide | omega) (by first | rfl | assumption) ((congrFun (u6 78 (by omega)) 14).trans ((kI4 14 (by omega)).trans h14)) ?_
                      refine s_iconst hV dX12_readRoad_229 (1) (by decide) ?_
                      refine s_iadd hV dX12_readRoad_230 ?_
                      refine r_putI hV dX12_readRoad_231 fl_X12_133 (pf_X12_133 _) (z_okI_int rfl _) (by first | decide | omega) (by first | rfl | assumption) ?_
                      refine s_iconst hV dX12_readRoad_234 (1) (by decide) ?_
                      refine s_zret hV dX12_readRoad_235 rfl (by omega) rfl ?_
                      exact ⟨by rw [e0, if_pos rfl], rfl, rfl, by rw [e0, if_pos rfl, zu_s, zu_n _ _ (by omega)]; exact (congrFun (u6 78 (by omega)) 3).trans w1, by rw [e0, if_pos rfl, zu_s, zu_s], by
                        rw [e0, if_pos rfl]
                        exact z_ar_eq (z_ar_fr zR6 (zu_n _ _ (by omega))) (fun z _ _ => mRf_up (by omega) (by omega) (by omega) (by omega) z), fun q a b => by rw [zu_n _ _ a]; exact (u6 q b).trans (uI4 q a), fun k a b => by rw [zu_s, zu_n _ _ b]; exact (congrFun (u6 78 (by omega)) k).trans (kI4 k a)⟩
                    · refine s_iconst hV dX12_readRoad_186 (0) (by decide) ?_
                      refine s_zret hV dX12_readRoad_187 rfl (by omega) rfl ?_
                      first
                        | (have e0 : f_rdF T tl n r R p = p + 4 := by rw [hF, if_neg (by omega), if_pos (by omega)]
                           rw [if_pos (by omega)] at w1
                           exact ⟨by rw [e0, if_neg (by omega)], rfl, rfl, by rw [e0, if_neg (by omega)]; exact w1, by rw [e0, if_neg (by omega)]; exact (kI4 14 (by omega)).trans h14, by rw [e0, if_neg (by omega)]; exact z_ar_fr zR (uI4 84 (by omega)), fun q a _ => uI4 q a, fun k a _ => kI4 k a⟩)
                        | (have e0 : f_rdF T tl n r R p = p + 3 := by rw [hF, if_pos (by omega)]
                           rw [if_pos (by omega)] at y1
                           exact ⟨by rw [e0, if_neg (by omega)], rfl, rfl, by rw [e0, if_neg (by omega)]; exact y1, by rw [e0, if_neg (by omega)]; exact (kI3 14 (by omega)).trans h14, by rw [e0, if_neg (by omega)]; exact z_ar_fr zR (uI3 84 (by omega)), fun q a _ => uI3 q a, fun k a _ => kI3 k a⟩)
                · refine s_bipush hV dX12_readRoad_157 (-9) (by decide) ?_
                  refine r_goto hV 177 dX12_readRoad_159 (by decide) ?_
                  refine r_istore hV dX12_readRoad_177 (Nat.le_of_ble_eq_true rfl) (z_st1_5_4 rfl) ?_
                  refine r_iload hV dX12_readRoad_179 rfl ?_
                  refine s_bipush hV dX12_readRoad_181 (-9) (by decide) ?_
                  refine s_icmp_ne hV 188 dX12_readRoad_183 (by decide) (by unfold z_rg; first | omega | (split <;> omega)) (by unfold z_rg; first | omega | (split <;> omega)) (fun c183 => absurd c183 (by decide)) (fun _ => ?_)
                  refine s_iconst hV dX12_readRoad_186 (0) (by decide) ?_
                  refine s_zret hV dX12_readRoad_187 rfl (by omega) rfl ?_
                  first
                    | (have e0 : f_rdF T tl n r R p = p + 4 := by rw [hF, if_neg (by omega), if_pos (by omega)]
                       rw [if_pos (by omega)] at w1
                       exact ⟨by rw [e0, if_neg (by omega)], rfl, rfl, by rw [e0, if_neg (by omega)]; exact w1, by rw [e0, if_neg (by omega)]; exact (kI4 14 (by omega)).trans h14, by rw [e0, if_neg (by omega)]; exact z_ar_fr zR (uI4 84 (by omega)), fun q a _ => uI4 q a, fun k a _ => kI4 k a⟩)
                    | (have e0 : f_rdF T tl n r R p = p + 3 := by rw [hF, if_pos (by omega)]
                       rw [if_pos (by omega)] at y1
                       exact ⟨by rw [e0, if_neg (by omega)], rfl, rfl, by rw [e0, if_neg (by omega)]; exact y1, by rw [e0, if_neg (by omega)]; exact (kI3 14 (by omega)).trans h14, by rw [e0, if_neg (by omega)]; exact z_ar_fr zR (uI3 84 (by omega)), fun q a _ => uI3 q a, fun k a _ => kI3 k a⟩)
              · refine s_iconst hV dX12_readRoad_131 (0) (by decide) ?_
                refine s_zret hV dX12_readRoad_132 rfl (by omega) rfl ?_
                have e0 := f_rd_b (T := T) (tl := tl) (p := p) hroom hzt (by omega)
                refine ⟨by rw [e0, if_neg (by omega)], rfl, rfl, by rw [e0, if_neg (by omega)]; exact pI1, by rw [e0, if_neg (by omega)]; exact ((kI1 14 (by omega)).trans h14), by rw [e0, if_neg (by omega)]; exact (z_ar_fr zR (uI1 84 (by omega))), fun q a _ => uI1 q a, fun k a _ => kI1 k a⟩
        refine r_aload_n hV dX12_readRoad_65 rfl rfl ?_
        refine r_getI hV dX12_readRoad_66 fl_X12_119 (by first | decide | omega) (by first | rfl | assumption) pI1 ?_
        refine r_aload_n hV dX12_readRoad_69 rfl rfl ?_
        refine r_getI hV dX12_readRoad_70 fl_X12_116 (by first | decide | omega) (by first | rfl | assumption) ((kI1 2 (by omega)).trans h2) ?_
        refine s_icmp_ge hV 91 dX12_readRoad_73 (by decide) (by unfold z_rg; first | omega | (split <;> omega)) (by unfold z_rg; first | omega | (split <;> omega)) (fun c73 => ?_) (fun c73 => ?_)
        · refine s_bipush hV dX12_readRoad_91 (-9) (by decide) ?_
          first
            | exact J93 (T (p + 2) - 48) (by unfold z_rg; omega) (by omega) (by omega)
            | exact J93 (-9) (by unfold z_rg; omega) (by omega) (by omega)
        · have hT2 := hTb (p + 2) (by omega) (by omega)
          refine r_aload_n hV dX12_readRoad_76 rfl rfl ?_
          refine r_getR hV dX12_readRoad_77 fl_X12_7 (by first | decide | omega) (by first | rfl | assumption) o1 ?_
          refine r_aload_n hV dX12_readRoad_80 rfl rfl ?_
          refine r_getI hV dX12_readRoad_81 fl_X12_119 (by first | decide | omega) (by first | rfl | assumption) pI1 ?_
          refine s_iaload hV dX12_readRoad_84 (by first | decide | omega) (by first | rfl | assumption) (by decide) (by omega) (by omega) ((congrFun (uI1 79 (by omega)) _).trans (zT (p + 2) (by omega) (by omega))) ?_
          refine s_bipush hV dX12_readRoad_85 (48) (by decide) ?_
          refine s_isub hV dX12_readRoad_87 ?_
          refine r_goto hV 93 dX12_readRoad_88 (by decide) ?_
          first
            | exact J93 (T (p + 2) - 48) (by unfold z_rg; omega) (by omega) (by omega)
            | exact J93 (-9) (by unfold z_rg; omega) (by omega) (by omega)
      · have hzf := z_ite0 (by first | exact c50 | exact Classical.not_not.mp c50)
        refine s_iconst hV dX12_readRoad_53 (0) (by decide) ?_
        refine s_zret hV dX12_readRoad_54 rfl (by omega) rfl ?_
        have e0 := f_rd_a (T := T) (tl := tl) (p := p) (R := R) hroom (by first | exact Or.inr hzf | (left; omega))
        refine ⟨by rw [e0, if_neg (by omega)], rfl, rfl, by rw [e0, if_neg (by omega)]; exact h3, by rw [e0, if_neg (by omega)]; exact h14, by rw [e0, if_neg (by omega)]; exact zR, fun _ _ _ => rfl, fun _ _ _ => rfl⟩
  refine r_aload_n hV dX12_readRoad_0 rfl rfl ?_
  refine r_getI hV dX12_readRoad_1 fl_X12_119 (by first | decide | omega) (by first | rfl | assumption) h3 ?_
  refine r_aload_n hV dX12_readRoad_4 rfl rfl ?_
  refine r_getI hV dX12_readRoad_5 fl_X12_116 (by first | decide | omega) (by first | rfl | assumption) h2 ?_
  refine s_icmp_ge hV 26 dX12_readRoad_8 (by decide) (by unfold z_rg; first | omega | (split <;> omega)) (by unfold z_rg; first | omega | (split <;> omega)) (fun c8 => ?_) (fun c8 => ?_)
  · refine s_bipush hV dX12_readRoad_26 (-9) (by decide) ?_
    first
      | exact J28 (T (p + 1) - 48) (by unfold z_rg; omega) (by omega) (by omega)
      | exact J28 (-9) (by unfold z_rg; omega) (by omega) (by omega)
  · have hT1 := hTb (p + 1) (by omega) (by omega)
    refine r_aload_n hV dX12_readRoad_11 rfl rfl ?_
    refine r_getR hV dX12_readRoad_12 fl_X12_7 (by first | decide | omega) (by first | rfl | assumption) o1 ?_
    refine r_aload_n hV dX12_readRoad_15 rfl rfl ?_
    refine r_getI hV dX12_readRoad_16 fl_X12_119 (by first | decide | omega) (by first | rfl | assumption) h3 ?_
    refine s_iaload hV dX12_readRoad_19 (by first | decide | omega) (by first | rfl | assumption) (by decide) (by omega) (by omega) (zT (p + 1) (by omega) (by omega)) ?_
    refine s_bipush hV dX12_readRoad_20 (48) (by decide) ?_
    refine s_isub hV dX12_readRoad_22 ?_
    refine r_goto hV 28 dX12_readRoad_23 (by decide) ?_
    first
      | exact J28 (T (p + 1) - 48) (by unfold z_rg; omega) (by omega) (by omega)
      | exact J28 (-9) (by unfold z_rg; omega) (by omega) (by omega)

