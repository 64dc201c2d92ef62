def mRf (R : Int → Int) (z : Int) : Int := if z / 6 = z % 6 then 0 else if R z = 0 then 99999 else R z
theorem mRf_b {R : Int → Int} (h : z_bd R 36 0 99) : z_bd (mRf R) 36 0 99999 := fun z a b => by
  have := h z a b
  unfold mRf
  (repeat' split) <;> omega
theorem mRf_ab {R : Int → Int} {a b : Int} (hb : 0 ≤ b ∧ b < 6) (hab : ¬ a = b) : mRf R (6 * a + b) = if R (a * 6 + b) = 0 then 99999 else R (a * 6 + b) := by
  unfold mRf
  rw [if_neg (by omega), show 6 * a + b = a * 6 + b by omega]
theorem mRf_up {R : Int → Int} {a b x : Int} (ha : 0 ≤ a ∧ a < 6) (hb : 0 ≤ b ∧ b < 6) (hab : ¬ a = b) (hx : x ≠ 0) (z : Int) : zup (zup (mRf R) (6 * a + b) x) (6 * b + a) x z = mRf (zup (zup R (a * 6 + b) x) (b * 6 + a) x) z := by
  show (if z = 6 * b + a then x else if z = 6 * a + b then x else if z / 6 = z % 6 then 0 else if R z = 0 then 99999 else R z) = if z / 6 = z % 6 then 0 else if (if z = b * 6 + a then x else if z = a * 6 + b then x else R z) = 0 then 99999 else (if z = b * 6 + a then x else if z = a * 6 + b then x else R z)
  by_cases h1 : z = 6 * b + a
  · rw [if_pos h1, if_neg (show ¬ z / 6 = z % 6 by omega), if_pos (show z = b * 6 + a by omega), if_neg hx]
  · by_cases h2 : z = 6 * a + b
    · rw [if_neg h1, if_pos h2, if_neg (show ¬ z / 6 = z % 6 by omega), if_neg (show ¬ z = b * 6 + a by omega), if_pos (show z = a * 6 + b by omega), if_neg hx]
    · rw [if_neg h1, if_neg h2, if_neg (show ¬ z = b * 6 + a by omega), if_neg (show ¬ z = a * 6 + b by omega)]
/-- what is read so far -/
def mR (I : zI) (tl p r e : Int) (n : Nat) (T R W U K : Int → Int) : Prop := I 78 2 = iI tl ∧ I 78 3 = iI p ∧ I 78 12 = iI (n : Int) ∧ I 78 14 = iI r ∧ I 78 15 = iI e ∧ z_ar I 79 80 T ∧ z_ar I 84 36 (mRf R) ∧ z_ar I 85 6 W ∧ z_ar I 86 6 U ∧ z_ar I 87 6 K
def f_fg (T : Int → Int) (tl p a b : Int) : Int := if a ≤ zfg T tl p ∧ zfg T tl p ≤ b then zfg T tl p else -9
def q_fig (I : zI) (J : zJ) (P : zP) (p F : Int) (v : Option Value) (I1 : zI) (J1 : zJ) (P1 : zP) : Prop := v = some (.int (iI F)) ∧ J1 = J ∧ P1 = P ∧ I1 78 3 = iI (if F = -9 then p else p + 1) ∧ (∀ q, q ≠ 78 → I1 q = I q) ∧ ∀ k, k ≠ 3 → I1 78 k = I 78 k
set_option maxRecDepth 20000 in
theorem n_figure (I : zI) (J : zJ) (P : zP) (hM : mK P) (tl p : Int) (h2 : I 78 2 = iI tl) (h3 : I 78 3 = iI p) (htb : 0 ≤ tl ∧ tl ≤ 80) (hp : 0 ≤ p ∧ p ≤ tl) (T : Int → Int) (zT : z_ar I 79 80 T) (hTb : z_bd T 80 0 255) (a b : Int) (ha : 0 ≤ a ∧ a ≤ 9) (hb : -9 ≤ b ∧ b ≤ 9) : z_Sp 1 yX12_figure cX12_figure 3 (some .int) 108 108 I J P [.ref 78, .int (iI a), .int (iI b)] (q_fig I J P p (f_fg T tl p a b)) := by
  obtain ⟨o1, o7, o9, o10, o11, o16, o17, o18, o19, o20, o25, o26, o28, o29, o30, o31, o36, o37, o38, o39, o40, o41, o42, o43, o44, o45, o46, o47, o48⟩ := id hM
  have hv : zfg T tl p = if 48 ≤ zsg T tl p ∧ zsg T tl p ≤ 57 then zsg T tl p - 48 else -1 := rfl
  have hs : zsg T tl p = if 0 ≤ p ∧ p < tl then T p else 0 := rfl
  refine z_met false (by decide +kernel) (fun h => by cases h) (Nat.le_of_ble_eq_true rfl) (by first | decide | omega) (fun V hV => ?_)
  show V 108 I J P 0 [.ref 78, .int (iI a), .int (iI b)] []
  refine r_aload_n hV dX12_figure_0 rfl rfl ?_
  refine r_getI hV dX12_figure_1 fl_X12_119 (by first | decide | omega) (by first | rfl | assumption) h3 ?_
  refine r_aload_n hV dX12_figure_4 rfl rfl ?_
  refine r_getI hV dX12_figure_5 fl_X12_116 (by first | decide | omega) (by first | rfl | assumption) h2 ?_
  refine s_icmp_eq hV 34 dX12_figure_8 (by decide) (by unfold z_rg; first | omega | (split <;> omega)) (by unfold z_rg; first | omega | (split <;> omega)) (fun c8 => ?_) (fun c8 => ?_)
  · refine s_bipush hV dX12_figure_34 (-9) (by decide) ?_
    refine r_iret hV dX12_figure_36 rfl rfl ?_
    have e0 : f_fg T tl p a b = -9 := by
      unfold f_fg
      rw [if_neg (by first | (split at hs <;> split at hv <;> omega) | (split at hv <;> omega))]
    rw [e0]
    exact ⟨rfl, rfl, rfl, by rw [if_pos rfl]; exact h3, fun _ _ => rfl, fun _ _ => rfl⟩
  · have hTp := hTb p (by omega) (by omega)
    rw [if_pos (by omega)] at hs
    refine r_aload_n hV dX12_figure_11 rfl rfl ?_
    refine r_getR hV dX12_figure_12 fl_X12_7 (by first | decide | omega) (by first | rfl | assumption) o1 ?_
    refine r_aload_n hV dX12_figure_15 rfl rfl ?_
    refine r_getI hV dX12_figure_16 fl_X12_119 (by first | decide | omega) (by first | rfl | assumption) h3 ?_
    refine s_iaload hV dX12_figure_19 (by first | decide | omega) (by first | rfl | assumption) (by decide) (by omega) (by omega) (zT p (by omega) (by omega)) ?_
    refine s_bipush hV dX12_figure_20 (48) (by decide) ?_
    refine s_isub hV dX12_figure_22 ?_
    refine s_i2l hV dX12_figure_23 (by unfold z_rg; first | omega | (split <;> omega)) ?_
    refine r_iload_n hV dX12_figure_24 rfl ?_
    refine s_i2l hV dX12_figure_25 (by unfold z_rg; first | omega | (split <;> omega)) ?_
    refine r_iload_n hV dX12_figure_26 rfl ?_
    refine s_i2l hV dX12_figure_27 (by unfold z_rg; first | omega | (split <;> omega)) ?_
    refine q_is3v hV dX12_figure_28 ms_X12_107 (n_in I J P (T p - 48) a b (by unfold z_rgL; omega) (by unfold z_rgL; omega) (by unfold z_rgL; omega)) (by decide) (Nat.le_refl _) (Nat.le_of_ble_eq_true rfl) ?_
    refine s_if_ne hV 37 dX12_figure_31 (by decide) (by unfold z_rg; first | omega | (split <;> omega)) (fun c31 => ?_) (fun c31 => ?_)
    · refine r_aload_n hV dX12_figure_37 rfl rfl ?_
      refine r_dup hV dX12_figure_38 rfl ?_
      refine r_getI hV dX12_figure_39 fl_X12_119 (by first | decide | omega) (by first | rfl | assumption) h3 ?_
      refine s_iconst hV dX12_figure_42 (1) (by decide) ?_
      refine s_iadd hV dX12_figure_43 ?_
      refine r_putI hV dX12_figure_44 fl_X12_119 (pf_X12_119 _) (z_okI_int rfl _) (by first | decide | omega) (by first | rfl | assumption) ?_
      generalize hI1 : zu I (78) (zu (I 78) 3 (iI (p + 1))) = I1
      have hfI1 : ∀ q, q ≠ 78 → I1 q = I q := fun q h => by rw [← hI1]; exact zu_n _ _ h
      have e3 : I1 78 3 = iI (p + 1) := by rw [← hI1, zu_s, zu_s]
      have ek : ∀ k, k ≠ 3 → I1 78 k = I 78 k := fun k a => by rw [← hI1, zu_s, zu_n _ _ a]
      clear hI1
      refine r_aload_n hV dX12_figure_47 rfl rfl ?_
      refine r_getR hV dX12_figure_48 fl_X12_7 (by first | decide | omega) (by first | rfl | assumption) o1 ?_
      refine r_aload_n hV dX12_figure_51 rfl rfl ?_
      refine r_getI hV dX12_figure_52 fl_X12_119 (by first | decide | omega) (by first | rfl | assumption) e3 ?_
      refine s_iconst hV dX12_figure_55 (1) (by decide) ?_
      refine s_isub hV dX12_figure_56 ?_
      refine s_iaload hV dX12_figure_57 (by first | decide | omega) (by first | rfl | assumption) (by decide) (by omega) (by omega) (show I1 79 (p + 1 - 1).toNat = iI (T p) from by rw [show p + 1 - 1 = p by omega, hfI1 79 (by omega)]; exact zT p (by omega) (by omega)) ?_
      refine s_bipush hV dX12_figure_58 (48) (by decide) ?_
      refine s_isub hV dX12_figure_60 ?_
      refine r_iret hV dX12_figure_61 rfl rfl ?_
      have e0 : f_fg T tl p a b = T p - 48 := by
        unfold f_fg
        rw [if_pos (by split at hv <;> omega)]
        split at hv <;> omega
      rw [e0]
      exact ⟨rfl, rfl, rfl, by rw [if_neg (by omega)]; exact e3, hfI1, ek⟩
    · refine s_bipush hV dX12_figure_34 (-9) (by decide) ?_
      refine r_iret hV dX12_figure_36 rfl rfl ?_
      have e0 : f_fg T tl p a b = -9 := by
        unfold f_fg
        rw [if_neg (by first | (split at hs <;> split at hv <;> omega) | (split at hv <;> omega))]
      rw [e0]
      exact ⟨rfl, rfl, rfl, by rw [if_pos rfl]; exact h3, fun _ _ => rfl, fun _ _ => rfl⟩

set_option maxRecDepth 20000 in
theorem n_hasPartner (I : zI) (J : zJ) (P : zP) (hM : mK P) (n : Nat) (h12 : I 78 12 = iI (n : Int)) (hnb : n ≤ 6) (R : Int → Int) (zR : z_ar I 84 36 (mRf R)) (hRb : z_bd R 36 0 99) (a : Int) (ha : 0 ≤ a ∧ a < n) : z_Fn 0 yX12_hasPartner cX12_hasPartner 4 (some .boolean) 108 108 I J P [.ref 78, .int (iI a)] (some (.int (iI (if zany (f_fr n R a) n = true then 1 else 0)))) (I) (J) (P) := by
  obtain ⟨o1, o7, o9, o10, o11, o16, o17, o18, o19, o20, o25, o26, o28, o29, o30, o31, o36, o37, o38, o39, o40, o41, o42, o43, o44, o45, o46, o47, o48⟩ := id hM
  refine z_met false (by decide +kernel) (fun h => by cases h) (Nat.le_of_ble_eq_true rfl) (by first | decide | omega) (fun V hV => ?_)
  show V 108 I J P 0 [.ref 78, .int (iI a), .null, .null] []
  refine s_iconst hV dX12_hasPartner_0 (0) (by decide) ?_
  refine r_istore_n hV dX12_hasPartner_1 (Nat.le_of_ble_eq_true rfl) (z_st1_4_2 rfl) ?_
  refine s_iconst hV dX12_hasPartner_2 (0) (by decide) ?_
  refine r_istore_n hV dX12_hasPartner_3 (Nat.le_of_ble_eq_true rfl) (z_st1_4_3 rfl) ?_
  have L4 : ∀ (k4 j : Nat), n - j < k4 → j ≤ n → V 108 I J P 4 [.ref 78, .int (iI a), .int (iI (if zany (f_fr n R a) j = true then 1 else 0)), .int (iI (j : Int))] [] := by
    intro k4
    induction k4 with
    | zero => intro j  hk1 hk2; omega
    | succ k4 ih4 =>
      intro j  hk4 hl4 
      have hnx : ∀ s2 : Int, (if zany (f_fr n R a) (j + 1) = true then (1 : Int) else 0) = s2 → j < n → V 108 I J P 4 [.ref 78, .int (iI a), .int (iI s2), .int (iI ((j : Int) + 1))] [] := fun s2 hs hj => by subst hs; exact ih4 (j + 1) (by omega) (by omega)
      refine r_iload_n hV dX12_hasPartner_4 rfl ?_
      refine r_aload_n hV dX12_hasPartner_5 rfl rfl ?_
      refine r_getI hV dX12_hasPartner_6 fl_X12_122 (by first | decide | omega) (by first | rfl | assumption) h12 ?_
      refine s_icmp_ge hV 49 dX12_hasPartner_9 (by decide) (by unfold z_rg; first | omega | (split <;> omega)) (by unfold z_rg; first | omega | (split <;> omega)) (fun c9 => ?_) (fun c9 => ?_)
      · refine r_iload_n hV dX12_hasPartner_49 rfl ?_
        refine s_zret hV dX12_hasPartner_50 rfl (by omega) rfl ?_
        rw [show j = n by omega]
        exact ⟨rfl, rfl, rfl, rfl⟩
      · refine r_iload_n hV dX12_hasPartner_12 rfl ?_
        refine s_if_ne hV 37 dX12_hasPartner_13 (by decide) (by unfold z_rg; first | omega | (split <;> omega)) (fun c13 => ?_) (fun c13 => ?_)
        · have hzt := z_ite1 c13
          refine s_iconst hV dX12_hasPartner_37 (1) (by decide) ?_
          refine r_goto hV 42 dX12_hasPartner_38 (by decide) ?_
          refine r_istore_n hV dX12_hasPartner_42 (Nat.le_of_ble_eq_true rfl) (z_st1_4_2 rfl) ?_
          refine s_iinc hV dX12_hasPartner_43 rfl (z_st1_4_3 rfl) ?_
          refine r_goto hV 4 dX12_hasPartner_46 (by decide) ?_
          first
            | exact hnx 1 (by rw [if_pos (by rw [zany, Bool.or_eq_true]; first | (left; exact hzt) | (right; simp only [f_fr, decide_eq_true_eq]; omega))]) (by omega)
            | exact hnx 0 (by rw [if_neg (by rw [zany, Bool.or_eq_true]; intro hh; rcases hh with hh | hh; exact hzf hh; simp only [f_fr, decide_eq_true_eq] at hh; omega)]) (by omega)
        · have hzf := z_ite0 (by first | exact c13 | exact Classical.not_not.mp c13)
          refine r_iload_n hV dX12_hasPartner_16 rfl ?_
          refine r_iload_n hV dX12_hasPartner_17 rfl ?_
          refine s_icmp_eq hV 41 dX12_hasPartner_18 (by decide) (by unfold z_rg; first | omega | (split <;> omega)) (by unfold z_rg; first | omega | (split <;> omega)) (fun c18 => ?_) (fun c18 => ?_)
          · refine s_iconst hV dX12_hasPartner_41 (0) (by decide) ?_
            refine r_istore_n hV dX12_hasPartner_42 (Nat.le_of_ble_eq_true rfl) (z_st1_4_2 rfl) ?_
            refine s_iinc hV dX12_hasPartner_43 rfl (z_st1_4_3 rfl) ?_
            refine r_goto hV 4 dX12_hasPartner_46 (by decide) ?_
            first
              | exact hnx 1 (by rw [if_pos (by rw [zany, Bool.or_eq_true]; first | (left; exact hzt) | (right; simp only [f_fr, decide_eq_true_eq]; omega))]) (by omega)
              | exact hnx 0 (by rw [if_neg (by rw [zany, Bool.or_eq_true]; intro hh; rcases hh with hh | hh; exact hzf hh; simp only [f_fr, decide_eq_true_eq] at hh; omega)]) (by omega)
          · refine r_aload_n hV dX12_hasPartner_21 rfl rfl ?_
            refine r_getR hV dX12_hasPartner_22 fl_X12_29 (by first | decide | omega) (by first | rfl | assumption) o16 ?_
            refine s_bipush hV dX12_hasPartner_25 (6) (by decide) ?_
            refine r_iload_n hV dX12_hasPartner_27 rfl ?_
            refine s_imul hV dX12_hasPartner_28 ?_
            refine r_iload_n hV dX12_hasPartner_29 rfl ?_
            refine s_iadd hV dX12_hasPartner_30 ?_
            refine s_iaload hV dX12_hasPartner_31 (by first | decide | omega) (by first | rfl | assumption) (by decide) (by omega) (by omega) ((zR (6 * a + (j : Int)) (by omega) (by omega)).trans (congrArg iI (mRf_ab (R := R) (by omega) (by omega)))) ?_
            have hrb := hRb (a * 6 + (j : Int)) (by omega) (by omega)
            refine s_ldc hV dX12_hasPartner_32 ct_X12_103 (99999) (by decide) ?_
            refine s_icmp_ne hV 41 dX12_hasPartner_34 (by decide) (by unfold z_rg; first | omega | (split <;> omega)) (by unfold z_rg; first | omega | (split <;> omega)) (fun c34 => ?_) (fun c34 => ?_)
            · refine s_iconst hV dX12_hasPartner_41 (0) (by decide) ?_
              refine r_istore_n hV dX12_hasPartner_42 (Nat.le_of_ble_eq_true rfl) (z_st1_4_2 rfl) ?_
              refine s_iinc hV dX12_hasPartner_43 rfl (z_st1_4_3 rfl) ?_
              refine r_goto hV 4 dX12_hasPartner_46 (by decide) ?_
              first
                | exact hnx 1 (by rw [if_pos (by rw [zany, Bool.or_eq_true]; first | (left; exact hzt) | (right; simp only [f_fr, decide_eq_true_eq]; omega))]) (by omega)
                | exact hnx 0 (by rw [if_neg (by rw [zany, Bool.or_eq_true]; intro hh; rcases hh with hh | hh; exact hzf hh; simp only [f_fr, decide_eq_true_eq] at hh; omega)]) (by omega)
            · refine s_iconst hV dX12_hasPartner_37 (1) (by decide) ?_
              refine r_goto hV 42 dX12_hasPartner_38 (by decide) ?_
              refine r_istore_n hV dX12_hasPartner_42 (Nat.le_of_ble_eq_true rfl) (z_st1_4_2 rfl) ?_
              refine s_iinc hV dX12_hasPartner_43 rfl (z_st1_4_3 rfl) ?_
              refine r_goto hV 4 dX12_hasPartner_46 (by decide) ?_
              first
                | exact hnx 1 (by rw [if_pos (by rw [zany, Bool.or_eq_true]; first | (left; exact hzt) | (right; simp only [f_fr, decide_eq_true_eq]; omega))]) (by omega)
                | exact hnx 0 (by rw [if_neg (by rw [zany, Bool.or_eq_true]; intro hh; rcases hh with hh | hh; exact hzf hh; simp only [f_fr, decide_eq_true_eq] at hh; omega)]) (by omega)
  exact L4 (n + 1) 0 (by omega) (by omega)

theorem zany_pair {n : Nat} {r : Int} {R : Int → Int} (hn : n ≤ 6) (h : zRd n r R) : zany (fun a => zany (f_fr n R (a : Int)) n) n = true ↔ r < (n : Int) * ((n : Int) - 1) / 2 := by
  rw [← zRd_pair hn h, zany_iff]
  constructor
  · rintro ⟨a, ha, hz⟩
    obtain ⟨b, hb, hf⟩ := zany_iff.mp hz
    simp only [f_fr, decide_eq_true_eq] at hf
    exact ⟨a, b, ha, hb, by omega, hf.2.2⟩
  · rintro ⟨a, b, ha, hb, hab, h0⟩
    refine ⟨a, ha, zany_iff.mpr ⟨b, hb, ?_⟩⟩
    simp only [f_fr, decide_eq_true_eq]
    exact ⟨⟨⟨by omega, by omega⟩, by omega, by omega⟩, by omega, h0⟩
set_option maxRecDepth 20000 in
theorem n_hasPair (I : zI) (J : zJ) (P : zP) (hM : mK P) (n : Nat) (h12 : I 78 12 = iI (n : Int)) (hnb : n ≤ 6) (R : Int → Int) (zR : z_ar I 84 36 (mRf R)) (hRb : z_bd R 36 0 99) (r : Int) (hrd : zRd n r R) : z_Fn 1 yX12_hasPair cX12_hasPair 3 (some .boolean) 108 108 I J P [.ref 78] (some (.int (iI (if r < (n : Int) * ((n : Int) - 1) / 2 then 1 else 0)))) (I) (J) (P) := by
  obtain ⟨o1, o7, o9, o10, o11, o16, o17, o18, o19, o20, o25, o26, o28, o29, o30, o31, o36, o37, o38, o39, o40, o41, o42, o43, o44, o45, o46, o47, o48⟩ := id hM
  refine z_met false (by decide +kernel) (fun h => by cases h) (Nat.le_of_ble_eq_true rfl) (by first | decide | omega) (fun V hV => ?_)
  show V 108 I J P 0 [.ref 78, .null, .null] []
  refine s_iconst hV dX12_hasPair_0 (0) (by decide) ?_
  refine r_istore_n hV dX12_hasPair_1 (Nat.le_of_ble_eq_true rfl) (z_st1_3_1 rfl) ?_
  refine s_iconst hV dX12_hasPair_2 (0) (by decide) ?_
  refine r_istore_n hV dX12_hasPair_3 (Nat.le_of_ble_eq_true rfl) (z_st1_3_2 rfl) ?_
  have L4 : ∀ (k4 j : Nat), n - j < k4 → j ≤ n → V 108 I J P 4 [.ref 78, .int (iI (if zany (fun a => zany (f_fr n R (a : Int)) n) j = true then 1 else 0)), .int (iI (j : Int))] [] := by
    intro k4
    induction k4 with
    | zero => intro j  hk1 hk2; omega
    | succ k4 ih4 =>
      intro j  hk4 hl4 
      have hnx : ∀ s2 : Int, (if zany (fun a => zany (f_fr n R (a : Int)) n) (j + 1) = true then (1 : Int) else 0) = s2 → j < n → V 108 I J P 4 [.ref 78, .int (iI s2), .int (iI ((j : Int) + 1))] [] := fun s2 hs hj => by subst hs; exact ih4 (j + 1) (by omega) (by omega)
      refine r_iload_n hV dX12_hasPair_4 rfl ?_
      refine r_aload_n hV dX12_hasPair_5 rfl rfl ?_
      refine r_getI hV dX12_hasPair_6 fl_X12_122 (by first | decide | omega) (by first | rfl | assumption) h12 ?_
      refine s_icmp_ge hV 36 dX12_hasPair_9 (by decide) (by unfold z_rg; first | omega | (split <;> omega)) (by unfold z_rg; first | omega | (split <;> omega)) (fun c9 => ?_) (fun c9 => ?_)
      · refine r_iload_n hV dX12_hasPair_36 rfl ?_
        refine s_zret hV dX12_hasPair_37 rfl (by omega) rfl ?_
        rw [show j = n by omega]
        refine ⟨?_, rfl, rfl, rfl⟩
        have hzp := zany_pair hnb hrd
        by_cases q : r < (n : Int) * ((n : Int) - 1) / 2
        · rw [if_pos (hzp.mpr q), if_pos q]
        · rw [if_neg (fun h => q (hzp.mp h)), if_neg q]
      · refine r_iload_n hV dX12_hasPair_12 rfl ?_
        refine s_if_ne hV 24 dX12_hasPair_13 (by decide) (by unfold z_rg; first | omega | (split <;> omega)) (fun c13 => ?_) (fun c13 => ?_)
        · have hzt := z_ite1 c13
          refine s_iconst hV dX12_hasPair_24 (1) (by decide) ?_
          refine r_goto hV 29 dX12_hasPair_25 (by decide) ?_
          refine r_istore_n hV dX12_hasPair_29 (Nat.le_of_ble_eq_true rfl) (z_st1_3_1 rfl) ?_
          refine s_iinc hV dX12_hasPair_30 rfl (z_st1_3_2 rfl) ?_
          refine r_goto hV 4 dX12_hasPair_33 (by decide) ?_
          first
            | exact hnx 1 (by rw [if_pos (by rw [zany, Bool.or_eq_true]; first | (left; exact hzt) | (right; exact hpt))]) (by omega)
            | exact hnx 0 (by rw [if_neg (by rw [zany, Bool.or_eq_true]; intro hh; rcases hh with hh | hh; exact hzf hh; exact hpf hh)]) (by omega)
        · have hzf := z_ite0 (by first | exact c13 | exact Classical.not_not.mp c13)
          refine r_aload_n hV dX12_hasPair_16 rfl rfl ?_
          refine r_iload_n hV dX12_hasPair_17 rfl ?_
          refine q_iv1v hV dX12_hasPair_18 mv_X12_125 (n_hasPartner I J P hM n h12 hnb R zR hRb (j : Int) (by omega)) (by first | decide | omega) (by first | rfl | assumption) (by decide) (Nat.le_refl _) (Nat.le_of_ble_eq_true rfl) ?_
          refine s_if_eq hV 28 dX12_hasPair_21 (by decide) (by unfold z_rg; first | omega | (split <;> omega)) (fun c21 => ?_) (fun c21 => ?_)
          · have hpf := z_ite0 (by first | exact c21 | exact Classical.not_not.mp c21)
            refine s_iconst hV dX12_hasPair_28 (0) (by decide) ?_
            refine r_istore_n hV dX12_hasPair_29 (Nat.le_of_ble_eq_true rfl) (z_st1_3_1 rfl) ?_
            refine s_iinc hV dX12_hasPair_30 rfl (z_st1_3_2 rfl) ?_
            refine r_goto hV 4 dX12_hasPair_33 (by decide) ?_
            first
              | exact hnx 1 (by rw [if_pos (by rw [zany, Bool.or_eq_true]; first | (left; exact hzt) | (right; exact hpt))]) (by omega)
              | exact hnx 0 (by rw [if_neg (by rw [zany, Bool.or_eq_true]; intro hh; rcases hh with hh | hh; exact hzf hh; exact hpf hh)]) (by omega)
          · have hpt := z_ite1 c21
            refine s_iconst hV dX12_hasPair_24 (1) (by decide) ?_
            refine r_goto hV 29 dX12_hasPair_25 (by decide) ?_
            refine r_istore_n hV dX12_hasPair_29 (Nat.le_of_ble_eq_true rfl) (z_st1_3_1 rfl) ?_
            refine s_iinc hV dX12_hasPair_30 rfl (z_st1_3_2 rfl) ?_
            refine r_goto hV 4 dX12_hasPair_33 (by decide) ?_
            first
              | exact hnx 1 (by rw [if_pos (by rw [zany, Bool.or_eq_true]; first | (left; exact hzt) | (right; exact hpt))]) (by omega)
              | exact hnx 0 (by rw [if_neg (by rw [zany, Bool.or_eq_true]; intro hh; rcases hh with hh | hh; exact hzf hh; exact hpf hh)]) (by omega)
  exact L4 (n + 1) 0 (by omega) (by omega)

