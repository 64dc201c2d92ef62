/-- the state at a depth -/
def mFr (I : zI) (D : Nat) (hp ip rest : Int) (gone home : Nat) (who ha hb : Int) : Prop := I 95 D = iI hp ∧ I 96 D = iI ip ∧ I 97 D = iI rest ∧ I 98 D = iI (gone : Int) ∧ I 99 D = iI (home : Int) ∧ I 100 D = iI who ∧ I 102 D = iI ha ∧ I 103 D = iI hb
set_option maxRecDepth 20000 in
theorem n_canBoth (I : zI) (J : zJ) (P : zP) (hM : mK P) (n : Nat) (hnb : 2 ≤ n ∧ n ≤ 6) (F : Int → Int) (zF : z_ar I 80 36 (mF F)) (hFd : zD F) (D : Nat) (hD : D ≤ 8) (hp ip rest : Int) (e95 : I 95 D = iI hp) (e96 : I 96 D = iI ip) (e97 : I 97 D = iI rest) (hhp : 0 ≤ hp ∧ hp < n) (hip : 0 ≤ ip ∧ ip < n) (hrest : -200000 ≤ rest ∧ rest ≤ 90000) : z_Fn 0 yX12_canBoth cX12_canBoth 4 (some .boolean) 108 108 I J P [.ref 78, .int (iI (D : Int))] (some (.int (iI (if F (hp * 6) + F (ip * 6) ≤ rest then 1 else 0)))) (I) (J) (P) := by
  obtain ⟨o1, o7, o9, o10, o11, o16, o17, o18, o19, o20, o25, o26, o28, o29, o30, o31, o36, o37, o38, o39, o40, o41, o42, o43, o44, o45, o46, o47, o48⟩ := id hM
  have hb1 := hFd (6 * hp) (by omega) (by omega)
  have hb2 := hFd (6 * ip) (by omega) (by omega)
  have hm1 : mF F (6 * hp) = if F (6 * hp) < 1000000 then F (6 * hp) else 99999 := rfl
  have hm2 : mF F (6 * ip) = if F (6 * ip) < 1000000 then F (6 * ip) else 99999 := rfl
  rw [show hp * 6 = 6 * hp by omega, show ip * 6 = 6 * ip by omega]
  refine z_met false (by decide +kernel) (fun h => by cases h) (Nat.le_of_ble_eq_true rfl) (by first | decide | omega) (fun V hV => ?_)
  show V 108 I J P 0 [.ref 78, .int (iI (D : Int)), .null, .null] []
  refine r_aload_n hV dX12_canBoth_0 rfl rfl ?_
  refine r_getR hV dX12_canBoth_1 fl_X12_17 (by first | decide | omega) (by first | rfl | assumption) o7 ?_
  refine s_bipush hV dX12_canBoth_4 (6) (by decide) ?_
  refine r_aload_n hV dX12_canBoth_6 rfl rfl ?_
  refine r_getR hV dX12_canBoth_7 fl_X12_63 (by first | decide | omega) (by first | rfl | assumption) o36 ?_
  refine r_iload_n hV dX12_canBoth_10 rfl ?_
  refine s_iaload hV dX12_canBoth_11 (by first | decide | omega) (by first | rfl | assumption) (by decide) (by omega) (by omega) (show I 95 ((D : Nat) : Int).toNat = iI (hp) from by rw [Int.toNat_natCast]; exact e95) ?_
  refine s_imul hV dX12_canBoth_12 ?_
  refine s_iaload hV dX12_canBoth_13 (by first | decide | omega) (by first | rfl | assumption) (by decide) (by omega) (by omega) (zF (6 * hp) (by omega) (by omega)) ?_
  refine r_istore_n hV dX12_canBoth_14 (Nat.le_of_ble_eq_true rfl) (z_st1_4_2 rfl) ?_
  refine r_aload_n hV dX12_canBoth_15 rfl rfl ?_
  refine r_getR hV dX12_canBoth_16 fl_X12_17 (by first | decide | omega) (by first | rfl | assumption) o7 ?_
  refine s_bipush hV dX12_canBoth_19 (6) (by decide) ?_
  refine r_aload_n hV dX12_canBoth_21 rfl rfl ?_
  refine r_getR hV dX12_canBoth_22 fl_X12_66 (by first | decide | omega) (by first | rfl | assumption) o37 ?_
  refine r_iload_n hV dX12_canBoth_25 rfl ?_
  refine s_iaload hV dX12_canBoth_26 (by first | decide | omega) (by first | rfl | assumption) (by decide) (by omega) (by omega) (show I 96 ((D : Nat) : Int).toNat = iI (ip) from by rw [Int.toNat_natCast]; exact e96) ?_
  refine s_imul hV dX12_canBoth_27 ?_
  refine s_iaload hV dX12_canBoth_28 (by first | decide | omega) (by first | rfl | assumption) (by decide) (by omega) (by omega) (zF (6 * ip) (by omega) (by omega)) ?_
  refine r_istore_n hV dX12_canBoth_29 (Nat.le_of_ble_eq_true rfl) (z_st1_4_3 rfl) ?_
  refine r_iload_n hV dX12_canBoth_30 rfl ?_
  refine s_ldc hV dX12_canBoth_31 ct_X12_103 (99999) (by decide) ?_
  refine s_icmp_ge hV 58 dX12_canBoth_33 (by decide) (by unfold z_rg; first | omega | (split <;> omega)) (by unfold z_rg; first | omega | (split <;> omega)) (fun c33 => ?_) (fun c33 => ?_)
  · refine s_iconst hV dX12_canBoth_58 (0) (by decide) ?_
    refine s_zret hV dX12_canBoth_59 rfl (by omega) rfl ?_
    refine ⟨?_, rfl, rfl, rfl⟩
    (repeat' split) <;> first | rfl | (exfalso; omega)
  · refine r_iload_n hV dX12_canBoth_36 rfl ?_
    refine s_ldc hV dX12_canBoth_37 ct_X12_103 (99999) (by decide) ?_
    refine s_icmp_ge hV 58 dX12_canBoth_39 (by decide) (by unfold z_rg; first | omega | (split <;> omega)) (by unfold z_rg; first | omega | (split <;> omega)) (fun c39 => ?_) (fun c39 => ?_)
    · refine s_iconst hV dX12_canBoth_58 (0) (by decide) ?_
      refine s_zret hV dX12_canBoth_59 rfl (by omega) rfl ?_
      refine ⟨?_, rfl, rfl, rfl⟩
      (repeat' split) <;> first | rfl | (exfalso; omega)
    · refine r_iload_n hV dX12_canBoth_42 rfl ?_
      refine r_iload_n hV dX12_canBoth_43 rfl ?_
      refine s_iadd hV dX12_canBoth_44 ?_
      refine r_aload_n hV dX12_canBoth_45 rfl rfl ?_
      refine r_getR hV dX12_canBoth_46 fl_X12_69 (by first | decide | omega) (by first | rfl | assumption) o38 ?_
      refine r_iload_n hV dX12_canBoth_49 rfl ?_
      refine s_iaload hV dX12_canBoth_50 (by first | decide | omega) (by first | rfl | assumption) (by decide) (by omega) (by omega) (show I 97 ((D : Nat) : Int).toNat = iI (rest) from by rw [Int.toNat_natCast]; exact e97) ?_
      refine s_icmp_gt hV 58 dX12_canBoth_51 (by decide) (by unfold z_rg; first | omega | (split <;> omega)) (by unfold z_rg; first | omega | (split <;> omega)) (fun c51 => ?_) (fun c51 => ?_)
      · refine s_iconst hV dX12_canBoth_58 (0) (by decide) ?_
        refine s_zret hV dX12_canBoth_59 rfl (by omega) rfl ?_
        refine ⟨?_, rfl, rfl, rfl⟩
        (repeat' split) <;> first | rfl | (exfalso; omega)
      · refine s_iconst hV dX12_canBoth_54 (1) (by decide) ?_
        refine r_goto hV 59 dX12_canBoth_55 (by decide) ?_
        refine s_zret hV dX12_canBoth_59 rfl (by omega) rfl ?_
        refine ⟨?_, rfl, rfl, rfl⟩
        (repeat' split) <;> first | rfl | (exfalso; omega)

def q_tk (I : zI) (J : zJ) (P : zP) (D : Nat) (x y : Int) (v : Option Value) (I1 : zI) (J1 : zJ) (P1 : zP) : Prop := v = none ∧ J1 = J ∧ P1 = P ∧ I1 104 D = iI x ∧ I1 105 D = iI y ∧ (∀ q, q ≠ 104 → q ≠ 105 → I1 q = I q) ∧ ∀ q i, i ≠ D → I1 q i = I q i
set_option maxRecDepth 20000 in
theorem n_take (I : zI) (J : zJ) (P : zP) (hM : mK P) (D : Nat) (hD : D ≤ 8) (who x y a b : Int) (e100 : I 100 D = iI who) (e104 : I 104 D = iI x) (e105 : I 105 D = iI y) (hw : who = 0 ∨ who = 1) (hx : -9 ≤ x ∧ x ≤ 1000) (hy : -9 ≤ y ∧ y ≤ 1000) (ha : -9 ≤ a ∧ a ≤ 1000) (hb : -9 ≤ b ∧ b ≤ 1000) : z_Sp 0 yX12_take cX12_take 5 none 108 108 I J P [.ref 78, .int (iI (D : Int)), .int (iI a), .int (iI b)] (q_tk I J P D (if (x = -9 ∨ (if who = 0 then x < a else y < b)) then a else x) (if (x = -9 ∨ (if who = 0 then x < a else y < b)) then b else y)) := by
  obtain ⟨o1, o7, o9, o10, o11, o16, o17, o18, o19, o20, o25, o26, o28, o29, o30, o31, o36, o37, o38, o39, o40, o41, o42, o43, o44, o45, o46, o47, o48⟩ := id hM
  refine z_met false (by decide +kernel) (fun h => by cases h) (Nat.le_of_ble_eq_true rfl) (by first | decide | omega) (fun V hV => ?_)
  show V 108 I J P 0 [.ref 78, .int (iI (D : Int)), .int (iI a), .int (iI b), .null] []
  refine r_aload_n hV dX12_take_0 rfl rfl ?_
  refine r_getR hV dX12_take_1 fl_X12_90 (by first | decide | omega) (by first | rfl | assumption) o45 ?_
  refine r_iload_n hV dX12_take_4 rfl ?_
  refine s_iaload hV dX12_take_5 (by first | decide | omega) (by first | rfl | assumption) (by decide) (by omega) (by omega) (show I 104 ((D : Nat) : Int).toNat = iI (x) from by rw [Int.toNat_natCast]; exact e104) ?_
  refine s_bipush hV dX12_take_6 (-9) (by decide) ?_
  refine s_icmp_eq hV 43 dX12_take_8 (by decide) (by unfold z_rg; first | omega | (split <;> omega)) (by unfold z_rg; first | omega | (split <;> omega)) (fun c8 => ?_) (fun c8 => ?_)
  · refine s_iconst hV dX12_take_43 (1) (by decide) ?_
    refine r_goto hV 48 dX12_take_44 (by decide) ?_
    refine r_istore hV dX12_take_48 (Nat.le_of_ble_eq_true rfl) (z_st1_5_4 rfl) ?_
    refine r_iload hV dX12_take_50 rfl ?_
    refine s_if_eq hV 69 dX12_take_52 (by decide) (by unfold z_rg; first | omega | (split <;> omega)) (fun c52 => absurd c52 (by decide)) (fun _ => ?_)
    refine r_aload_n hV dX12_take_55 rfl rfl ?_
    refine r_getR hV dX12_take_56 fl_X12_90 (by first | decide | omega) (by first | rfl | assumption) o45 ?_
    refine r_iload_n hV dX12_take_59 rfl ?_
    refine r_iload_n hV dX12_take_60 rfl ?_
    refine s_iastore hV dX12_take_61 (by first | decide | omega) (by first | rfl | assumption) (by decide) (by omega) (by omega) ?_
    generalize hg1 : zu I 104 (zu (I 104) ((D : Nat) : Int).toNat (iI a)) = I1
    have u1 : ∀ q, q ≠ 104 → I1 q = I q := fun q h => by rw [← hg1, zu_n _ _ h]
    have v1 : I1 104 D = iI a := by rw [← hg1, zu_s, Int.toNat_natCast, zu_s]
    have w1 : ∀ q i, i ≠ D → I1 q i = I q i := fun q i h => by
      by_cases hq : q = 104
      · rw [hq, ← hg1, zu_s, Int.toNat_natCast, zu_n _ _ h]
      · rw [u1 q hq]
    clear hg1
    refine r_aload_n hV dX12_take_62 rfl rfl ?_
    refine r_getR hV dX12_take_63 fl_X12_93 (by first | decide | omega) (by first | rfl | assumption) o46 ?_
    refine r_iload_n hV dX12_take_66 rfl ?_
    refine r_iload_n hV dX12_take_67 rfl ?_
    refine s_iastore hV dX12_take_68 (by first | decide | omega) (by first | rfl | assumption) (by decide) (by omega) (by omega) ?_
    generalize hg2 : zu I1 105 (zu (I1 105) ((D : Nat) : Int).toNat (iI b)) = I2
    have u2 : ∀ q, q ≠ 105 → I2 q = I1 q := fun q h => by rw [← hg2, zu_n _ _ h]
    have v2 : I2 105 D = iI b := by rw [← hg2, zu_s, Int.toNat_natCast, zu_s]
    have w2 : ∀ q i, i ≠ D → I2 q i = I1 q i := fun q i h => by
      by_cases hq : q = 105
      · rw [hq, ← hg2, zu_s, Int.toNat_natCast, zu_n _ _ h]
      · rw [u2 q hq]
    clear hg2
    refine r_vret hV dX12_take_69 rfl rfl ?_
    first
      | (have hc : (x = -9 ∨ (if who = 0 then x < a else y < b)) := by first | omega | (rw [if_pos (by omega)]; omega) | (rw [if_neg (by omega)]; omega)
         rw [if_pos hc, if_pos hc]
         exact ⟨rfl, rfl, rfl, by rw [u2 104 (by omega)]; exact v1, v2, fun q a b => (u2 q b).trans (u1 q a), fun q i h => (w2 q i h).trans (w1 q i h)⟩)
      | (have hc : ¬ (x = -9 ∨ (if who = 0 then x < a else y < b)) := by first | omega | (rw [if_pos (by omega)]; omega) | (rw [if_neg (by omega)]; omega)
         rw [if_neg hc, if_neg hc]
         exact ⟨rfl, rfl, rfl, e104, e105, fun _ _ _ => rfl, fun _ _ _ => rfl⟩)
  · refine r_aload_n hV dX12_take_11 rfl rfl ?_
    refine r_getR hV dX12_take_12 fl_X12_78 (by first | decide | omega) (by first | rfl | assumption) o41 ?_
    refine r_iload_n hV dX12_take_15 rfl ?_
    refine s_iaload hV dX12_take_16 (by first | decide | omega) (by first | rfl | assumption) (by decide) (by omega) (by omega) (show I 100 ((D : Nat) : Int).toNat = iI (who) from by rw [Int.toNat_natCast]; exact e100) ?_
    refine s_if_ne hV 33 dX12_take_17 (by decide) (by unfold z_rg; first | omega | (split <;> omega)) (fun c17 => ?_) (fun c17 => ?_)
    · refine r_iload_n hV dX12_take_33 rfl ?_
      refine r_aload_n hV dX12_take_34 rfl rfl ?_
      refine r_getR hV dX12_take_35 fl_X12_93 (by first | decide | omega) (by first | rfl | assumption) o46 ?_
      refine r_iload_n hV dX12_take_38 rfl ?_
      refine s_iaload hV dX12_take_39 (by first | decide | omega) (by first | rfl | assumption) (by decide) (by omega) (by omega) (show I 105 ((D : Nat) : Int).toNat = iI (y) from by rw [Int.toNat_natCast]; exact e105) ?_
      refine s_icmp_le hV 47 dX12_take_40 (by decide) (by unfold z_rg; first | omega | (split <;> omega)) (by unfold z_rg; first | omega | (split <;> omega)) (fun c40 => ?_) (fun c40 => ?_)
      · refine s_iconst hV dX12_take_47 (0) (by decide) ?_
        refine r_istore hV dX12_take_48 (Nat.le_of_ble_eq_true rfl) (z_st1_5_4 rfl) ?_
        refine r_iload hV dX12_take_50 rfl ?_
        refine s_if_eq hV 69 dX12_take_52 (by decide) (by unfold z_rg; first | omega | (split <;> omega)) (fun _ => ?_) (fun c52 => absurd (by decide) c52)
        refine r_vret hV dX12_take_69 rfl rfl ?_
        first
          | (have hc : (x = -9 ∨ (if who = 0 then x < a else y < b)) := by first | omega | (rw [if_pos (by omega)]; omega) | (rw [if_neg (by omega)]; omega)
             rw [if_pos hc, if_pos hc]
             exact ⟨rfl, rfl, rfl, by rw [u2 104 (by omega)]; exact v1, v2, fun q a b => (u2 q b).trans (u1 q a), fun q i h => (w2 q i h).trans (w1 q i h)⟩)
          | (have hc : ¬ (x = -9 ∨ (if who = 0 then x < a else y < b)) := by first | omega | (rw [if_pos (by omega)]; omega) | (rw [if_neg (by omega)]; omega)
             rw [if_neg hc, if_neg hc]
             exact ⟨rfl, rfl, rfl, e104, e105, fun _ _ _ => rfl, fun _ _ _ => rfl⟩)
      · refine s_iconst hV dX12_take_43 (1) (by decide) ?_
        refine r_goto hV 48 dX12_take_44 (by decide) ?_
        refine r_istore hV dX12_take_48 (Nat.le_of_ble_eq_true rfl) (z_st1_5_4 rfl) ?_
        refine r_iload hV dX12_take_50 rfl ?_
        refine s_if_eq hV 69 dX12_take_52 (by decide) (by unfold z_rg; first | omega | (split <;> omega)) (fun c52 => absurd c52 (by decide)) (fun _ => ?_)
        refine r_aload_n hV dX12_take_55 rfl rfl ?_
        refine r_getR hV dX12_take_56 fl_X12_90 (by first | decide | omega) (by first | rfl | assumption) o45 ?_
        refine r_iload_n hV dX12_take_59 rfl ?_
        refine r_iload_n hV dX12_take_60 rfl ?_
        refine s_iastore hV dX12_take_61 (by first | decide | omega) (by first | rfl | assumption) (by decide) (by omega) (by omega) ?_
        generalize hg1 : zu I 104 (zu (I 104) ((D : Nat) : Int).toNat (iI a)) = I1
        have u1 : ∀ q, q ≠ 104 → I1 q = I q := fun q h => by rw [← hg1, zu_n _ _ h]
        have v1 : I1 104 D = iI a := by rw [← hg1, zu_s, Int.toNat_natCast, zu_s]
        have w1 : ∀ q i, i ≠ D → I1 q i = I q i := fun q i h => by
          by_cases hq : q = 104
          · rw [hq, ← hg1, zu_s, Int.toNat_natCast, zu_n _ _ h]
          · rw [u1 q hq]
        clear hg1
        refine r_aload_n hV dX12_take_62 rfl rfl ?_
        refine r_getR hV dX12_take_63 fl_X12_93 (by first | decide | omega) (by first | rfl | assumption) o46 ?_
        refine r_iload_n hV dX12_take_66 rfl ?_
        refine r_iload_n hV dX12_take_67 rfl ?_
        refine s_iastore hV dX12_take_68 (by first | decide | omega) (by first | rfl | assumption) (by decide) (by omega) (by omega) ?_
        generalize hg2 : zu I1 105 (zu (I1 105) ((D : Nat) : Int).toNat (iI b)) = I2
        have u2 : ∀ q, q ≠ 105 → I2 q = I1 q := fun q h => by rw [← hg2, zu_n _ _ h]
        have v2 : I2 105 D = iI b := by rw [← hg2, zu_s, Int.toNat_natCast, zu_s]
        have w2 : ∀ q i, i ≠ D → I2 q i = I1 q i := fun q i h => by
          by_cases hq : q = 105
          · rw [hq, ← hg2, zu_s, Int.toNat_natCast, zu_n _ _ h]
          · rw [u2 q hq]
        clear hg2
        refine r_vret hV dX12_take_69 rfl rfl ?_
        first
          | (have hc : (x = -9 ∨ (if who = 0 then x < a else y < b)) := by first | omega | (rw [if_pos (by omega)]; omega) | (rw [if_neg (by omega)]; omega)
             rw [if_pos hc, if_pos hc]
             exact ⟨rfl, rfl, rfl, by rw [u2 104 (by omega)]; exact v1, v2, fun q a b => (u2 q b).trans (u1 q a), fun q i h => (w2 q i h).trans (w1 q i h)⟩)
          | (have hc : ¬ (x = -9 ∨ (if who = 0 then x < a else y < b)) := by first | omega | (rw [if_pos (by omega)]; omega) | (rw [if_neg (by omega)]; omega)
             rw [if_neg hc, if_neg hc]
             exact ⟨rfl, rfl, rfl, e104, e105, fun _ _ _ => rfl, fun _ _ _ => rfl⟩)
    · refine r_iload_n hV dX12_take_20 rfl ?_
      refine r_aload_n hV dX12_take_21 rfl rfl ?_
      refine r_getR hV dX12_take_22 fl_X12_90 (by first | decide | omega) (by first | rfl | assumption) o45 ?_
      refine r_iload_n hV dX12_take_25 rfl ?_
      refine s_iaload hV dX12_take_26 (by first | decide | omega) (by first | rfl | assumption) (by decide) (by omega) (by omega) (show I 104 ((D : Nat) : Int).toNat = iI (x) from by rw [Int.toNat_natCast]; exact e104) ?_
      refine s_icmp_le hV 47 dX12_take_27 (by decide) (by unfold z_rg; first | omega | (split <;> omega)) (by unfold z_rg; first | omega | (split <;> omega)) (fun c27 => ?_) (fun c27 => ?_)
      · refine s_iconst hV dX12_take_47 (0) (by decide) ?_
        refine r_istore hV dX12_take_48 (Nat.le_of_ble_eq_true rfl) (z_st1_5_4 rfl) ?_
        refine r_iload hV dX12_take_50 rfl ?_
        refine s_if_eq hV 69 dX12_take_52 (by decide) (by unfold z_rg; first | omega | (split <;> omega)) (fun _ => ?_) (fun c52 => absurd (by decide) c52)
        refine r_vret hV dX12_take_69 rfl rfl ?_
        first
          | (have hc : (x = -9 ∨ (if who = 0 then x < a else y < b)) := by first | omega | (rw [if_pos (by omega)]; omega) | (rw [if_neg (by omega)]; omega)
             rw [if_pos hc, if_pos hc]
             exact ⟨rfl, rfl, rfl, by rw [u2 104 (by omega)]; exact v1, v2, fun q a b => (u2 q b).trans (u1 q a), fun q i h => (w2 q i h).trans (w1 q i h)⟩)
          | (have hc : ¬ (x = -9 ∨ (if who = 0 then x < a else y < b)) := by first | omega | (rw [if_pos (by omega)]; omega) | (rw [if_neg (by omega)]; omega)
             rw [if_neg hc, if_neg hc]
             exact ⟨rfl, rfl, rfl, e104, e105, fun _ _ _ => rfl, fun _ _ _ => rfl⟩)
      · refine r_goto hV 43 dX12_take_30 (by decide) ?_
        refine s_iconst hV dX12_take_43 (1) (by decide) ?_
        refine r_goto hV 48 dX12_take_44 (by decide) ?_
        refine r_istore hV dX12_take_48 (Nat.le_of_ble_eq_true rfl) (z_st1_5_4 rfl) ?_
        refine r_iload hV dX12_take_50 rfl ?_
        refine s_if_eq hV 69 dX12_take_52 (by decide) (by unfold z_rg; first | omega | (split <;> omega)) (fun c52 => absurd c52 (by decide)) (fun _ => ?_)
        refine r_aload_n hV dX12_take_55 rfl rfl ?_
        refine r_getR hV dX12_take_56 fl_X12_90 (by first | decide | omega) (by first | rfl | assumption) o45 ?_
        refine r_iload_n hV dX12_take_59 rfl ?_
        refine r_iload_n hV dX12_take_60 rfl ?_
        refine s_iastore hV dX12_take_61 (by first | decide | omega) (by first | rfl | assumption) (by decide) (by omega) (by omega) ?_
        generalize hg1 : zu I 104 (zu (I 104) ((D : Nat) : Int).toNat (iI a)) = I1
        have u1 : ∀ q, q ≠ 104 → I1 q = I q := fun q h => by rw [← hg1, zu_n _ _ h]
        have v1 : I1 104 D = iI a := by rw [← hg1, zu_s, Int.toNat_natCast, zu_s]
        have w1 : ∀ q i, i ≠ D → I1 q i = I q i := fun q i h => by
          by_cases hq : q = 104
          · rw [hq, ← hg1, zu_s, Int.toNat_natCast, zu_n _ _ h]
          · rw [u1 q hq]
        clear hg1
        refine r_aload_n hV dX12_take_62 rfl rfl ?_
        refine r_getR hV dX12_take_63 fl_X12_93 (by first | decide | omega) (by first | rfl | assumption) o46 ?_
        refine r_iload_n hV dX12_take_66 rfl ?_
        refine r_iload_n hV dX12_take_67 rfl ?_
        refine s_iastore hV dX12_take_68 (by first | decide | omega) (by first | rfl | assumption) (by decide) (by omega) (by omega) ?_
        generalize hg2 : zu I1 105 (zu (I1 105) ((D : Nat) : Int).toNat (iI b)) = I2
        have u2 : ∀ q, q ≠ 105 → I2 q = I1 q := fun q h => by rw [← hg2, zu_n _ _ h]
        have v2 : I2 105 D = iI b := by rw [← hg2, zu_s, Int.toNat_natCast, zu_s]
        have w2 : ∀ q i, i ≠ D → I2 q i = I1 q i := fun q i h => by
          by_cases hq : q = 105
          · rw [hq, ← hg2, zu_s, Int.toNat_natCast, zu_n _ _ h]
          · rw [u2 q hq]
        clear hg2
        refine r_vret hV dX12_take_69 rfl rfl ?_
        first
          | (have hc : (x = -9 ∨ (if who = 0 then x < a else y < b)) := by first | omega | (rw [if_pos (by omega)]; omega) | (rw [if_neg (by omega)]; omega)
             rw [if_pos hc, if_pos hc]
             exact ⟨rfl, rfl, rfl, by rw [u2 104 (by omega)]; exact v1, v2, fun q a b => (u2 q b).trans (u1 q a), fun q i h => (w2 q i h).trans (w1 q i h)⟩)
          | (have hc : ¬ (x = -9 ∨ (if who = 0 then x < a else y < b)) := by first | omega | (rw [if_pos (by omega)]; omega) | (rw [if_neg (by omega)]; omega)
             rw [if_neg hc, if_neg hc]
             exact ⟨rfl, rfl, rfl, e104, e105, fun _ _ _ => rfl, fun _ _ _ => rfl⟩)

