def zGs (P : zP) : Prop := P 62 0 = some 63 ∧ P 62 1 = some 64
/-- the weight of the sets that cost no more than t -/
def f_ww (C Wt : Int → Int) (t : Int) (j : Nat) : Int := zsum (fun i => if C (i : Int) ≤ t then Wt (i : Int) else 0) j
theorem f_ww_b {C Wt : Int → Int} {t : Int} {S : Nat} (h : z_bd Wt S 0 1000000) : ∀ j, j ≤ S → 0 ≤ f_ww C Wt t j ∧ f_ww C Wt t j ≤ 1000000 * j := by
  intro j
  induction j with
  | zero => intro _; exact ⟨Int.le_refl _, Int.le_refl _⟩
  | succ j ih =>
    intro hj
    have h1 := ih (by omega)
    have h2 := h (j : Int) (by omega) (by omega)
    show 0 ≤ f_ww C Wt t j + (if C (j : Int) ≤ t then Wt (j : Int) else 0) ∧ f_ww C Wt t j + (if C (j : Int) ≤ t then Wt (j : Int) else 0) ≤ _
    split <;> omega
theorem f_ww_s {C Wt : Int → Int} {t : Int} {j : Nat} : f_ww C Wt t (j + 1) = f_ww C Wt t j + (if C (j : Int) ≤ t then Wt (j : Int) else 0) := rfl
def f_lst (C Wt : Int → Int) (S : Nat) (whole h : Int) (j : Nat) (b : Int) : Int := if (C (j : Int) ≤ 999 ∧ (b = -9 ∨ C (j : Int) < b)) ∧ h * whole ≤ 100 * f_ww C Wt (C (j : Int)) S then C (j : Int) else b
def f_wg (x : Int) (s k : Nat) (w : Int) : Int := w * (if s.testBit k then x else 10 - x)
theorem f_wg_b {x : Int} {s : Nat} (hx : 0 ≤ x ∧ x ≤ 10) : ∀ k, 0 ≤ zit (f_wg x s) k 1 ∧ zit (f_wg x s) k 1 ≤ 10 ^ k := by
  intro k
  induction k with
  | zero => exact ⟨(by decide : (0 : Int) ≤ 1), (by decide : (1 : Int) ≤ 10 ^ 0)⟩
  | succ k ih =>
    rw [zit, f_wg, Int.pow_succ]
    have hy : 0 ≤ (if s.testBit k then x else 10 - x) ∧ (if s.testBit k then x else 10 - x) ≤ 10 := by split <;> omega
    exact ⟨Int.mul_nonneg ih.1 hy.1, Int.mul_le_mul ih.2 hy.2 hy.1 (Int.le_trans ih.1 ih.2)⟩
theorem z_p10 {k : Nat} (h : k ≤ 6) : (1 : Int) ≤ 10 ^ k ∧ (10 : Int) ^ k ≤ 1000000 := by revert k; decide
set_option maxRecDepth 20000 in
theorem m_weightWithin (I : zI) (J : zJ) (P : zP) (hG : zGs P) (S : Nat) (hS : I 62 2 = iI (S : Int)) (hS6 : S ≤ 64) (C Wt : Int → Int) (hC : z_ar I 63 (S : Int) C) (hCb : z_bd C S 0 1000000) (hWt : z_ar I 64 (S : Int) Wt) (hWb : z_bd Wt S 0 1000000) (t : Int) (ht : z_rg t) : z_Fn 0 yX2_weightWithin cX2_weightWithin 4 (some .int) 108 108 I J P [.ref 62, .int (iI t)] (some (.int (iI (f_ww C Wt t S)))) (I) (J) (P) := by
  obtain ⟨g0, g1⟩ := id hG
  have ht1 := ht.1
  have ht2 := ht.2
  refine z_met false (by decide +kernel) (fun h => by cases h) (Nat.le_of_ble_eq_true rfl) (by first | decide | omega) (fun V hV => ?_)
  show V 108 I J P 0 [.ref 62, .int (iI t), .null, .null] []
  refine s_iconst hV dX2_weightWithin_0 (0) (by decide) ?_
  refine r_istore_n hV dX2_weightWithin_1 (Nat.le_of_ble_eq_true rfl) rfl ?_
  refine s_iconst hV dX2_weightWithin_2 (0) (by decide) ?_
  refine r_istore_n hV dX2_weightWithin_3 (Nat.le_of_ble_eq_true rfl) rfl ?_
  have L4 : ∀ (k4 j : Nat), S - j < k4 → j ≤ S → V 108 I J P 4 [.ref 62, .int (iI t), .int (iI (f_ww C Wt t j)), .int (iI (j : Int))] [] := by
    intro k4
    induction k4 with
    | zero => intro j  hk1 hk2; omega
    | succ k4 ih4 =>
      intro j  hk4 hl4 
      refine r_iload_n hV dX2_weightWithin_4 rfl ?_
      refine r_aload_n hV dX2_weightWithin_5 rfl rfl ?_
      refine r_getI hV dX2_weightWithin_6 fl_X2_24 (by first | decide | omega) (by first | rfl | assumption) hS ?_
      refine s_icmp_ge hV 37 dX2_weightWithin_9 (by decide) (by unfold z_rg; first | omega | (split <;> omega)) (by unfold z_rg; first | omega | (split <;> omega)) (fun c9 => ?_) (fun c9 => ?_)
      · refine r_iload_n hV dX2_weightWithin_37 rfl ?_
        refine r_iret hV dX2_weightWithin_38 rfl rfl ?_
        rw [show S = j by omega]
        exact ⟨rfl, rfl, rfl, rfl⟩
      · have hcb := hCb (j : Int) (by omega) (by omega)
        have hwb := hWb (j : Int) (by omega) (by omega)
        have hsb := f_ww_b (C := C) (t := t) hWb j (by omega)
        refine r_aload_n hV dX2_weightWithin_12 rfl rfl ?_
        refine r_getR hV dX2_weightWithin_13 fl_X2_9 (by first | decide | omega) (by first | rfl | assumption) (by first | assumption | rfl) ?_
        refine r_iload_n hV dX2_weightWithin_16 rfl ?_
        refine s_iaload hV dX2_weightWithin_17 (by first | decide | omega) (by first | rfl | assumption) (by decide) (by omega) (by omega) (hC _ (by omega) (by omega)) ?_
        refine r_iload_n hV dX2_weightWithin_18 rfl ?_
        refine s_icmp_gt hV 31 dX2_weightWithin_19 (by decide) (by unfold z_rg; first | omega | (split <;> omega)) (by unfold z_rg; first | omega | (split <;> omega)) (fun c19 => ?_) (fun c19 => ?_)
        · refine s_iinc hV dX2_weightWithin_31 rfl rfl ?_
          refine r_goto hV 4 dX2_weightWithin_34 (by decide) ?_
          first
            | (have e : f_ww C Wt t (j + 1) = f_ww C Wt t j + Wt (j : Int) := by rw [f_ww_s, if_pos (by omega)]
               have h := ih4 (j + 1) (by omega) (by omega)
               rw [e] at h
               exact h)
            | (have e : f_ww C Wt t (j + 1) = f_ww C Wt t j := by rw [f_ww_s, if_neg (by omega), Int.add_zero]
               have h := ih4 (j + 1) (by omega) (by omega)
               rw [e] at h
               exact h)
        · refine r_iload_n hV dX2_weightWithin_22 rfl ?_
          refine r_aload_n hV dX2_weightWithin_23 rfl rfl ?_
          refine r_getR hV dX2_weightWithin_24 fl_X2_15 (by first | decide | omega) (by first | rfl | assumption) (by first | assumption | rfl) ?_
          refine r_iload_n hV dX2_weightWithin_27 rfl ?_
          refine s_iaload hV dX2_weightWithin_28 (by first | decide | omega) (by first | rfl | assumption) (by decide) (by omega) (by omega) (hWt _ (by omega) (by omega)) ?_
          refine s_iadd hV dX2_weightWithin_29 ?_
          refine r_istore_n hV dX2_weightWithin_30 (Nat.le_of_ble_eq_true rfl) rfl ?_
          refine s_iinc hV dX2_weightWithin_31 rfl rfl ?_
          refine r_goto hV 4 dX2_weightWithin_34 (by decide) ?_
          first
            | (have e : f_ww C Wt t (j + 1) = f_ww C Wt t j + Wt (j : Int) := by rw [f_ww_s, if_pos (by omega)]
               have h := ih4 (j + 1) (by omega) (by omega)
               rw [e] at h
               exact h)
            | (have e : f_ww C Wt t (j + 1) = f_ww C Wt t j := by rw [f_ww_s, if_neg (by omega), Int.add_zero]
               have h := ih4 (j + 1) (by omega) (by omega)
               rw [e] at h
               exact h)
  exact L4 (S + 1) 0 (by omega) (by omega)

theorem z_cmp3 (a b : Int) : (z_cmp a b = -1 ∧ a < b) ∨ (z_cmp a b = 0 ∧ a = b) ∨ (z_cmp a b = 1 ∧ b < a) := by
  unfold z_cmp
  split
  · omega
  · split <;> omega
theorem f_lst_b {C Wt : Int → Int} {S : Nat} {w h b : Int} {j : Nat} (hC : z_bd C S 0 1000000) (hj : j < S) (hb : b = -9 ∨ (0 ≤ b ∧ b ≤ 999)) : f_lst C Wt S w h j b = -9 ∨ (0 ≤ f_lst C Wt S w h j b ∧ f_lst C Wt S w h j b ≤ 999) := by
  have h1 := hC (j : Int) (by omega) (by omega)
  unfold f_lst
  split
  · right; omega
  · exact hb
set_option maxRecDepth 20000 in
theorem m_leastSteps (I : zI) (J : zJ) (P : zP) (hG : zGs P) (S : Nat) (hS : I 62 2 = iI (S : Int)) (hS6 : S ≤ 64) (C Wt : Int → Int) (hC : z_ar I 63 (S : Int) C) (hCb : z_bd C S 0 1000000) (hWt : z_ar I 64 (S : Int) Wt) (hWb : z_bd Wt S 0 1000000) (wh : Int) (hwh : I 62 3 = iI wh) (hwb : 1 ≤ wh ∧ wh ≤ 1000000) (h : Int) (hh : -100000 ≤ h ∧ h ≤ 100000) : z_Fn 1 yX2_leastSteps cX2_leastSteps 6 (some .int) 108 108 I J P [.ref 62, .int (iI h)] (some (.int (iI (zit (f_lst C Wt S wh h) S (-9))))) (I) (J) (P) := by
  obtain ⟨g0, g1⟩ := id hG
  have hm : h * wh ≤ 100000 * 1000000 := Int.le_trans (Int.mul_le_mul_of_nonneg_right hh.2 (by omega)) (Int.mul_le_mul_of_nonneg_left hwb.2 (by omega))
  have hm2 : -100000 * 1000000 ≤ h * wh := Int.le_trans (by omega) (Int.mul_le_mul_of_nonneg_right hh.1 (by omega : 0 ≤ wh))
  refine z_met false (by decide +kernel) (fun h => by cases h) (Nat.le_of_ble_eq_true rfl) (by first | decide | omega) (fun V hV => ?_)
  show V 108 I J P 0 [.ref 62, .int (iI h), .null, .null, .null, .null] []
  refine s_bipush hV dX2_leastSteps_0 (-9) (by decide) ?_
  refine r_istore_n hV dX2_leastSteps_2 (Nat.le_of_ble_eq_true rfl) rfl ?_
  refine s_iconst hV dX2_leastSteps_3 (0) (by decide) ?_
  refine r_istore_n hV dX2_leastSteps_4 (Nat.le_of_ble_eq_true rfl) rfl ?_
  have L5 : ∀ (k5 j : Nat) (b : Int), S - j < k5 → j ≤ S → (b = zit (f_lst C Wt S wh h) j (-9)) → (b = -9 ∨ (0 ≤ b ∧ b ≤ 999)) → V 108 I J P 5 [.ref 62, .int (iI h), .int (iI b), .int (iI (j : Int)), .null, .null] [] := by
    intro k5
    induction k5 with
    | zero => intro j b  hk1 hk2; omega
    | succ k5 ih5 =>
      intro j b  hk5 hl5 hB hb
      refine r_iload_n hV dX2_leastSteps_5 rfl ?_
      refine r_aload_n hV dX2_leastSteps_6 rfl rfl ?_
      refine r_getI hV dX2_leastSteps_7 fl_X2_24 (by first | decide | omega) (by first | rfl | assumption) hS ?_
      refine s_icmp_ge hV 85 dX2_leastSteps_10 (by decide) (by unfold z_rg; first | omega | (split <;> omega)) (by unfold z_rg; first | omega | (split <;> omega)) (fun c10 => ?_) (fun c10 => ?_)
      · refine r_iload_n hV dX2_leastSteps_85 rfl ?_
        refine r_iret hV dX2_leastSteps_86 rfl rfl ?_
        have hj : j = S := by omega
        subst hj
        rw [← hB]
        exact ⟨rfl, rfl, rfl, rfl⟩
      · have hcb := hCb (j : Int) (by omega) (by omega)
        have hsb := f_ww_b (C := C) (t := C (j : Int)) hWb S (Nat.le_refl _)
        refine r_aload_n hV dX2_leastSteps_13 rfl rfl ?_
        refine r_getR hV dX2_leastSteps_14 fl_X2_9 (by first | decide | omega) (by first | rfl | assumption) (by first | assumption | rfl) ?_
        refine r_iload_n hV dX2_leastSteps_17 rfl ?_
        refine s_iaload hV dX2_leastSteps_18 (by first | decide | omega) (by first | rfl | assumption) (by decide) (by omega) (by omega) (hC _ (by omega) (by omega)) ?_
        refine r_istore hV dX2_leastSteps_19 (Nat.le_of_ble_eq_true rfl) rfl ?_
        refine r_iload hV dX2_leastSteps_21 rfl ?_
        refine s_sipush hV dX2_leastSteps_23 (999) (by decide) ?_
        refine s_icmp_gt hV 45 dX2_leastSteps_26 (by decide) (by unfold z_rg; first | omega | (split <;> omega)) (by unfold z_rg; first | omega | (split <;> omega)) (fun c26 => ?_) (fun c26 => ?_)
        · refine s_iconst hV dX2_leastSteps_45 (0) (by decide) ?_
          refine r_istore hV dX2_leastSteps_46 (Nat.le_of_ble_eq_true rfl) rfl ?_
          refine r_iload hV dX2_leastSteps_48 rfl ?_
          refine s_if_eq hV 79 dX2_leastSteps_50 (by decide) (by unfold z_rg; first | omega | (split <;> omega)) (fun _ => ?_) (fun c50 => absurd (by decide) c50)
          refine s_iinc hV dX2_leastSteps_79 rfl rfl ?_
          refine r_goto hV 5 dX2_leastSteps_82 (by decide) ?_
          refine r_kill hV 4 rfl ?_
          refine r_kill hV 5 rfl ?_
          first
            | exact ih5 (j + 1) _ (by omega) (by omega) (by rw [zit, ← hB, f_lst, if_pos (by omega)]) hbn
            | exact ih5 (j + 1) _ (by omega) (by omega) (by rw [zit, ← hB, f_lst, if_neg (by omega)]) hb
        · refine r_iload_n hV dX2_leastSteps_29 rfl ?_
          refine s_bipush hV dX2_leastSteps_30 (-9) (by decide) ?_
          refine s_icmp_eq hV 41 dX2_leastSteps_32 (by decide) (by unfold z_rg; first | omega | (split <;> omega)) (by unfold z_rg; first | omega | (split <;> omega)) (fun c32 => ?_) (fun c32 => ?_)
          · refine s_iconst hV dX2_leastSteps_41 (1) (by decide) ?_
            refine r_goto hV 46 dX2_leastSteps_42 (by decide) ?_
            refine r_istore hV dX2_leastSteps_46 (Nat.le_of_ble_eq_true rfl) rfl ?_
            refine r_iload hV dX2_leastSteps_48 rfl ?_
            refine s_if_eq hV 79 dX2_leastSteps_50 (by decide) (by unfold z_rg; first | omega | (split <;> omega)) (fun c50 => absurd c50 (by decide)) (fun _ => ?_)
            refine s_ldc2_w hV dX2_leastSteps_53 cl_X2_39 (100) (by decide) ?_
            refine r_aload_n hV dX2_leastSteps_56 rfl rfl ?_
            refine r_iload hV dX2_leastSteps_57 rfl ?_
            refine q_iv1v hV dX2_leastSteps_59 mv_X2_41 (m_weightWithin I J P hG S hS hS6 C Wt hC hCb hWt hWb (C (j : Int)) (by unfold z_rg; omega)) (by first | decide | omega) (by first | rfl | assumption) (by decide) (Nat.le_refl _) (Nat.le_of_ble_eq_true rfl) ?_
            refine s_i2l hV dX2_leastSteps_62 (by unfold z_rg; first | omega | (split <;> omega)) ?_
            refine s_lmul hV dX2_leastSteps_63 ?_
            refine r_iload_n hV dX2_leastSteps_64 rfl ?_
            refine s_i2l hV dX2_leastSteps_65 (by unfold z_rg; first | omega | (split <;> omega)) ?_
            refine r_aload_n hV dX2_leastSteps_66 rfl rfl ?_
            refine r_getI hV dX2_leastSteps_67 fl_X2_27 (by first | decide | omega) (by first | rfl | assumption) hwh ?_
            refine s_i2l hV dX2_leastSteps_70 (by unfold z_rg; first | omega | (split <;> omega)) ?_
            refine s_lmul hV dX2_leastSteps_71 ?_
            refine s_lcmp hV dX2_leastSteps_72 (by unfold z_rgL; omega) (by unfold z_rgL; omega) ?_
            have hcm := z_cmp3 (100 * f_ww C Wt (C (j : Int)) S) (h * wh)
            refine s_if_lt hV 79 dX2_leastSteps_73 (by decide) (by unfold z_rg; first | omega | (split <;> omega)) (fun c73 => ?_) (fun c73 => ?_)
            · refine s_iinc hV dX2_leastSteps_79 rfl rfl ?_
              refine r_goto hV 5 dX2_leastSteps_82 (by decide) ?_
              refine r_kill hV 4 rfl ?_
              refine r_kill hV 5 rfl ?_
              first
                | exact ih5 (j + 1) _ (by omega) (by omega) (by rw [zit, ← hB, f_lst, if_pos (by omega)]) hbn
                | exact ih5 (j + 1) _ (by omega) (by omega) (by rw [zit, ← hB, f_lst, if_neg (by omega)]) hb
            · refine r_iload hV dX2_leastSteps_76 rfl ?_
              refine r_istore_n hV dX2_leastSteps_78 (Nat.le_of_ble_eq_true rfl) rfl ?_
              have hbn : C (j : Int) = -9 ∨ (0 ≤ C (j : Int) ∧ C (j : Int) ≤ 999) := by omega
              refine s_iinc hV dX2_leastSteps_79 rfl rfl ?_
              refine r_goto hV 5 dX2_leastSteps_82 (by decide) ?_
              refine r_kill hV 4 rfl ?_
              refine r_kill hV 5 rfl ?_
              first
                | exact ih5 (j + 1) _ (by omega) (by omega) (by rw [zit, ← hB, f_lst, if_pos (by omega)]) hbn
                | exact ih5 (j + 1) _ (by omega) (by omega) (by rw [zit, ← hB, f_lst, if_neg (by omega)]) hb
          · refine r_iload hV dX2_leastSteps_35 rfl ?_
            refine r_iload_n hV dX2_leastSteps_37 rfl ?_
            refine s_icmp_ge hV 45 dX2_leastSteps_38 (by decide) (by unfold z_rg; first | omega | (split <;> omega)) (by unfold z_rg; first | omega | (split <;> omega)) (fun c38 => ?_) (fun c38 => ?_)
            · refine s_iconst hV dX2_leastSteps_45 (0) (by decide) ?_
              refine r_istore hV dX2_leastSteps_46 (Nat.le_of_ble_eq_true rfl) rfl ?_
              refine r_iload hV dX2_leastSteps_48 rfl ?_
              refine s_if_eq hV 79 dX2_leastSteps_50 (by decide) (by unfold z_rg; first | omega | (split <;> omega)) (fun _ => ?_) (fun c50 => absurd (by decide) c50)
              refine s_iinc hV dX2_leastSteps_79 rfl rfl ?_
              refine r_goto hV 5 dX2_leastSteps_82 (by decide) ?_
              refine r_kill hV 4 rfl ?_
              refine r_kill hV 5 rfl ?_
              first
                | exact ih5 (j + 1) _ (by omega) (by omega) (by rw [zit, ← hB, f_lst, if_pos (by omega)]) hbn
                | exact ih5 (j + 1) _ (by omega) (by omega) (by rw [zit, ← hB, f_lst, if_neg (by omega)]) hb
            · refine s_iconst hV dX2_leastSteps_41 (1) (by decide) ?_
              refine r_goto hV 46 dX2_leastSteps_42 (by decide) ?_
              refine r_istore hV dX2_leastSteps_46 (Nat.le_of_ble_eq_true rfl) rfl ?_
              refine r_iload hV dX2_leastSteps_48 rfl ?_
              refine s_if_eq hV 79 dX2_leastSteps_50 (by decide) (by unfold z_rg; first | omega | (split <;> omega)) (fun c50 => absurd c50 (by decide)) (fun _ => ?_)
              refine s_ldc2_w hV dX2_leastSteps_53 cl_X2_39 (100) (by decide) ?_
              refine r_aload_n hV dX2_leastSteps_56 rfl rfl ?_
              refine r_iload hV dX2_leastSteps_57 rfl ?_
              refine q_iv1v hV dX2_leastSteps_59 mv_X2_41 (m_weightWithin I J P hG S hS hS6 C Wt hC hCb hWt hWb (C (j : Int)) (by unfold z_rg; omega)) (by first | decide | omega) (by first | rfl | assumption) (by decide) (Nat.le_refl _) (Nat.le_of_ble_eq_true rfl) ?_
              refine s_i2l hV dX2_leastSteps_62 (by unfold z_rg; first | omega | (split <;> omega)) ?_
              refine s_lmul hV dX2_leastSteps_63 ?_
              refine r_iload_n hV dX2_leastSteps_64 rfl ?_
              refine s_i2l hV dX2_leastSteps_65 (by unfold z_rg; first | omega | (split <;> omega)) ?_
              refine r_aload_n hV dX2_leastSteps_66 rfl rfl ?_
              refine r_getI hV dX2_leastSteps_67 fl_X2_27 (by first | decide | omega) (by first | rfl | assumption) hwh ?_
              refine s_i2l hV dX2_leastSteps_70 (by unfold z_rg; first | omega | (split <;> omega)) ?_
              refine s_lmul hV dX2_leastSteps_71 ?_
              refine s_lcmp hV dX2_leastSteps_72 (by unfold z_rgL; omega) (by unfold z_rgL; omega) ?_
              have hcm := z_cmp3 (100 * f_ww C Wt (C (j : Int)) S) (h * wh)
              refine s_if_lt hV 79 dX2_leastSteps_73 (by decide) (by unfold z_rg; first | omega | (split <;> omega)) (fun c73 => ?_) (fun c73 => ?_)
              · refine s_iinc hV dX2_leastSteps_79 rfl rfl ?_
                refine r_goto hV 5 dX2_leastSteps_82 (by decide) ?_
                refine r_kill hV 4 rfl ?_
                refine r_kill hV 5 rfl ?_
                first
                  | exact ih5 (j + 1) _ (by omega) (by omega) (by rw [zit, ← hB, f_lst, if_pos (by omega)]) hbn
                  | exact ih5 (j + 1) _ (by omega) (by omega) (by rw [zit, ← hB, f_lst, if_neg (by omega)]) hb
              · refine r_iload hV dX2_leastSteps_76 rfl ?_
                refine r_istore_n hV dX2_leastSteps_78 (Nat.le_of_ble_eq_true rfl) rfl ?_
                have hbn : C (j : Int) = -9 ∨ (0 ≤ C (j : Int) ∧ C (j : Int) ≤ 999) := by omega
                refine s_iinc hV dX2_leastSteps_79 rfl rfl ?_
                refine r_goto hV 5 dX2_leastSteps_82 (by decide) ?_
                refine r_kill hV 4 rfl ?_
                refine r_kill hV 5 rfl ?_
                first
                  | exact ih5 (j + 1) _ (by omega) (by omega) (by rw [zit, ← hB, f_lst, if_pos (by omega)]) hbn
                  | exact ih5 (j + 1) _ (by omega) (by omega) (by rw [zit, ← hB, f_lst, if_neg (by omega)]) hb
  exact L5 (S + 1) 0 _ (by omega) (by omega) rfl (Or.inl rfl)

def f_gC (W Wd : Int → Int) (e fr : Nat) (z : Int) : Int := W ((zpl z.toNat Wd e ||| 2 ^ fr : Nat) : Int)
def f_gW (x : Int) (e : Nat) (z : Int) : Int := zit (f_wg x z.toNat) e 1
theorem zb_shl0 {k : Nat} (h : k ≤ 6) : iI 1 <<< (iI (k : Int) &&& 31) = iI ((2 ^ k : Nat) : Int) := zb_shl (by omega)
def q_pre (I : zI) (J : zJ) (P : zP) (e : Nat) (C Wt : Int → Int) (v : Option Value) (I1 : zI) (J1 : zJ) (P1 : zP) : Prop := v = none ∧ J1 = J ∧ P1 = P ∧ I1 62 2 = iI ((2 ^ e : Nat) : Int) ∧ I1 62 3 = iI (10 ^ e) ∧ z_ar I1 63 ((2 ^ e : Nat) : Int) C ∧ z_ar I1 64 ((2 ^ e : Nat) : Int) Wt ∧ ∀ q, q ≠ 62 → q ≠ 63 → q ≠ 64 → I1 q = I q
set_option maxRecDepth 20000 in
theorem m_prepare (I : zI) (J : zJ) (P : zP) (hG : zGs P) (t d : Nat) (hT : zTr P t) (hD : zDay P d) (e : Nat) (he : I d 3 = iI (e : Int)) (he6 : e ≤ 6) (Wd : Int → Int) (hWd : z_ar I (d + 3) 6 Wd) (hWdb : z_bd Wd e 0 5) (fr : Nat) (hfr0 : I t 0 = iI (fr : Int)) (hf6 : fr < 6) (W : Int → Int) (hW : z_ar I (t + 2) 64 W) (x : Int) (hx : 0 ≤ x ∧ x ≤ 10) : z_Sp 3 yX2_prepare cX2_prepare 7 none 108 108 I J P [.ref 62, .ref d, .ref t, .int (iI x)] (q_pre I J P e (f_gC W Wd e fr) (f_gW x e)) := by
  obtain ⟨hd, p4, p5, p6, p7, p8⟩ := id hD
  obtain ⟨hlt, s0, s1, s2, s3, s4, s5⟩ := zDay_s hD
  obtain ⟨ht, q1, q2⟩ := id hT
  obtain ⟨htl, htg, t0, t1, t2⟩ := zTr_s hT
  obtain ⟨g0, g1⟩ := id hG
  have hpe := z_pn he6
  refine z_met false (by decide +kernel) (fun h => by cases h) (Nat.le_of_ble_eq_true rfl) (by first | decide | omega) (fun V hV => ?_)
  show V 108 I J P 0 [.ref 62, .ref d, .ref t, .int (iI x), .null, .null, .null] []
  refine r_aload_n hV dX2_prepare_0 rfl rfl ?_
  refine s_iconst hV dX2_prepare_1 (1) (by decide) ?_
  refine r_aload_n hV dX2_prepare_2 rfl rfl ?_
  refine r_getI hV dX2_prepare_3 fl_X2_18 (by first | decide | omega) (by first | rfl | assumption) he ?_
  refine s_ishl hV dX2_prepare_6 (zb_shl0 he6) ?_
  refine r_putI hV dX2_prepare_7 fl_X2_24 (pf_X2_24 _) (z_okI_int rfl _) (by first | decide | omega) (by first | rfl | assumption) ?_
  refine r_aload_n hV dX2_prepare_10 rfl rfl ?_
  refine s_iconst hV dX2_prepare_11 (1) (by decide) ?_
  refine r_putI hV dX2_prepare_12 fl_X2_27 (pf_X2_27 _) (z_okI_int rfl _) (by first | decide | omega) (by first | rfl | assumption) ?_
  refine s_iconst hV dX2_prepare_15 (0) (by decide) ?_
  refine r_istore hV dX2_prepare_16 (Nat.le_of_ble_eq_true rfl) rfl ?_
  have L18 : ∀ (k18 j : Nat) (I1 : zI), e - j < k18 → j ≤ e → (I1 62 2 = iI ((2 ^ e : Nat) : Int)) → (I1 62 3 = iI (10 ^ j)) → (∀ q, q ≠ 62 → I1 q = I q) → V 108 I1 J P 18 [.ref 62, .ref d, .ref t, .int (iI x), .int (iI (j : Int)), .null, .null] [] := by
    intro k18
    induction k18 with
    | zero => intro j I1  hk1 hk2; omega
    | succ k18 ih18 =>
      intro j I1  hk18 hl18 h2 h3 hfr
      refine r_iload hV dX2_prepare_18 rfl ?_
      refine r_aload_n hV dX2_prepare_20 rfl rfl ?_
      refine r_getI hV dX2_prepare_21 fl_X2_18 (by first | decide | omega) (by first | rfl | assumption) ((congrFun (hfr d (by omega)) 3).trans he) ?_
      refine s_icmp_ge hV 44 dX2_prepare_24 (by decide) (by unfold z_rg; first | omega | (split <;> omega)) (by unfold z_rg; first | omega | (split <;> omega)) (fun c24 => ?_) (fun c24 => ?_)
      · refine s_iconst hV dX2_prepare_44 (0) (by decide) ?_
        refine r_istore hV dX2_prepare_45 (Nat.le_of_ble_eq_true rfl) rfl ?_
        have L47 : ∀ (k47 j : Nat) (I1 : zI), 2 ^ e - j < k47 → j ≤ 2 ^ e → (I1 62 2 = iI ((2 ^ e : Nat) : Int)) → (I1 62 3 = iI (10 ^ e)) → (z_ar I1 63 (j : Int) (f_gC W Wd e fr)) → (z_ar I1 64 (j : Int) (f_gW x e)) → (∀ q, q ≠ 62 → q ≠ 63 → q ≠ 64 → I1 q = I q) → V 108 I1 J P 47 [.ref 62, .ref d, .ref t, .int (iI x), .int (iI (j : Int)), .null, .null] [] := by
          intro k47
          induction k47 with
          | zero => intro j I1  hk1 hk2; omega
          | succ k47 ih47 =>
            intro j I1  hk47 hl47 h2 h3 hC hWt hfr
            refine r_iload hV dX2_prepare_47 rfl ?_
            refine r_aload_n hV dX2_prepare_49 rfl rfl ?_
            refine r_getI hV dX2_prepare_50 fl_X2_24 (by first | decide | omega) (by first | rfl | assumption) h2 ?_
            refine s_icmp_ge hV 133 dX2_prepare_53 (by decide) (by unfold z_rg; first | omega | (split <;> omega)) (by unfold z_rg; first | omega | (split <;> omega)) (fun c53 => ?_) (fun c53 => ?_)
            · refine r_vret hV dX2_prepare_133 rfl rfl ?_
              have hj : j = 2 ^ e := by omega
              subst hj
              exact ⟨rfl, rfl, rfl, h2, h3, hC, hWt, hfr⟩
            · have hj64 : j < 64 := by omega
              have hzl := zpl_lt (s := j) hWdb
              refine r_aload_n hV dX2_prepare_56 rfl rfl ?_
              refine r_getR hV dX2_prepare_57 fl_X2_9 (by first | decide | omega) (by first | rfl | assumption) (by first | assumption | rfl) ?_
              refine r_iload hV dX2_prepare_60 rfl ?_
              refine r_aload_n hV dX2_prepare_62 rfl rfl ?_
              refine r_aload_n hV dX2_prepare_63 rfl rfl ?_
              refine r_iload hV dX2_prepare_64 rfl ?_
              refine q_iv1v hV dX2_prepare_66 mv_X2_30 (m_placesOfSet I1 J P d hD (e : Int) ((congrFun (hfr d (by omega) (by omega) (by omega)) 3).trans he) (by omega) j hj64 Wd (z_ar_fr hWd (hfr _ (by omega) (by omega) (by omega))) hWdb) (by first | decide | omega) (by first | rfl | assumption) (by decide) (Nat.le_refl _) (Nat.le_of_ble_eq_true rfl) ?_
              rw [Int.toNat_natCast]
              refine q_iv1v hV dX2_prepare_69 mv_X2_34 (m_by I1 J P t hT fr ((congrFun (hfr t (by omega) (by omega) (by omega)) 0).trans hfr0) hf6 W (z_ar_fr hW (hfr _ (by omega) (by omega) (by omega))) (zpl j Wd e) hzl) (by first | decide | omega) (by first | rfl | assumption) (by decide) (Nat.le_refl _) (Nat.le_of_ble_eq_true rfl) ?_
              refine s_iastore hV dX2_prepare_72 (by first | decide | omega) (by first | rfl | assumption) (by decide) (by omega) (by omega) ?_
              generalize hI3 : zu I1 (63) (zu (I1 63) (j : Int).toNat (iI (W ((zpl j Wd e ||| 2 ^ fr : Nat) : Int)))) = I3
              have hfI3 : ∀ q, q ≠ 63 → I3 q = I1 q := fun q h => by rw [← hI3]; exact zu_n _ _ h
              have hC3 : z_ar I3 63 ((j + 1 : Nat) : Int) (f_gC W Wd e fr) := by
                rw [← hI3]
                exact z_ar_push (f := f_gC W Wd e fr) hC
              have hW3 := z_ar_fr hWt (hfI3 64 (by decide))
              have h23 := (congrFun (hfI3 62 (by decide)) 2).trans h2
              have h33 := (congrFun (hfI3 62 (by decide)) 3).trans h3
              refine s_iconst hV dX2_prepare_73 (1) (by decide) ?_
              refine r_istore hV dX2_prepare_74 (Nat.le_of_ble_eq_true rfl) rfl ?_
              refine s_iconst hV dX2_prepare_76 (0) (by decide) ?_
              refine r_istore hV dX2_prepare_77 (Nat.le_of_ble_eq_true rfl) rfl ?_
              have L79 : ∀ (k79 a : Nat), e - a < k79 → a ≤ e → V 108 I3 J P 79 [.ref 62, .ref d, .ref t, .int (iI x), .int (iI (j : Int)), .int (iI (zit (f_wg x j) a 1)), .int (iI (a : Int))] [] := by
                intro k79
                induction k79 with
                | zero => intro a  hk1 hk2; omega
                | succ k79 ih79 =>
                  intro a  hk79 hl79 
                  have hwgb := f_wg_b (s := j) hx a
                  have hp6 := z_p10 (k := a) (by omega)
                  have hnx : ∀ v : Int, v = zit (f_wg x j) (a + 1) 1 → a < e → V 108 I3 J P 79 [.ref 62, .ref d, .ref t, .int (iI x), .int (iI (j : Int)), .int (iI v), .int (iI ((a : Int) + 1))] [] := fun v hv ha => by subst hv; exact ih79 (a + 1) (by omega) (by omega)
                  refine r_iload hV dX2_prepare_79 rfl ?_
                  refine r_aload_n hV dX2_prepare_81 rfl rfl ?_
                  refine r_getI hV dX2_prepare_82 fl_X2_18 (by first | decide | omega) (by first | rfl | assumption) ((congrFun ((hfI3 d (by omega)).trans (hfr d (by omega) (by omega) (by omega))) 3).trans he) ?_
                  refine s_icmp_ge hV 118 dX2_prepare_85 (by decide) (by unfold z_rg; first | omega | (split <;> omega)) (by unfold z_rg; first | omega | (split <;> omega)) (fun c85 => ?_) (fun c85 => ?_)
                  · refine r_aload_n hV dX2_prepare_118 rfl rfl ?_
                    refine r_getR hV dX2_prepare_119 fl_X2_15 (by first | decide | omega) (by first | rfl | assumption) (by first | assumption | rfl) ?_
                    refine r_iload hV dX2_prepare_122 rfl ?_
                    refine r_iload hV dX2_prepare_124 rfl ?_
                    refine s_iastore hV dX2_prepare_126 (by first | decide | omega) (by first | rfl | assumption) (by decide) (by omega) (by omega) ?_
                    refine s_iinc hV dX2_prepare_127 rfl rfl ?_
                    refine r_goto hV 47 dX2_prepare_130 (by decide) ?_
                    refine r_kill hV 5 rfl ?_
                    refine r_kill hV 6 rfl ?_
                    exact ih47 (j + 1) _ (by omega) (by omega) (by rw [zu_n _ _ (by decide)]; exact h23) (by rw [zu_n _ _ (by decide)]; exact h33) (z_ar_fr hC3 (zu_n _ _ (by decide))) (by rw [show a = e by omega]; exact z_ar_push (f := f_gW x e) hW3) (fun q a b c => by rw [zu_n _ _ c]; exact (hfI3 q b).trans (hfr q a b c))
                  · refine r_iload hV dX2_prepare_88 rfl ?_
                    refine r_iload hV dX2_prepare_90 rfl ?_
                    refine r_iload hV dX2_prepare_92 rfl ?_
                    refine s_ishr hV dX2_prepare_94 (zb_shr (by omega) (by omega)) ?_
                    refine s_iconst hV dX2_prepare_95 (1) (by decide) ?_
                    refine s_iand hV dX2_prepare_96 (by first | exact zb_one (by omega) (by omega) | exact zb_and (by omega) (by omega) | exact zb_df' (by omega) (by omega)) ?_
                    refine s_iconst hV dX2_prepare_97 (1) (by decide) ?_
                    refine s_icmp_ne hV 105 dX2_prepare_98 (by decide) (by unfold z_rg; first | omega | (split <;> omega)) (by unfold z_rg; first | omega | (split <;> omega)) (fun c98 => ?_) (fun c98 => ?_)
                    · refine s_bipush hV dX2_prepare_105 (10) (by decide) ?_
                      refine r_iload_n hV dX2_prepare_107 rfl ?_
                      refine s_isub hV dX2_prepare_108 ?_
                      refine s_imul hV dX2_prepare_109 ?_
                      refine r_istore hV dX2_prepare_110 (Nat.le_of_ble_eq_true rfl) rfl ?_
                      refine s_iinc hV dX2_prepare_112 rfl rfl ?_
                      refine r_goto hV 79 dX2_prepare_115 (by decide) ?_
                      exact hnx _ (by rw [zit, f_wg]; by_cases hb : j.testBit a = true <;> simp_all) (by omega)
                    · refine r_iload_n hV dX2_prepare_101 rfl ?_
                      refine r_goto hV 109 dX2_prepare_102 (by decide) ?_
                      refine s_imul hV dX2_prepare_109 ?_
                      refine r_istore hV dX2_prepare_110 (Nat.le_of_ble_eq_true rfl) rfl ?_
                      refine s_iinc hV dX2_prepare_112 rfl rfl ?_
                      refine r_goto hV 79 dX2_prepare_115 (by decide) ?_
                      exact hnx _ (by rw [zit, f_wg]; by_cases hb : j.testBit a = true <;> simp_all) (by omega)
              exact L79 (e + 1) 0 (by omega) (by omega)
        exact L47 (2 ^ e + 1) 0 I1 (Nat.lt_succ_self _) (Nat.zero_le _) h2 (by rw [show e = j by omega]; exact h3) z_ar_0 z_ar_0 (fun q a b c => hfr q a)
      · have hp6 := z_p10 (k := j) (by omega)
        refine r_aload_n hV dX2_prepare_27 rfl rfl ?_
        refine r_dup hV dX2_prepare_28 rfl ?_
        refine r_getI hV dX2_prepare_29 fl_X2_27 (by first | decide | omega) (by first | rfl | assumption) h3 ?_
        refine s_bipush hV dX2_prepare_32 (10) (by decide) ?_
        refine s_imul hV dX2_prepare_34 ?_
        refine r_putI hV dX2_prepare_35 fl_X2_27 (pf_X2_27 _) (z_okI_int rfl _) (by first | decide | omega) (by first | rfl | assumption) ?_
        refine s_iinc hV dX2_prepare_38 rfl rfl ?_
        refine r_goto hV 18 dX2_prepare_41 (by decide) ?_
        exact ih18 (j + 1) _ (by omega) (by omega) (by rw [zu_s, zu_n _ _ (by decide)]; exact h2) (by rw [zu_s, zu_s, Int.pow_succ]) (fun q a => by rw [zu_n _ _ a]; exact hfr q a)
  exact L18 (e + 1) 0 _ (by omega) (by omega) (by rw [zu_s, zu_n _ _ (by decide), zu_s, zu_s]) (by rw [zu_s, zu_s]; rfl) (fun q a => by rw [zu_n _ _ a, zu_n _ _ a])
