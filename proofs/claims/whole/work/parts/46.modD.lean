theorem zup_s {f : Int → Int} {z x : Int} : zup f z x z = x := if_pos rfl
theorem zup_n {f : Int → Int} {z x w : Int} (h : ¬ w = z) : zup f z x w = f w := if_neg h
theorem mI_fr3 {I I1 : zI} {tl st r c : Int} {n e : Nat} {T F W U K S : Int → Int} (h : mI I tl st r c n e T F W U K S) (hq : ∀ q, (79 ≤ q ∧ q ≤ 83) ∨ q = 88 ∨ q = 89 → I1 q = I q) (hk : ∀ k, k = 2 ∨ (4 ≤ k ∧ k ≤ 6) ∨ k = 8 ∨ (21 ≤ k ∧ k ≤ 24) ∨ k = 27 → I1 78 k = I 78 k) : mI I1 tl st r c n e T F W U K S := by
  obtain ⟨⟨i2, i4, i5, i6, i8, i21, i22, i23, i24, i27⟩, zT, zF, zW, zU, zK, zA, zN⟩ := h
  exact ⟨⟨(hk _ (by omega)).trans i2, (hk _ (by omega)).trans i4, (hk _ (by omega)).trans i5, (hk _ (by omega)).trans i6, (hk _ (by omega)).trans i8, (hk _ (by omega)).trans i21, (hk _ (by omega)).trans i22, (hk _ (by omega)).trans i23, (hk _ (by omega)).trans i24, (hk _ (by omega)).trans i27⟩, z_ar_fr zT (hq _ (by omega)), z_ar_fr zF (hq _ (by omega)), z_ar_fr zW (hq _ (by omega)), z_ar_fr zU (hq _ (by omega)), z_ar_fr zK (hq _ (by omega)), z_ar_fr zA (hq _ (by omega)), z_ar_fr zN (hq _ (by omega))⟩
theorem mB_fr {I I1 : zI} {c : Int} {H : Nat → Int → Int} (h : mB I c H) (e : I1 90 = I 90) : mB I1 c H := fun i z a b g => by rw [e]; exact h i z a b g
theorem mL_fr {I I1 : zI} {FU : Int → Int} {SL : Int → Int → Int} (h : mL I FU SL) (e : I1 91 = I 91) (e2 : I1 92 = I 92) : mL I1 FU SL := ⟨z_ar_fr h.1 e2, fun k z a b g i j => by rw [e]; exact h.2 k z a b g i j⟩
def f_s28 (m : Int) (g : Int → Int) (z : Int) : Int := if z < m then g (z + 28) else g z
theorem f_s28_s {g : Int → Int} {m : Int} (z : Int) : zup (f_s28 m g) m (g (m + 28)) z = f_s28 (m + 1) g z := by
  unfold zup f_s28
  split
  · next q => rw [if_pos (by omega), q]
  · next q =>
    by_cases h : z < m
    · rw [if_pos h, if_pos (by omega)]
    · rw [if_neg h, if_neg (by omega)]
def q_note (I : zI) (J : zJ) (P : zP) (tl st r c : Int) (n e : Nat) (T F W U K S : Int → Int) (H : Nat → Int → Int) (v : Option Value) (I1 : zI) (J1 : zJ) (P1 : zP) : Prop := v = none ∧ J1 = J ∧ P1 = P ∧ mI I1 tl st r (f_m16 c) n e T F W U K S ∧ mB I1 (f_m16 c) (zpush S H) ∧ (∀ p, p ≠ 78 → p ≠ 90 → I1 p = I p) ∧ ∀ k, k ≠ 27 → I1 78 k = I 78 k
set_option maxRecDepth 20000 in
theorem n_note (I : zI) (J : zJ) (P : zP) (hM : mK P) (tl st r c : Int) (n e : Nat) (T F W U K S : Int → Int) (hI : mI I tl st r c n e T F W U K S) (hcb : 0 ≤ c ∧ c ≤ 16) (H : Nat → Int → Int) (hB : mB I c H) : z_Sp 2 yX12_note cX12_note 2 none 108 108 I J P [.ref 78] (q_note I J P tl st r c n e T F W U K S H) := by
  obtain ⟨o1, o7, o9, o10, o11, o16, o17, o18, o19, o20, o25, o26, o28, o29, o30, o31, o36, o37, o38, o39, o40, o41, o42, o43, o44, o45, o46, o47, o48⟩ := id hM
  obtain ⟨⟨i2, i4, i5, i6, i8, i21, i22, i23, i24, i27⟩, zT, zF, zW, zU, zK, zA, zN⟩ := id hI
  refine z_met false (by decide +kernel) (fun h => by cases h) (Nat.le_of_ble_eq_true rfl) (by first | decide | omega) (fun V hV => ?_)
  show V 108 I J P 0 [.ref 78, .null] []
  have J49 : ∀ (I1 : zI) (m : Int), 0 ≤ m → m ≤ 15 → m + 1 = f_m16 c → mI I1 tl st r m n e T F W U K S → mB I1 m H → (∀ p, p ≠ 78 → p ≠ 90 → I1 p = I p) → (∀ k, k ≠ 27 → I1 78 k = I 78 k) → V 108 I1 J P 49 [.ref 78, .null] [] := by
    intro I1 m hm0 hm15 hmc hI1 hB1 hf1 hk1
    obtain ⟨⟨i21, i41, i51, i61, i81, i211, i221, i231, i241, i271⟩, zT1, zF1, zW1, zU1, zK1, zA1, zN1⟩ := id hI1
    refine r_aload_n hV dX12_note_49 rfl rfl ?_
    refine r_aload_n hV dX12_note_50 rfl rfl ?_
    refine r_getR hV dX12_note_51 fl_X12_47 (by first | decide | omega) (by first | rfl | assumption) o26 ?_
    refine s_bipush hV dX12_note_54 (28) (by decide) ?_
    refine r_aload_n hV dX12_note_56 rfl rfl ?_
    refine r_getI hV dX12_note_57 fl_X12_177 (by first | decide | omega) (by first | rfl | assumption) i271 ?_
    refine s_imul hV dX12_note_60 ?_
    refine r_iv2 hV dX12_note_61 mv_X12_200 (n_layPage90 I1 J P hM tl st r m n e T F W U K S hI1 (28 * m) (by omega)) (by first | decide | omega) (by first | rfl | assumption) (by decide) (Nat.le_refl _) (Nat.le_of_ble_eq_true rfl) (fun v2 I2 J2 P2 hq => ?_)
    obtain ⟨rfl, ej, ep, y1, y2⟩ := hq
    rw [ej, ep]
    show V 108 I2 J P _ _ []
    refine r_aload_n hV dX12_note_64 rfl rfl ?_
    refine r_dup hV dX12_note_65 rfl ?_
    refine r_getI hV dX12_note_66 fl_X12_177 (by first | decide | omega) (by first | rfl | assumption) ((congrFun (y2 78 (by omega)) 27).trans i271) ?_
    refine s_iconst hV dX12_note_69 (1) (by decide) ?_
    refine s_iadd hV dX12_note_70 ?_
    refine r_putI hV dX12_note_71 fl_X12_177 (pf_X12_177 _) (z_okI_int rfl _) (by first | decide | omega) (by first | rfl | assumption) ?_
    refine r_vret hV dX12_note_74 rfl rfl ?_
    have hk3 : ∀ k, k ≠ 27 → zu I2 78 (zu (I2 78) 27 (iI (m + 1))) 78 k = I1 78 k := fun k a => by rw [zu_s, zu_n _ _ a]; exact congrFun (y2 78 (by omega)) k
    have hq3 : ∀ p, p ≠ 78 → p ≠ 90 → zu I2 78 (zu (I2 78) 27 (iI (m + 1))) p = I1 p := fun p a b => by rw [zu_n _ _ a]; exact y2 p b
    have e27 : zu I2 78 (zu (I2 78) 27 (iI (m + 1))) 78 27 = iI (f_m16 c) := by rw [zu_s, zu_s, hmc]
    refine ⟨rfl, rfl, rfl, ?_, ?_, fun p a b => (hq3 p a b).trans (hf1 p a b), fun k a => (hk3 k a).trans (hk1 k a)⟩
    · exact mI_act hI1 (fun q a _ _ b => hq3 q a b) (fun k _ _ _ _ _ b => hk3 k b) ((hk3 _ (by omega)).trans i211) ((hk3 _ (by omega)).trans i221) ((hk3 _ (by omega)).trans i231) ((hk3 _ (by omega)).trans i241) e27 (z_ar_fr zA1 (hq3 _ (by omega) (by omega))) (z_ar_fr zN1 (hq3 _ (by omega) (by omega)))
    · rw [← hmc]
      intro i z a b g
      rw [zu_n _ _ (by omega)]
      cases i with
      | zero =>
        rw [show 28 * (m + 1 - 1 - ((0 : Nat) : Int)) + z = 28 * m + z by omega]
        exact z_ar14 y1 (by omega) (by omega) z b g
      | succ i =>
        rw [show 28 * (m + 1 - 1 - ((i + 1 : Nat) : Int)) + z = 28 * (m - 1 - (i : Int)) + z by omega]
        rw [z_ar14' y1 _ (by omega) (by omega)]
        exact hB1 i z (by omega) b g
  refine r_aload_n hV dX12_note_0 rfl rfl ?_
  refine r_getI hV dX12_note_1 fl_X12_177 (by first | decide | omega) (by first | rfl | assumption) i27 ?_
  refine s_bipush hV dX12_note_4 (16) (by decide) ?_
  refine s_icmp_ne hV 49 dX12_note_6 (by decide) (by unfold z_rg; first | omega | (split <;> omega)) (by unfold z_rg; first | omega | (split <;> omega)) (fun c6 => ?_) (fun c6 => ?_)
  · first
      | (refine r_kill hV 1 z_stk_2_1 ?_
         have h16 : c = 16 := by omega
         have ej : j = 420 := by omega
         subst ej
         have e27 : zu I1 78 (zu (I1 78) 27 (iI (c - 1))) 78 27 = iI (c - 1) := by rw [zu_s, zu_s]
         refine J49 _ (c - 1) (by omega) (by omega) (by unfold f_m16; rw [if_neg (by omega)]; omega) ?_ (fun i z a b g => ?_) (fun p a b => by rw [zu_n _ _ a]; exact hfr p b) (fun k a => by rw [zu_s, zu_n _ _ a]; exact congrFun (hfr 78 (by omega)) k)
         · have hk3 : ∀ k, k ≠ 27 → zu I1 78 (zu (I1 78) 27 (iI (c - 1))) 78 k = I 78 k := fun k a => by rw [zu_s, zu_n _ _ a]; exact congrFun (hfr 78 (by omega)) k
           have hq3 : ∀ p, p ≠ 78 → p ≠ 90 → zu I1 78 (zu (I1 78) 27 (iI (c - 1))) p = I p := fun p a b => by rw [zu_n _ _ a]; exact hfr p b
           exact mI_act hI (fun q a _ _ b => hq3 q a b) (fun k _ _ _ _ _ b => hk3 k b) ((hk3 _ (by omega)).trans i21) ((hk3 _ (by omega)).trans i22) ((hk3 _ (by omega)).trans i23) ((hk3 _ (by omega)).trans i24) e27 (z_ar_fr zA (hq3 _ (by omega) (by omega))) (z_ar_fr zN (hq3 _ (by omega) (by omega)))
         · rw [zu_n _ _ (by omega), hz _ (by omega) (by omega)]
           unfold f_s28
           rw [if_pos (by omega), ← hB i z (by omega) b g]
           unfold f_w0
           rw [← iI_of]
           congr 1
           omega)
      | (exact J49 I c hcb.1 (by omega) (by unfold f_m16; rw [if_pos (by omega)]) hI hB (fun _ _ _ => rfl) (fun _ _ => rfl))
  · refine s_iconst hV dX12_note_9 (0) (by decide) ?_
    refine r_istore_n hV dX12_note_10 (Nat.le_of_ble_eq_true rfl) (z_st1_2_1 rfl) ?_
    have L11 : ∀ (k11 j : Nat) (I1 : zI), 420 - j < k11 → j ≤ 420 → (z_ar I1 90 448 (f_s28 (j : Int) (f_w0 I 90))) → (∀ p, p ≠ 90 → I1 p = I p) → V 108 I1 J P 11 [.ref 78, .int (iI (j : Int))] [] := by
      intro k11
      induction k11 with
      | zero => intro j I1  hk1 hk2; omega
      | succ k11 ih11 =>
        intro j I1  hk11 hl11 hz hfr
        refine r_iload_n hV dX12_note_11 rfl ?_
        refine s_sipush hV dX12_note_12 (420) (by decide) ?_
        refine s_icmp_ge hV 39 dX12_note_15 (by decide) (by unfold z_rg; first | omega | (split <;> omega)) (by unfold z_rg; first | omega | (split <;> omega)) (fun c15 => ?_) (fun c15 => ?_)
        · refine r_aload_n hV dX12_note_39 rfl rfl ?_
          refine r_dup hV dX12_note_40 rfl ?_
          refine r_getI hV dX12_note_41 fl_X12_177 (by first | decide | omega) (by first | rfl | assumption) ((congrFun (hfr 78 (by omega)) 27).trans i27) ?_
          refine s_iconst hV dX12_note_44 (1) (by decide) ?_
          refine s_isub hV dX12_note_45 ?_
          refine r_putI hV dX12_note_46 fl_X12_177 (pf_X12_177 _) (z_okI_int rfl _) (by first | decide | omega) (by first | rfl | assumption) ?_
          first
            | (refine r_kill hV 1 z_stk_2_1 ?_
               have h16 : c = 16 := by omega
               have ej : j = 420 := by omega
               subst ej
               have e27 : zu I1 78 (zu (I1 78) 27 (iI (c - 1))) 78 27 = iI (c - 1) := by rw [zu_s, zu_s]
               refine J49 _ (c - 1) (by omega) (by omega) (by unfold f_m16; rw [if_neg (by omega)]; omega) ?_ (fun i z a b g => ?_) (fun p a b => by rw [zu_n _ _ a]; exact hfr p b) (fun k a => by rw [zu_s, zu_n _ _ a]; exact congrFun (hfr 78 (by omega)) k)
               · have hk3 : ∀ k, k ≠ 27 → zu I1 78 (zu (I1 78) 27 (iI (c - 1))) 78 k = I 78 k := fun k a => by rw [zu_s, zu_n _ _ a]; exact congrFun (hfr 78 (by omega)) k
                 have hq3 : ∀ p, p ≠ 78 → p ≠ 90 → zu I1 78 (zu (I1 78) 27 (iI (c - 1))) p = I p := fun p a b => by rw [zu_n _ _ a]; exact hfr p b
                 exact mI_act hI (fun q a _ _ b => hq3 q a b) (fun k _ _ _ _ _ b => hk3 k b) ((hk3 _ (by omega)).trans i21) ((hk3 _ (by omega)).trans i22) ((hk3 _ (by omega)).trans i23) ((hk3 _ (by omega)).trans i24) e27 (z_ar_fr zA (hq3 _ (by omega) (by omega))) (z_ar_fr zN (hq3 _ (by omega) (by omega)))
               · rw [zu_n _ _ (by omega), hz _ (by omega) (by omega)]
                 unfold f_s28
                 rw [if_pos (by omega), ← hB i z (by omega) b g]
                 unfold f_w0
                 rw [← iI_of]
                 congr 1
                 omega)
            | (exact J49 I c hcb.1 (by omega) (by unfold f_m16; rw [if_pos (by omega)]) hI hB (fun _ _ _ => rfl) (fun _ _ => rfl))
        · refine r_aload_n hV dX12_note_18 rfl rfl ?_
          refine r_getR hV dX12_note_19 fl_X12_47 (by first | decide | omega) (by first | rfl | assumption) o26 ?_
          refine r_iload_n hV dX12_note_22 rfl ?_
          refine r_aload_n hV dX12_note_23 rfl rfl ?_
          refine r_getR hV dX12_note_24 fl_X12_47 (by first | decide | omega) (by first | rfl | assumption) o26 ?_
          refine r_iload_n hV dX12_note_27 rfl ?_
          refine s_bipush hV dX12_note_28 (28) (by decide) ?_
          refine s_iadd hV dX12_note_30 ?_
          refine s_iaload hV dX12_note_31 (by first | decide | omega) (by first | rfl | assumption) (by decide) (by omega) (by omega) ((hz ((j : Int) + 28) (by omega) (by omega)).trans (congrArg iI (show f_s28 (j : Int) (f_w0 I 90) ((j : Int) + 28) = f_w0 I 90 ((j : Int) + 28) by unfold f_s28; rw [if_neg (by omega)]))) ?_
          refine s_iastore hV dX12_note_32 (by first | decide | omega) (by first | rfl | assumption) (by decide) (by omega) (by omega) ?_
          refine s_iinc hV dX12_note_33 rfl (z_st1_2_1 rfl) ?_
          refine r_goto hV 11 dX12_note_36 (by decide) ?_
          exact ih11 (j + 1) _ (by omega) (by omega) (z_ar_eq (z_ar_set hz (by omega) _) (fun z _ _ => f_s28_s z)) (fun p h => by rw [zu_n _ _ h]; exact hfr p h)
    exact L11 421 0 I (by omega) (by omega) (z_ar_eq (z_ar_any I 90 448) (fun z a _ => by unfold f_s28; rw [if_neg (by omega)]; rfl)) (fun p h => rfl)

