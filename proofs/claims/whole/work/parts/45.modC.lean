def f_lp (S : Int → Int) (f m : Int) (g : Int → Int) (z : Int) : Int := if f ≤ z ∧ z < f + m then S (z - f) else g z
theorem f_lp_s {S g : Int → Int} {f m : Int} (hm : 0 ≤ m) (z : Int) : zup (f_lp S f m g) (f + m) (S m) z = f_lp S f (m + 1) g z := by
  unfold zup f_lp
  split
  · next q => rw [if_pos (by omega), q, show f + m - f = m by omega]
  · next q =>
    by_cases h : f ≤ z ∧ z < f + m
    · rw [if_pos h, if_pos (by omega)]
    · rw [if_neg h, if_neg (by omega)]
theorem f_lp_0 {S g : Int → Int} {f : Int} (z : Int) : g z = f_lp S f 0 g z := by unfold f_lp; rw [if_neg (by omega)]
theorem z_ar_lp {I : zI} {q : Nat} {N : Int} {S g : Int → Int} {f m : Int} (h : z_ar I q N (f_lp S f m g)) (hf : 0 ≤ f) (hm : 0 ≤ m) : z_ar (zu I q (zu (I q) (f + m).toNat (iI (S m)))) q N (f_lp S f (m + 1) g) := z_ar_eq (z_ar_set h (by omega) _) (fun z _ _ => f_lp_s hm z)
def zpush (S : Int → Int) (H : Nat → Int → Int) : Nat → Int → Int
  | 0 => S
  | i + 1 => H i
def f_m16 (c : Int) : Int := if c < 16 then c + 1 else c
theorem mI_act {I I1 : zI} {tl st r c c2 : Int} {n e : Nat} {T F W U K S S2 : Int → Int} (h : mI I tl st r c n e T F W U K S) (hq : ∀ q, q ≠ 78 → q ≠ 88 → q ≠ 89 → q ≠ 90 → I1 q = I q) (hk : ∀ k, k ≠ 0 → k ≠ 21 → k ≠ 22 → k ≠ 23 → k ≠ 24 → k ≠ 27 → I1 78 k = I 78 k) (a21 : I1 78 21 = iI (S2 2)) (a22 : I1 78 22 = iI (S2 3)) (a23 : I1 78 23 = iI (S2 4)) (a24 : I1 78 24 = iI (S2 5)) (a27 : I1 78 27 = iI c2) (zA : z_ar I1 88 2 S2) (zN : z_ar I1 89 8 (fun z => S2 (6 + z))) : mI I1 tl st r c2 n e T F W U K S2 := by
  obtain ⟨⟨i2, i4, i5, i6, i8, i21, i22, i23, i24, i27⟩, zT, zF, zW, zU, zK, _, _⟩ := h
  exact ⟨⟨(hk _ (by omega) (by omega) (by omega) (by omega) (by omega) (by omega)).trans i2, (hk _ (by omega) (by omega) (by omega) (by omega) (by omega) (by omega)).trans i4, (hk _ (by omega) (by omega) (by omega) (by omega) (by omega) (by omega)).trans i5, (hk _ (by omega) (by omega) (by omega) (by omega) (by omega) (by omega)).trans i6, (hk _ (by omega) (by omega) (by omega) (by omega) (by omega) (by omega)).trans i8, a21, a22, a23, a24, a27⟩, z_ar_fr zT (hq _ (by omega) (by omega) (by omega) (by omega)), z_ar_fr zF (hq _ (by omega) (by omega) (by omega) (by omega)), z_ar_fr zW (hq _ (by omega) (by omega) (by omega) (by omega)), z_ar_fr zU (hq _ (by omega) (by omega) (by omega) (by omega)), z_ar_fr zK (hq _ (by omega) (by omega) (by omega) (by omega)), zA, zN⟩
theorem z_ar14 {I : zI} {q : Nat} {N f : Int} {S g : Int → Int} (h : z_ar I q N (f_lp S f 14 g)) (hf : 0 ≤ f) (hN : f + 14 ≤ N) : ∀ z : Int, 0 ≤ z → z < 14 → I q (f + z).toNat = iI (S z) := fun z a b => by
  rw [h _ (by omega) (by omega)]
  unfold f_lp
  rw [if_pos (by omega), show f + z - f = z by omega]
theorem z_ar14' {I I0 : zI} {q : Nat} {N f : Int} {S : Int → Int} (h : z_ar I q N (f_lp S f 14 (f_w0 I0 q))) : ∀ k : Nat, (k : Int) < N → ((k : Int) < f ∨ f + 14 ≤ k) → I q k = I0 q k := fun k a b => by
  have := h (k : Int) (by omega) a
  rw [Int.toNat_natCast] at this
  rw [this]
  unfold f_lp
  rw [if_neg (by omega)]
  exact (z_ar_any I0 q N (k : Int) (by omega) a).symm
def q_lay (q : Nat) (N : Int) (I : zI) (J : zJ) (P : zP) (f : Int) (S : Int → Int) (v : Option Value) (I1 : zI) (J1 : zJ) (P1 : zP) : Prop := v = none ∧ J1 = J ∧ P1 = P ∧ z_ar I1 q N (f_lp S f 14 (f_w0 I q)) ∧ ∀ p, p ≠ q → I1 p = I p
def q_take (I : zI) (J : zJ) (P : zP) (S : Int → Int) (v : Option Value) (I1 : zI) (J1 : zJ) (P1 : zP) : Prop := v = none ∧ J1 = J ∧ P1 = P ∧ (I1 78 21 = iI (S 2) ∧ I1 78 22 = iI (S 3) ∧ I1 78 23 = iI (S 4) ∧ I1 78 24 = iI (S 5)) ∧ z_ar I1 88 2 S ∧ z_ar I1 89 8 (fun z => S (6 + z)) ∧ (∀ p, p ≠ 78 → p ≠ 88 → p ≠ 89 → I1 p = I p) ∧ ∀ k, k ≠ 21 → k ≠ 22 → k ≠ 23 → k ≠ 24 → I1 78 k = I 78 k
set_option maxRecDepth 20000 in
theorem n_layPage90 (I : zI) (J : zJ) (P : zP) (hM : mK P) (tl st r c : Int) (n e : Nat) (T F W U K S : Int → Int) (hI : mI I tl st r c n e T F W U K S) (f : Int) (hf : 0 ≤ f ∧ f + 14 ≤ 448) : z_Sp 0 yX12_layPage cX12_layPage 4 none 108 108 I J P [.ref 78, .ref 90, .int (iI f)] (q_lay 90 448 I J P f S) := by
  obtain ⟨o1, o7, o9, o10, o11, o16, o17, o18, o19, o20, o25, o26, o28, o29, o30, o31, o36, o37, o38, o39, o40, o41, o42, o43, o44, o45, o46, o47, o48⟩ := id hM
  obtain ⟨⟨i2, i4, i5, i6, i8, i21, i22, i23, i24, i27⟩, zT, zF, zW, zU, zK, zA, zN⟩ := id hI
  have hz0 : z_ar I 90 448 (f_lp S f 0 (f_w0 I 90)) := z_ar_eq (z_ar_any I 90 448) (fun z _ _ => f_lp_0 (g := f_w0 I 90) z)
  refine z_met false (by decide +kernel) (fun h => by cases h) (Nat.le_of_ble_eq_true rfl) (by first | decide | omega) (fun V hV => ?_)
  show V 108 I J P 0 [.ref 78, .ref 90, .int (iI f), .null] []
  refine r_aload_n hV dX12_layPage_0 rfl rfl ?_
  refine r_iload_n hV dX12_layPage_1 rfl ?_
  refine r_aload_n hV dX12_layPage_2 rfl rfl ?_
  refine r_getR hV dX12_layPage_3 fl_X12_41 (by first | decide | omega) (by first | rfl | assumption) o20 ?_
  refine s_iconst hV dX12_layPage_6 (0) (by decide) ?_
  refine s_iaload hV dX12_layPage_7 (by first | decide | omega) (by first | rfl | assumption) (by decide) (by omega) (by omega) (zA 0 (by omega) (by omega)) ?_
  refine s_iastore hV dX12_layPage_8 (by first | decide | omega) (by first | rfl | assumption) (by decide) (by omega) (by omega) ?_
  have hz1 : z_ar (zu I 90 (zu (I 90) f.toNat (iI (S 0)))) 90 448 (f_lp S f 1 (f_w0 I 90)) := by have h := z_ar_lp hz0 hf.1 (show (0 : Int) ≤ 0 by omega); rwa [Int.add_zero] at h
  generalize hI1 : zu I (90) (zu (I 90) f.toNat (iI (S 0))) = I1
  have hfI1 : ∀ q, q ≠ 90 → I1 q = I q := fun q h => by rw [← hI1]; exact zu_n _ _ h
  rw [hI1] at hz1
  have fr1 : ∀ p, p ≠ 90 → I1 p = I p := fun p h => hfI1 p h
  clear hI1 hfI1
  refine r_aload_n hV dX12_layPage_9 rfl rfl ?_
  refine r_iload_n hV dX12_layPage_10 rfl ?_
  refine s_iconst hV dX12_layPage_11 (1) (by decide) ?_
  refine s_iadd hV dX12_layPage_12 ?_
  refine r_aload_n hV dX12_layPage_13 rfl rfl ?_
  refine r_getR hV dX12_layPage_14 fl_X12_41 (by first | decide | omega) (by first | rfl | assumption) o20 ?_
  refine s_iconst hV dX12_layPage_17 (1) (by decide) ?_
  refine s_iaload hV dX12_layPage_18 (by first | decide | omega) (by first | rfl | assumption) (by decide) (by omega) (by omega) ((congrFun (fr1 88 (by omega)) _).trans (zA 1 (by omega) (by omega))) ?_
  refine s_iastore hV dX12_layPage_19 (by first | decide | omega) (by first | rfl | assumption) (by decide) (by omega) (by omega) ?_
  have hz2 : z_ar (zu I1 90 (zu (I1 90) (f + 1).toNat (iI (S 1)))) 90 448 (f_lp S f 2 (f_w0 I 90)) := by have h := z_ar_lp hz1 hf.1 (show (0 : Int) ≤ 1 by omega); exact h
  generalize hI2 : zu I1 (90) (zu (I1 90) (f + 1).toNat (iI (S 1))) = I2
  have hfI2 : ∀ q, q ≠ 90 → I2 q = I1 q := fun q h => by rw [← hI2]; exact zu_n _ _ h
  rw [hI2] at hz2
  have fr2 : ∀ p, p ≠ 90 → I2 p = I p := fun p h => (hfI2 p h).trans (fr1 p h)
  clear hI2 hfI2
  refine r_aload_n hV dX12_layPage_20 rfl rfl ?_
  refine r_iload_n hV dX12_layPage_21 rfl ?_
  refine s_iconst hV dX12_layPage_22 (2) (by decide) ?_
  refine s_iadd hV dX12_layPage_23 ?_
  refine r_aload_n hV dX12_layPage_24 rfl rfl ?_
  refine r_getI hV dX12_layPage_25 fl_X12_165 (by first | decide | omega) (by first | rfl | assumption) ((congrFun (fr2 78 (by omega)) 21).trans i21) ?_
  refine s_iastore hV dX12_layPage_28 (by first | decide | omega) (by first | rfl | assumption) (by decide) (by omega) (by omega) ?_
  have hz3 : z_ar (zu I2 90 (zu (I2 90) (f + 2).toNat (iI (S 2)))) 90 448 (f_lp S f 3 (f_w0 I 90)) := by have h := z_ar_lp hz2 hf.1 (show (0 : Int) ≤ 2 by omega); exact h
  generalize hI3 : zu I2 (90) (zu (I2 90) (f + 2).toNat (iI (S 2))) = I3
  have hfI3 : ∀ q, q ≠ 90 → I3 q = I2 q := fun q h => by rw [← hI3]; exact zu_n _ _ h
  rw [hI3] at hz3
  have fr3 : ∀ p, p ≠ 90 → I3 p = I p := fun p h => (hfI3 p h).trans (fr2 p h)
  clear hI3 hfI3
  refine r_aload_n hV dX12_layPage_29 rfl rfl ?_
  refine r_iload_n hV dX12_layPage_30 rfl ?_
  refine s_iconst hV dX12_layPage_31 (3) (by decide) ?_
  refine s_iadd hV dX12_layPage_32 ?_
  refine r_aload_n hV dX12_layPage_33 rfl rfl ?_
  refine r_getI hV dX12_layPage_34 fl_X12_168 (by first | decide | omega) (by first | rfl | assumption) ((congrFun (fr3 78 (by omega)) 22).trans i22) ?_
  refine s_iastore hV dX12_layPage_37 (by first | decide | omega) (by first | rfl | assumption) (by decide) (by omega) (by omega) ?_
  have hz4 : z_ar (zu I3 90 (zu (I3 90) (f + 3).toNat (iI (S 3)))) 90 448 (f_lp S f 4 (f_w0 I 90)) := by have h := z_ar_lp hz3 hf.1 (show (0 : Int) ≤ 3 by omega); exact h
  generalize hI4 : zu I3 (90) (zu (I3 90) (f + 3).toNat (iI (S 3))) = I4
  have hfI4 : ∀ q, q ≠ 90 → I4 q = I3 q := fun q h => by rw [← hI4]; exact zu_n _ _ h
  rw [hI4] at hz4
  have fr4 : ∀ p, p ≠ 90 → I4 p = I p := fun p h => (hfI4 p h).trans (fr3 p h)
  clear hI4 hfI4
  refine r_aload_n hV dX12_layPage_38 rfl rfl ?_
  refine r_iload_n hV dX12_layPage_39 rfl ?_
  refine s_iconst hV dX12_layPage_40 (4) (by decide) ?_
  refine s_iadd hV dX12_layPage_41 ?_
  refine r_aload_n hV dX12_layPage_42 rfl rfl ?_
  refine r_getI hV dX12_layPage_43 fl_X12_171 (by first | decide | omega) (by first | rfl | assumption) ((congrFun (fr4 78 (by omega)) 23).trans i23) ?_
  refine s_iastore hV dX12_layPage_46 (by first | decide | omega) (by first | rfl | assumption) (by decide) (by omega) (by omega) ?_
  have hz5 : z_ar (zu I4 90 (zu (I4 90) (f + 4).toNat (iI (S 4)))) 90 448 (f_lp S f 5 (f_w0 I 90)) := by have h := z_ar_lp hz4 hf.1 (show (0 : Int) ≤ 4 by omega); exact h
  generalize hI5 : zu I4 (90) (zu (I4 90) (f + 4).toNat (iI (S 4))) = I5
  have hfI5 : ∀ q, q ≠ 90 → I5 q = I4 q := fun q h => by rw [← hI5]; exact zu_n _ _ h
  rw [hI5] at hz5
  have fr5 : ∀ p, p ≠ 90 → I5 p = I p := fun p h => (hfI5 p h).trans (fr4 p h)
  clear hI5 hfI5
  refine r_aload_n hV dX12_layPage_47 rfl rfl ?_
  refine r_iload_n hV dX12_layPage_48 rfl ?_
  refine s_iconst hV dX12_layPage_49 (5) (by decide) ?_
  refine s_iadd hV dX12_layPage_50 ?_
  refine r_aload_n hV dX12_layPage_51 rfl rfl ?_
  refine r_getI hV dX12_layPage_52 fl_X12_174 (by first | decide | omega) (by first | rfl | assumption) ((congrFun (fr5 78 (by omega)) 24).trans i24) ?_
  refine s_iastore hV dX12_layPage_55 (by first | decide | omega) (by first | rfl | assumption) (by decide) (by omega) (by omega) ?_
  have hz6 : z_ar (zu I5 90 (zu (I5 90) (f + 5).toNat (iI (S 5)))) 90 448 (f_lp S f 6 (f_w0 I 90)) := by have h := z_ar_lp hz5 hf.1 (show (0 : Int) ≤ 5 by omega); exact h
  generalize hI6 : zu I5 (90) (zu (I5 90) (f + 5).toNat (iI (S 5))) = I6
  have hfI6 : ∀ q, q ≠ 90 → I6 q = I5 q := fun q h => by rw [← hI6]; exact zu_n _ _ h
  rw [hI6] at hz6
  have fr6 : ∀ p, p ≠ 90 → I6 p = I p := fun p h => (hfI6 p h).trans (fr5 p h)
  clear hI6 hfI6
  refine s_iconst hV dX12_layPage_56 (0) (by decide) ?_
  refine r_istore_n hV dX12_layPage_57 (Nat.le_of_ble_eq_true rfl) (z_st1_4_3 rfl) ?_
  have L58 : ∀ (k58 j : Nat) (I1 : zI), 8 - j < k58 → j ≤ 8 → (z_ar I1 90 448 (f_lp S f (6 + (j : Int)) (f_w0 I 90))) → (∀ p, p ≠ 90 → I1 p = I p) → V 108 I1 J P 58 [.ref 78, .ref 90, .int (iI f), .int (iI (j : Int))] [] := by
    intro k58
    induction k58 with
    | zero => intro j I1  hk1 hk2; omega
    | succ k58 ih58 =>
      intro j I1  hk58 hl58 hz hfr
      refine r_iload_n hV dX12_layPage_58 rfl ?_
      refine s_bipush hV dX12_layPage_59 (8) (by decide) ?_
      refine s_icmp_ge hV 84 dX12_layPage_61 (by decide) (by unfold z_rg; first | omega | (split <;> omega)) (by unfold z_rg; first | omega | (split <;> omega)) (fun c61 => ?_) (fun c61 => ?_)
      · refine r_vret hV dX12_layPage_84 rfl rfl ?_
        rw [show j = 8 by omega] at hz
        exact ⟨rfl, rfl, rfl, hz, hfr⟩
      · refine r_aload_n hV dX12_layPage_64 rfl rfl ?_
        refine r_iload_n hV dX12_layPage_65 rfl ?_
        refine s_bipush hV dX12_layPage_66 (6) (by decide) ?_
        refine s_iadd hV dX12_layPage_68 ?_
        refine r_iload_n hV dX12_layPage_69 rfl ?_
        refine s_iadd hV dX12_layPage_70 ?_
        refine r_aload_n hV dX12_layPage_71 rfl rfl ?_
        refine r_getR hV dX12_layPage_72 fl_X12_44 (by first | decide | omega) (by first | rfl | assumption) o25 ?_
        refine r_iload_n hV dX12_layPage_75 rfl ?_
        refine s_iaload hV dX12_layPage_76 (by first | decide | omega) (by first | rfl | assumption) (by decide) (by omega) (by omega) (show I1 89 (j : Int).toNat = iI (S (6 + (j : Int))) from (congrFun (hfr 89 (by omega)) _).trans (zN (j : Int) (by omega) (by omega))) ?_
        refine s_iastore hV dX12_layPage_77 (by first | decide | omega) (by first | rfl | assumption) (by decide) (by omega) (by omega) ?_
        refine s_iinc hV dX12_layPage_78 rfl (z_st1_4_3 rfl) ?_
        refine r_goto hV 58 dX12_layPage_81 (by decide) ?_
        exact ih58 (j + 1) _ (by omega) (by omega) (by have h := z_ar_lp hz hf.1 (show (0 : Int) ≤ 6 + (j : Int) by omega); rw [show f + (6 + (j : Int)) = f + 6 + (j : Int) by omega, show 6 + (j : Int) + 1 = 6 + ((j + 1 : Nat) : Int) by omega] at h; exact h) (fun p h => by rw [zu_n _ _ h]; exact hfr p h)
  exact L58 9 0 I6 (by omega) (by omega) hz6 fr6

set_option maxRecDepth 20000 in
theorem n_layPage91 (I : zI) (J : zJ) (P : zP) (hM : mK P) (tl st r c : Int) (n e : Nat) (T F W U K S : Int → Int) (hI : mI I tl st r c n e T F W U K S) (f : Int) (hf : 0 ≤ f ∧ f + 14 ≤ 56) : z_Sp 0 yX12_layPage cX12_layPage 4 none 108 108 I J P [.ref 78, .ref 91, .int (iI f)] (q_lay 91 56 I J P f S) := by
  obtain ⟨o1, o7, o9, o10, o11, o16, o17, o18, o19, o20, o25, o26, o28, o29, o30, o31, o36, o37, o38, o39, o40, o41, o42, o43, o44, o45, o46, o47, o48⟩ := id hM
  obtain ⟨⟨i2, i4, i5, i6, i8, i21, i22, i23, i24, i27⟩, zT, zF, zW, zU, zK, zA, zN⟩ := id hI
  have hz0 : z_ar I 91 56 (f_lp S f 0 (f_w0 I 91)) := z_ar_eq (z_ar_any I 91 56) (fun z _ _ => f_lp_0 (g := f_w0 I 91) z)
  refine z_met false (by decide +kernel) (fun h => by cases h) (Nat.le_of_ble_eq_true rfl) (by first | decide | omega) (fun V hV => ?_)
  show V 108 I J P 0 [.ref 78, .ref 91, .int (iI f), .null] []
  refine r_aload_n hV dX12_layPage_0 rfl rfl ?_
  refine r_iload_n hV dX12_layPage_1 rfl ?_
  refine r_aload_n hV dX12_layPage_2 rfl rfl ?_
  refine r_getR hV dX12_layPage_3 fl_X12_41 (by first | decide | omega) (by first | rfl | assumption) o20 ?_
  refine s_iconst hV dX12_layPage_6 (0) (by decide) ?_
  refine s_iaload hV dX12_layPage_7 (by first | decide | omega) (by first | rfl | assumption) (by decide) (by omega) (by omega) (zA 0 (by omega) (by omega)) ?_
  refine s_iastore hV dX12_layPage_8 (by first | decide | omega) (by first | rfl | assumption) (by decide) (by omega) (by omega) ?_
  have hz1 : z_ar (zu I 91 (zu (I 91) f.toNat (iI (S 0)))) 91 56 (f_lp S f 1 (f_w0 I 91)) := by have h := z_ar_lp hz0 hf.1 (show (0 : Int) ≤ 0 by omega); rwa [Int.add_zero] at h
  generalize hI1 : zu I (91) (zu (I 91) f.toNat (iI (S 0))) = I1
  have hfI1 : ∀ q, q ≠ 91 → I1 q = I q := fun q h => by rw [← hI1]; exact zu_n _ _ h
  rw [hI1] at hz1
  have fr1 : ∀ p, p ≠ 91 → I1 p = I p := fun p h => hfI1 p h
  clear hI1 hfI1
  refine r_aload_n hV dX12_layPage_9 rfl rfl ?_
  refine r_iload_n hV dX12_layPage_10 rfl ?_
  refine s_iconst hV dX12_layPage_11 (1) (by decide) ?_
  refine s_iadd hV dX12_layPage_12 ?_
  refine r_aload_n hV dX12_layPage_13 rfl rfl ?_
  refine r_getR hV dX12_layPage_14 fl_X12_41 (by first | decide | omega) (by first | rfl | assumption) o20 ?_
  refine s_iconst hV dX12_layPage_17 (1) (by decide) ?_
  refine s_iaload hV dX12_layPage_18 (by first | decide | omega) (by first | rfl | assumption) (by decide) (by omega) (by omega) ((congrFun (fr1 88 (by omega)) _).trans (zA 1 (by omega) (by omega))) ?_
  refine s_iastore hV dX12_layPage_19 (by first | decide | omega) (by first | rfl | assumption) (by decide) (by omega) (by omega) ?_
  have hz2 : z_ar (zu I1 91 (zu (I1 91) (f + 1).toNat (iI (S 1)))) 91 56 (f_lp S f 2 (f_w0 I 91)) := by have h := z_ar_lp hz1 hf.1 (show (0 : Int) ≤ 1 by omega); exact h
  generalize hI2 : zu I1 (91) (zu (I1 91) (f + 1).toNat (iI (S 1))) = I2
  have hfI2 : ∀ q, q ≠ 91 → I2 q = I1 q := fun q h => by rw [← hI2]; exact zu_n _ _ h
  rw [hI2] at hz2
  have fr2 : ∀ p, p ≠ 91 → I2 p = I p := fun p h => (hfI2 p h).trans (fr1 p h)
  clear hI2 hfI2
  refine r_aload_n hV dX12_layPage_20 rfl rfl ?_
  refine r_iload_n hV dX12_layPage_21 rfl ?_
  refine s_iconst hV dX12_layPage_22 (2) (by decide) ?_
  refine s_iadd hV dX12_layPage_23 ?_
  refine r_aload_n hV dX12_layPage_24 rfl rfl ?_
  refine r_getI hV dX12_layPage_25 fl_X12_165 (by first | decide | omega) (by first | rfl | assumption) ((congrFun (fr2 78 (by omega)) 21).trans i21) ?_
  refine s_iastore hV dX12_layPage_28 (by first | decide | omega) (by first | rfl | assumption) (by decide) (by omega) (by omega) ?_
  have hz3 : z_ar (zu I2 91 (zu (I2 91) (f + 2).toNat (iI (S 2)))) 91 56 (f_lp S f 3 (f_w0 I 91)) := by have h := z_ar_lp hz2 hf.1 (show (0 : Int) ≤ 2 by omega); exact h
  generalize hI3 : zu I2 (91) (zu (I2 91) (f + 2).toNat (iI (S 2))) = I3
  have hfI3 : ∀ q, q ≠ 91 → I3 q = I2 q := fun q h => by rw [← hI3]; exact zu_n _ _ h
  rw [hI3] at hz3
  have fr3 : ∀ p, p ≠ 91 → I3 p = I p := fun p h => (hfI3 p h).trans (fr2 p h)
  clear hI3 hfI3
  refine r_aload_n hV dX12_layPage_29 rfl rfl ?_
  refine r_iload_n hV dX12_layPage_30 rfl ?_
  refine s_iconst hV dX12_layPage_31 (3) (by decide) ?_
  refine s_iadd hV dX12_layPage_32 ?_
  refine r_aload_n hV dX12_layPage_33 rfl rfl ?_
  refine r_getI hV dX12_layPage_34 fl_X12_168 (by first | decide | omega) (by first | rfl | assumption) ((congrFun (fr3 78 (by omega)) 22).trans i22) ?_
  refine s_iastore hV dX12_layPage_37 (by first | decide | omega) (by first | rfl | assumption) (by decide) (by omega) (by omega) ?_
  have hz4 : z_ar (zu I3 91 (zu (I3 91) (f + 3).toNat (iI (S 3)))) 91 56 (f_lp S f 4 (f_w0 I 91)) := by have h := z_ar_lp hz3 hf.1 (show (0 : Int) ≤ 3 by omega); exact h
  generalize hI4 : zu I3 (91) (zu (I3 91) (f + 3).toNat (iI (S 3))) = I4
  have hfI4 : ∀ q, q ≠ 91 → I4 q = I3 q := fun q h => by rw [← hI4]; exact zu_n _ _ h
  rw [hI4] at hz4
  have fr4 : ∀ p, p ≠ 91 → I4 p = I p := fun p h => (hfI4 p h).trans (fr3 p h)
  clear hI4 hfI4
  refine r_aload_n hV dX12_layPage_38 rfl rfl ?_
  refine r_iload_n hV dX12_layPage_39 rfl ?_
  refine s_iconst hV dX12_layPage_40 (4) (by decide) ?_
  refine s_iadd hV dX12_layPage_41 ?_
  refine r_aload_n hV dX12_layPage_42 rfl rfl ?_
  refine r_getI hV dX12_layPage_43 fl_X12_171 (by first | decide | omega) (by first | rfl | assumption) ((congrFun (fr4 78 (by omega)) 23).trans i23) ?_
  refine s_iastore hV dX12_layPage_46 (by first | decide | omega) (by first | rfl | assumption) (by decide) (by omega) (by omega) ?_
  have hz5 : z_ar (zu I4 91 (zu (I4 91) (f + 4).toNat (iI (S 4)))) 91 56 (f_lp S f 5 (f_w0 I 91)) := by have h := z_ar_lp hz4 hf.1 (show (0 : Int) ≤ 4 by omega); exact h
  generalize hI5 : zu I4 (91) (zu (I4 91) (f + 4).toNat (iI (S 4))) = I5
  have hfI5 : ∀ q, q ≠ 91 → I5 q = I4 q := fun q h => by rw [← hI5]; exact zu_n _ _ h
  rw [hI5] at hz5
  have fr5 : ∀ p, p ≠ 91 → I5 p = I p := fun p h => (hfI5 p h).trans (fr4 p h)
  clear hI5 hfI5
  refine r_aload_n hV dX12_layPage_47 rfl rfl ?_
  refine r_iload_n hV dX12_layPage_48 rfl ?_
  refine s_iconst hV dX12_layPage_49 (5) (by decide) ?_
  refine s_iadd hV dX12_layPage_50 ?_
  refine r_aload_n hV dX12_layPage_51 rfl rfl ?_
  refine r_getI hV dX12_layPage_52 fl_X12_174 (by first | decide | omega) (by first | rfl | assumption) ((congrFun (fr5 78 (by omega)) 24).trans i24) ?_
  refine s_iastore hV dX12_layPage_55 (by first | decide | omega) (by first | rfl | assumption) (by decide) (by omega) (by omega) ?_
  have hz6 : z_ar (zu I5 91 (zu (I5 91) (f + 5).toNat (iI (S 5)))) 91 56 (f_lp S f 6 (f_w0 I 91)) := by have h := z_ar_lp hz5 hf.1 (show (0 : Int) ≤ 5 by omega); exact h
  generalize hI6 : zu I5 (91) (zu (I5 91) (f + 5).toNat (iI (S 5))) = I6
  have hfI6 : ∀ q, q ≠ 91 → I6 q = I5 q := fun q h => by rw [← hI6]; exact zu_n _ _ h
  rw [hI6] at hz6
  have fr6 : ∀ p, p ≠ 91 → I6 p = I p := fun p h => (hfI6 p h).trans (fr5 p h)
  clear hI6 hfI6
  refine s_iconst hV dX12_layPage_56 (0) (by decide) ?_
  refine r_istore_n hV dX12_layPage_57 (Nat.le_of_ble_eq_true rfl) (z_st1_4_3 rfl) ?_
  have L58 : ∀ (k58 j : Nat) (I1 : zI), 8 - j < k58 → j ≤ 8 → (z_ar I1 91 56 (f_lp S f (6 + (j : Int)) (f_w0 I 91))) → (∀ p, p ≠ 91 → I1 p = I p) → V 108 I1 J P 58 [.ref 78, .ref 91, .int (iI f), .int (iI (j : Int))] [] := by
    intro k58
    induction k58 with
    | zero => intro j I1  hk1 hk2; omega
    | succ k58 ih58 =>
      intro j I1  hk58 hl58 hz hfr
      refine r_iload_n hV dX12_layPage_58 rfl ?_
      refine s_bipush hV dX12_layPage_59 (8) (by decide) ?_
      refine s_icmp_ge hV 84 dX12_layPage_61 (by decide) (by unfold z_rg; first | omega | (split <;> omega)) (by unfold z_rg; first | omega | (split <;> omega)) (fun c61 => ?_) (fun c61 => ?_)
      · refine r_vret hV dX12_layPage_84 rfl rfl ?_
        rw [show j = 8 by omega] at hz
        exact ⟨rfl, rfl, rfl, hz, hfr⟩
      · refine r_aload_n hV dX12_layPage_64 rfl rfl ?_
        refine r_iload_n hV dX12_layPage_65 rfl ?_
        refine s_bipush hV dX12_layPage_66 (6) (by decide) ?_
        refine s_iadd hV dX12_layPage_68 ?_
        refine r_iload_n hV dX12_layPage_69 rfl ?_
        refine s_iadd hV dX12_layPage_70 ?_
        refine r_aload_n hV dX12_layPage_71 rfl rfl ?_
        refine r_getR hV dX12_layPage_72 fl_X12_44 (by first | decide | omega) (by first | rfl | assumption) o25 ?_
        refine r_iload_n hV dX12_layPage_75 rfl ?_
        refine s_iaload hV dX12_layPage_76 (by first | decide | omega) (by first | rfl | assumption) (by decide) (by omega) (by omega) (show I1 89 (j : Int).toNat = iI (S (6 + (j : Int))) from (congrFun (hfr 89 (by omega)) _).trans (zN (j : Int) (by omega) (by omega))) ?_
        refine s_iastore hV dX12_layPage_77 (by first | decide | omega) (by first | rfl | assumption) (by decide) (by omega) (by omega) ?_
        refine s_iinc hV dX12_layPage_78 rfl (z_st1_4_3 rfl) ?_
        refine r_goto hV 58 dX12_layPage_81 (by decide) ?_
        exact ih58 (j + 1) _ (by omega) (by omega) (by have h := z_ar_lp hz hf.1 (show (0 : Int) ≤ 6 + (j : Int) by omega); rw [show f + (6 + (j : Int)) = f + 6 + (j : Int) by omega, show 6 + (j : Int) + 1 = 6 + ((j + 1 : Nat) : Int) by omega] at h; exact h) (fun p h => by rw [zu_n _ _ h]; exact hfr p h)
  exact L58 9 0 I6 (by omega) (by omega) hz6 fr6

set_option maxRecDepth 20000 in
theorem n_takePage90 (I : zI) (J : zJ) (P : zP) (hM : mK P) (S : Int → Int) (f : Int) (hf : 0 ≤ f ∧ f + 14 ≤ 448) (hH : ∀ z : Int, 0 ≤ z → z < 14 → I 90 (f + z).toNat = iI (S z)) : z_Sp 0 yX12_takePage cX12_takePage 4 none 108 108 I J P [.ref 78, .ref 90, .int (iI f)] (q_take I J P S) := by
  obtain ⟨o1, o7, o9, o10, o11, o16, o17, o18, o19, o20, o25, o26, o28, o29, o30, o31, o36, o37, o38, o39, o40, o41, o42, o43, o44, o45, o46, o47, o48⟩ := id hM
  have h0h := hH 0 (by omega) (by omega)
  have h1h := hH 1 (by omega) (by omega)
  have h2h := hH 2 (by omega) (by omega)
  have h3h := hH 3 (by omega) (by omega)
  have h4h := hH 4 (by omega) (by omega)
  have h5h := hH 5 (by omega) (by omega)
  rw [Int.add_zero] at h0h
  refine z_met false (by decide +kernel) (fun h => by cases h) (Nat.le_of_ble_eq_true rfl) (by first | decide | omega) (fun V hV => ?_)
  show V 108 I J P 0 [.ref 78, .ref 90, .int (iI f), .null] []
  refine r_aload_n hV dX12_takePage_0 rfl rfl ?_
  refine r_getR hV dX12_takePage_1 fl_X12_41 (by first | decide | omega) (by first | rfl | assumption) o20 ?_
  refine s_iconst hV dX12_takePage_4 (0) (by decide) ?_
  refine r_aload_n hV dX12_takePage_5 rfl rfl ?_
  refine r_iload_n hV dX12_takePage_6 rfl ?_
  refine s_iaload hV dX12_takePage_7 (by first | decide | omega) (by first | rfl | assumption) (by decide) (by omega) (by omega) h0h ?_
  refine s_iastore hV dX12_takePage_8 (by first | decide | omega) (by first | rfl | assumption) (by decide) (by omega) (by omega) ?_
  have za1 : ∀ z : Int, 0 ≤ z → z < 1 → zu I 88 (zu (I 88) (0 : Int).toNat (iI (S 0))) 88 z.toNat = iI (S z) := fun z a b => by rw [show z = 0 by omega, zu_s, zu_s]
  generalize hI1 : zu I (88) (zu (I 88) (0 : Int).toNat (iI (S 0))) = I1
  have hfI1 : ∀ q, q ≠ 88 → I1 q = I q := fun q h => by rw [← hI1]; exact zu_n _ _ h
  rw [hI1] at za1
  clear hI1
  refine r_aload_n hV dX12_takePage_9 rfl rfl ?_
  refine r_getR hV dX12_takePage_10 fl_X12_41 (by first | decide | omega) (by first | rfl | assumption) o20 ?_
  refine s_iconst hV dX12_takePage_13 (1) (by decide) ?_
  refine r_aload_n hV dX12_takePage_14 rfl rfl ?_
  refine r_iload_n hV dX12_takePage_15 rfl ?_
  refine s_iconst hV dX12_takePage_16 (1) (by decide) ?_
  refine s_iadd hV dX12_takePage_17 ?_
  refine s_iaload hV dX12_takePage_18 (by first | decide | omega) (by first | rfl | assumption) (by decide) (by omega) (by omega) ((congrFun (hfI1 _ (by omega)) _).trans h1h) ?_
  refine s_iastore hV dX12_takePage_19 (by first | decide | omega) (by first | rfl | assumption) (by decide) (by omega) (by omega) ?_
  have za2 : z_ar (zu I1 88 (zu (I1 88) (1 : Int).toNat (iI (S 1)))) 88 2 S := fun z a b => by
    rcases (show z = 0 ∨ z = 1 by omega) with rfl | rfl
    · rw [zu_s, zu_n _ _ (by decide)]; exact za1 0 (by omega) (by omega)
    · rw [zu_s, zu_s]
  generalize hI2 : zu I1 (88) (zu (I1 88) (1 : Int).toNat (iI (S 1))) = I2
  have hfI2 : ∀ q, q ≠ 88 → I2 q = I1 q := fun q h => by rw [← hI2]; exact zu_n _ _ h
  rw [hI2] at za2
  clear hI2
  have fr2 : ∀ p, p ≠ 88 → I2 p = I p := fun p h => (hfI2 p h).trans (hfI1 p h)
  have fq2 : ∀ p, p ≠ 78 → p ≠ 88 → I2 p = I p := fun p _ h => fr2 p h
  have fk2 : ∀ k, I2 78 k = I 78 k := fun k => congrFun (fr2 78 (by omega)) k
  refine r_aload_n hV dX12_takePage_20 rfl rfl ?_
  refine r_aload_n hV dX12_takePage_21 rfl rfl ?_
  refine r_iload_n hV dX12_takePage_22 rfl ?_
  refine s_iconst hV dX12_takePage_23 (2) (by decide) ?_
  refine s_iadd hV dX12_takePage_24 ?_
  refine s_iaload hV dX12_takePage_25 (by first | decide | omega) (by first | rfl | assumption) (by decide) (by omega) (by omega) ((congrFun (fq2 90 (by omega) (by omega)) _).trans h2h) ?_
  refine r_putI hV dX12_takePage_26 fl_X12_165 (pf_X12_165 _) (z_okI_int rfl _) (by first | decide | omega) (by first | rfl | assumption) ?_
  generalize hg3 : zu I2 78 (zu (I2 78) 21 (iI (S 2))) = I3
  have fq3 : ∀ p, p ≠ 78 → p ≠ 88 → I3 p = I p := fun p a b => by rw [← hg3, zu_n _ _ a]; exact fq2 p a b
  have e388 : I3 88 = I2 88 := by rw [← hg3, zu_n _ _ (by omega)]
  have w3_21 : I3 78 21 = iI (S 2) := by rw [← hg3, zu_s, zu_s]
  have fk3 : ∀ k, k ≠ 21 → I3 78 k = I 78 k := fun k a21 => by rw [← hg3, zu_s, zu_n _ _ a21]; exact fk2 k
  clear hg3
  refine r_aload_n hV dX12_takePage_29 rfl rfl ?_
  refine r_aload_n hV dX12_takePage_30 rfl rfl ?_
  refine r_iload_n hV dX12_takePage_31 rfl ?_
  refine s_iconst hV dX12_takePage_32 (3) (by decide) ?_
  refine s_iadd hV dX12_takePage_33 ?_
  refine s_iaload hV dX12_takePage_34 (by first | decide | omega) (by first | rfl | assumption) (by decide) (by omega) (by omega) ((congrFun (fq3 90 (by omega) (by omega)) _).trans h3h) ?_
  refine r_putI hV dX12_takePage_35 fl_X12_168 (pf_X12_168 _) (z_okI_int rfl _) (by first | decide | omega) (by first | rfl | assumption) ?_
  generalize hg4 : zu I3 78 (zu (I3 78) 22 (iI (S 3))) = I4
  have fq4 : ∀ p, p ≠ 78 → p ≠ 88 → I4 p = I p := fun p a b => by rw [← hg4, zu_n _ _ a]; exact fq3 p a b
  have e488 : I4 88 = I2 88 := by rw [← hg4, zu_n _ _ (by omega)]; exact e388
  have w4_22 : I4 78 22 = iI (S 3) := by rw [← hg4, zu_s, zu_s]
  have w4_21 : I4 78 21 = iI (S 2) := by rw [← hg4, zu_s, zu_n _ _ (by omega)]; exact w3_21
  have fk4 : ∀ k, k ≠ 21 → k ≠ 22 → I4 78 k = I 78 k := fun k a21 a22 => by rw [← hg4, zu_s, zu_n _ _ a22]; exact fk3 k a21
  clear hg4
  refine r_aload_n hV dX12_takePage_38 rfl rfl ?_
  refine r_aload_n hV dX12_takePage_39 rfl rfl ?_
  refine r_iload_n hV dX12_takePage_40 rfl ?_
  refine s_iconst hV dX12_takePage_41 (4) (by decide) ?_
  refine s_iadd hV dX12_takePage_42 ?_
  refine s_iaload hV dX12_takePage_43 (by first | decide | omega) (by first | rfl | assumption) (by decide) (by omega) (by omega) ((congrFun (fq4 90 (by omega) (by omega)) _).trans h4h) ?_
  refine r_putI hV dX12_takePage_44 fl_X12_171 (pf_X12_171 _) (z_okI_int rfl _) (by first | decide | omega) (by first | rfl | assumption) ?_
  generalize hg5 : zu I4 78 (zu (I4 78) 23 (iI (S 4))) = I5
  have fq5 : ∀ p, p ≠ 78 → p ≠ 88 → I5 p = I p := fun p a b => by rw [← hg5, zu_n _ _ a]; exact fq4 p a b
  have e588 : I5 88 = I2 88 := by rw [← hg5, zu_n _ _ (by omega)]; exact e488
  have w5_23 : I5 78 23 = iI (S 4) := by rw [← hg5, zu_s, zu_s]
  have w5_21 : I5 78 21 = iI (S 2) := by rw [← hg5, zu_s, zu_n _ _ (by omega)]; exact w4_21
  have w5_22 : I5 78 22 = iI (S 3) := by rw [← hg5, zu_s, zu_n _ _ (by omega)]; exact w4_22
  have fk5 : ∀ k, k ≠ 21 → k ≠ 22 → k ≠ 23 → I5 78 k = I 78 k := fun k a21 a22 a23 => by rw [← hg5, zu_s, zu_n _ _ a23]; exact fk4 k a21 a22
  clear hg5
  refine r_aload_n hV dX12_takePage_47 rfl rfl ?_
  refine r_aload_n hV dX12_takePage_48 rfl rfl ?_
  refine r_iload_n hV dX12_takePage_49 rfl ?_
  refine s_iconst hV dX12_takePage_50 (5) (by decide) ?_
  refine s_iadd hV dX12_takePage_51 ?_
  refine s_iaload hV dX12_takePage_52 (by first | decide | omega) (by first | rfl | assumption) (by decide) (by omega) (by omega) ((congrFun (fq5 90 (by omega) (by omega)) _).trans h5h) ?_
  refine r_putI hV dX12_takePage_53 fl_X12_174 (pf_X12_174 _) (z_okI_int rfl _) (by first | decide | omega) (by first | rfl | assumption) ?_
  generalize hg6 : zu I5 78 (zu (I5 78) 24 (iI (S 5))) = I6
  have fq6 : ∀ p, p ≠ 78 → p ≠ 88 → I6 p = I p := fun p a b => by rw [← hg6, zu_n _ _ a]; exact fq5 p a b
  have e688 : I6 88 = I2 88 := by rw [← hg6, zu_n _ _ (by omega)]; exact e588
  have w6_24 : I6 78 24 = iI (S 5) := by rw [← hg6, zu_s, zu_s]
  have w6_21 : I6 78 21 = iI (S 2) := by rw [← hg6, zu_s, zu_n _ _ (by omega)]; exact w5_21
  have w6_22 : I6 78 22 = iI (S 3) := by rw [← hg6, zu_s, zu_n _ _ (by omega)]; exact w5_22
  have w6_23 : I6 78 23 = iI (S 4) := by rw [← hg6, zu_s, zu_n _ _ (by omega)]; exact w5_23
  have fk6 : ∀ k, k ≠ 21 → k ≠ 22 → k ≠ 23 → k ≠ 24 → I6 78 k = I 78 k := fun k a21 a22 a23 a24 => by rw [← hg6, zu_s, zu_n _ _ a24]; exact fk5 k a21 a22 a23
  clear hg6
  refine s_iconst hV dX12_takePage_56 (0) (by decide) ?_
  refine r_istore_n hV dX12_takePage_57 (Nat.le_of_ble_eq_true rfl) (z_st1_4_3 rfl) ?_
  have L58 : ∀ (k58 j : Nat) (I1 : zI), 8 - j < k58 → j ≤ 8 → (z_ar I1 89 (j : Int) (fun z => S (6 + z))) → (∀ p, p ≠ 89 → I1 p = I6 p) → V 108 I1 J P 58 [.ref 78, .ref 90, .int (iI f), .int (iI (j : Int))] [] := by
    intro k58
    induction k58 with
    | zero => intro j I1  hk1 hk2; omega
    | succ k58 ih58 =>
      intro j I1  hk58 hl58 hz hfr
      refine r_iload_n hV dX12_takePage_58 rfl ?_
      refine s_bipush hV dX12_takePage_59 (8) (by decide) ?_
      refine s_icmp_ge hV 84 dX12_takePage_61 (by decide) (by unfold z_rg; first | omega | (split <;> omega)) (by unfold z_rg; first | omega | (split <;> omega)) (fun c61 => ?_) (fun c61 => ?_)
      · refine r_vret hV dX12_takePage_84 rfl rfl ?_
        rw [show j = 8 by omega] at hz
        have e78 : I1 78 = I6 78 := hfr 78 (by omega)
        exact ⟨rfl, rfl, rfl, ⟨by rw [e78]; exact w6_21, by rw [e78]; exact w6_22, by rw [e78]; exact w6_23, by rw [e78]; exact w6_24⟩, z_ar_fr za2 ((hfr 88 (by omega)).trans e688), hz, fun p a b g => (hfr p g).trans (fq6 p a b), fun k a b g h => by rw [e78]; exact fk6 k a b g h⟩
      · refine r_aload_n hV dX12_takePage_64 rfl rfl ?_
        refine r_getR hV dX12_takePage_65 fl_X12_44 (by first | decide | omega) (by first | rfl | assumption) o25 ?_
        refine r_iload_n hV dX12_takePage_68 rfl ?_
        refine r_aload_n hV dX12_takePage_69 rfl rfl ?_
        refine r_iload_n hV dX12_takePage_70 rfl ?_
        refine s_bipush hV dX12_takePage_71 (6) (by decide) ?_
        refine s_iadd hV dX12_takePage_73 ?_
        refine r_iload_n hV dX12_takePage_74 rfl ?_
        refine s_iadd hV dX12_takePage_75 ?_
        refine s_iaload hV dX12_takePage_76 (by first | decide | omega) (by first | rfl | assumption) (by decide) (by omega) (by omega) (show I1 90 (f + 6 + (j : Int)).toNat = iI ((fun z => S (6 + z)) (j : Int)) from ((congrFun (hfr 90 (by omega)) _).trans (congrFun (fq6 90 (by omega) (by omega)) _)).trans (by rw [show f + 6 + (j : Int) = f + (6 + (j : Int)) by omega]; exact hH (6 + (j : Int)) (by omega) (by omega))) ?_
        refine s_iastore hV dX12_takePage_77 (by first | decide | omega) (by first | rfl | assumption) (by decide) (by omega) (by omega) ?_
        refine s_iinc hV dX12_takePage_78 rfl (z_st1_4_3 rfl) ?_
        refine r_goto hV 58 dX12_takePage_81 (by decide) ?_
        exact ih58 (j + 1) _ (by omega) (by omega) (z_ar_push (f := fun z => S (6 + z)) hz) (fun p h => by rw [zu_n _ _ h]; exact hfr p h)
  exact L58 9 0 I6 (by omega) (by omega) z_ar_0 (fun p h => rfl)

set_option maxRecDepth 20000 in
theorem n_takePage91 (I : zI) (J : zJ) (P : zP) (hM : mK P) (S : Int → Int) (f : Int) (hf : 0 ≤ f ∧ f + 14 ≤ 56) (hH : ∀ z : Int, 0 ≤ z → z < 14 → I 91 (f + z).toNat = iI (S z)) : z_Sp 0 yX12_takePage cX12_takePage 4 none 108 108 I J P [.ref 78, .ref 91, .int (iI f)] (q_take I J P S) := by
  obtain ⟨o1, o7, o9, o10, o11, o16, o17, o18, o19, o20, o25, o26, o28, o29, o30, o31, o36, o37, o38, o39, o40, o41, o42, o43, o44, o45, o46, o47, o48⟩ := id hM
  have h0h := hH 0 (by omega) (by omega)
  have h1h := hH 1 (by omega) (by omega)
  have h2h := hH 2 (by omega) (by omega)
  have h3h := hH 3 (by omega) (by omega)
  have h4h := hH 4 (by omega) (by omega)
  have h5h := hH 5 (by omega) (by omega)
  rw [Int.add_zero] at h0h
  refine z_met false (by decide +kernel) (fun h => by cases h) (Nat.le_of_ble_eq_true rfl) (by first | decide | omega) (fun V hV => ?_)
  show V 108 I J P 0 [.ref 78, .ref 91, .int (iI f), .null] []
  refine r_aload_n hV dX12_takePage_0 rfl rfl ?_
  refine r_getR hV dX12_takePage_1 fl_X12_41 (by first | decide | omega) (by first | rfl | assumption) o20 ?_
  refine s_iconst hV dX12_takePage_4 (0) (by decide) ?_
  refine r_aload_n hV dX12_takePage_5 rfl rfl ?_
  refine r_iload_n hV dX12_takePage_6 rfl ?_
  refine s_iaload hV dX12_takePage_7 (by first | decide | omega) (by first | rfl | assumption) (by decide) (by omega) (by omega) h0h ?_
  refine s_iastore hV dX12_takePage_8 (by first | decide | omega) (by first | rfl | assumption) (by decide) (by omega) (by omega) ?_
  have za1 : ∀ z : Int, 0 ≤ z → z < 1 → zu I 88 (zu (I 88) (0 : Int).toNat (iI (S 0))) 88 z.toNat = iI (S z) := fun z a b => by rw [show z = 0 by omega, zu_s, zu_s]
  generalize hI1 : zu I (88) (zu (I 88) (0 : Int).toNat (iI (S 0))) = I1
  have hfI1 : ∀ q, q ≠ 88 → I1 q = I q := fun q h => by rw [← hI1]; exact zu_n _ _ h
  rw [hI1] at za1
  clear hI1
  refine r_aload_n hV dX12_takePage_9 rfl rfl ?_
  refine r_getR hV dX12_takePage_10 fl_X12_41 (by first | decide | omega) (by first | rfl | assumption) o20 ?_
  refine s_iconst hV dX12_takePage_13 (1) (by decide) ?_
  refine r_aload_n hV dX12_takePage_14 rfl rfl ?_
  refine r_iload_n hV dX12_takePage_15 rfl ?_
  refine s_iconst hV dX12_takePage_16 (1) (by decide) ?_
  refine s_iadd hV dX12_takePage_17 ?_
  refine s_iaload hV dX12_takePage_18 (by first | decide | omega) (by first | rfl | assumption) (by decide) (by omega) (by omega) ((congrFun (hfI1 _ (by omega)) _).trans h1h) ?_
  refine s_iastore hV dX12_takePage_19 (by first | decide | omega) (by first | rfl | assumption) (by decide) (by omega) (by omega) ?_
  have za2 : z_ar (zu I1 88 (zu (I1 88) (1 : Int).toNat (iI (S 1)))) 88 2 S := fun z a b => by
    rcases (show z = 0 ∨ z = 1 by omega) with rfl | rfl
    · rw [zu_s, zu_n _ _ (by decide)]; exact za1 0 (by omega) (by omega)
    · rw [zu_s, zu_s]
  generalize hI2 : zu I1 (88) (zu (I1 88) (1 : Int).toNat (iI (S 1))) = I2
  have hfI2 : ∀ q, q ≠ 88 → I2 q = I1 q := fun q h => by rw [← hI2]; exact zu_n _ _ h
  rw [hI2] at za2
  clear hI2
  have fr2 : ∀ p, p ≠ 88 → I2 p = I p := fun p h => (hfI2 p h).trans (hfI1 p h)
  have fq2 : ∀ p, p ≠ 78 → p ≠ 88 → I2 p = I p := fun p _ h => fr2 p h
  have fk2 : ∀ k, I2 78 k = I 78 k := fun k => congrFun (fr2 78 (by omega)) k
  refine r_aload_n hV dX12_takePage_20 rfl rfl ?_
  refine r_aload_n hV dX12_takePage_21 rfl rfl ?_
  refine r_iload_n hV dX12_takePage_22 rfl ?_
  refine s_iconst hV dX12_takePage_23 (2) (by decide) ?_
  refine s_iadd hV dX12_takePage_24 ?_
  refine s_iaload hV dX12_takePage_25 (by first | decide | omega) (by first | rfl | assumption) (by decide) (by omega) (by omega) ((congrFun (fq2 91 (by omega) (by omega)) _).trans h2h) ?_
  refine r_putI hV dX12_takePage_26 fl_X12_165 (pf_X12_165 _) (z_okI_int rfl _) (by first | decide | omega) (by first | rfl | assumption) ?_
  generalize hg3 : zu I2 78 (zu (I2 78) 21 (iI (S 2))) = I3
  have fq3 : ∀ p, p ≠ 78 → p ≠ 88 → I3 p = I p := fun p a b => by rw [← hg3, zu_n _ _ a]; exact fq2 p a b
  have e388 : I3 88 = I2 88 := by rw [← hg3, zu_n _ _ (by omega)]
  have w3_21 : I3 78 21 = iI (S 2) := by rw [← hg3, zu_s, zu_s]
  have fk3 : ∀ k, k ≠ 21 → I3 78 k = I 78 k := fun k a21 => by rw [← hg3, zu_s, zu_n _ _ a21]; exact fk2 k
  clear hg3
  refine r_aload_n hV dX12_takePage_29 rfl rfl ?_
  refine r_aload_n hV dX12_takePage_30 rfl rfl ?_
  refine r_iload_n hV dX12_takePage_31 rfl ?_
  refine s_iconst hV dX12_takePage_32 (3) (by decide) ?_
  refine s_iadd hV dX12_takePage_33 ?_
  refine s_iaload hV dX12_takePage_34 (by first | decide | omega) (by first | rfl | assumption) (by decide) (by omega) (by omega) ((congrFun (fq3 91 (by omega) (by omega)) _).trans h3h) ?_
  refine r_putI hV dX12_takePage_35 fl_X12_168 (pf_X12_168 _) (z_okI_int rfl _) (by first | decide | omega) (by first | rfl | assumption) ?_
  generalize hg4 : zu I3 78 (zu (I3 78) 22 (iI (S 3))) = I4
  have fq4 : ∀ p, p ≠ 78 → p ≠ 88 → I4 p = I p := fun p a b => by rw [← hg4, zu_n _ _ a]; exact fq3 p a b
  have e488 : I4 88 = I2 88 := by rw [← hg4, zu_n _ _ (by omega)]; exact e388
  have w4_22 : I4 78 22 = iI (S 3) := by rw [← hg4, zu_s, zu_s]
  have w4_21 : I4 78 21 = iI (S 2) := by rw [← hg4, zu_s, zu_n _ _ (by omega)]; exact w3_21
  have fk4 : ∀ k, k ≠ 21 → k ≠ 22 → I4 78 k = I 78 k := fun k a21 a22 => by rw [← hg4, zu_s, zu_n _ _ a22]; exact fk3 k a21
  clear hg4
  refine r_aload_n hV dX12_takePage_38 rfl rfl ?_
  refine r_aload_n hV dX12_takePage_39 rfl rfl ?_
  refine r_iload_n hV dX12_takePage_40 rfl ?_
  refine s_iconst hV dX12_takePage_41 (4) (by decide) ?_
  refine s_iadd hV dX12_takePage_42 ?_
  refine s_iaload hV dX12_takePage_43 (by first | decide | omega) (by first | rfl | assumption) (by decide) (by omega) (by omega) ((congrFun (fq4 91 (by omega) (by omega)) _).trans h4h) ?_
  refine r_putI hV dX12_takePage_44 fl_X12_171 (pf_X12_171 _) (z_okI_int rfl _) (by first | decide | omega) (by first | rfl | assumption) ?_
  generalize hg5 : zu I4 78 (zu (I4 78) 23 (iI (S 4))) = I5
  have fq5 : ∀ p, p ≠ 78 → p ≠ 88 → I5 p = I p := fun p a b => by rw [← hg5, zu_n _ _ a]; exact fq4 p a b
  have e588 : I5 88 = I2 88 := by rw [← hg5, zu_n _ _ (by omega)]; exact e488
  have w5_23 : I5 78 23 = iI (S 4) := by rw [← hg5, zu_s, zu_s]
  have w5_21 : I5 78 21 = iI (S 2) := by rw [← hg5, zu_s, zu_n _ _ (by omega)]; exact w4_21
  have w5_22 : I5 78 22 = iI (S 3) := by rw [← hg5, zu_s, zu_n _ _ (by omega)]; exact w4_22
  have fk5 : ∀ k, k ≠ 21 → k ≠ 22 → k ≠ 23 → I5 78 k = I 78 k := fun k a21 a22 a23 => by rw [← hg5, zu_s, zu_n _ _ a23]; exact fk4 k a21 a22
  clear hg5
  refine r_aload_n hV dX12_takePage_47 rfl rfl ?_
  refine r_aload_n hV dX12_takePage_48 rfl rfl ?_
  refine r_iload_n hV dX12_takePage_49 rfl ?_
  refine s_iconst hV dX12_takePage_50 (5) (by decide) ?_
  refine s_iadd hV dX12_takePage_51 ?_
  refine s_iaload hV dX12_takePage_52 (by first | decide | omega) (by first | rfl | assumption) (by decide) (by omega) (by omega) ((congrFun (fq5 91 (by omega) (by omega)) _).trans h5h) ?_
  refine r_putI hV dX12_takePage_53 fl_X12_174 (pf_X12_174 _) (z_okI_int rfl _) (by first | decide | omega) (by first | rfl | assumption) ?_
  generalize hg6 : zu I5 78 (zu (I5 78) 24 (iI (S 5))) = I6
  have fq6 : ∀ p, p ≠ 78 → p ≠ 88 → I6 p = I p := fun p a b => by rw [← hg6, zu_n _ _ a]; exact fq5 p a b
  have e688 : I6 88 = I2 88 := by rw [← hg6, zu_n _ _ (by omega)]; exact e588
  have w6_24 : I6 78 24 = iI (S 5) := by rw [← hg6, zu_s, zu_s]
  have w6_21 : I6 78 21 = iI (S 2) := by rw [← hg6, zu_s, zu_n _ _ (by omega)]; exact w5_21
  have w6_22 : I6 78 22 = iI (S 3) := by rw [← hg6, zu_s, zu_n _ _ (by omega)]; exact w5_22
  have w6_23 : I6 78 23 = iI (S 4) := by rw [← hg6, zu_s, zu_n _ _ (by omega)]; exact w5_23
  have fk6 : ∀ k, k ≠ 21 → k ≠ 22 → k ≠ 23 → k ≠ 24 → I6 78 k = I 78 k := fun k a21 a22 a23 a24 => by rw [← hg6, zu_s, zu_n _ _ a24]; exact fk5 k a21 a22 a23
  clear hg6
  refine s_iconst hV dX12_takePage_56 (0) (by decide) ?_
  refine r_istore_n hV dX12_takePage_57 (Nat.le_of_ble_eq_true rfl) (z_st1_4_3 rfl) ?_
  have L58 : ∀ (k58 j : Nat) (I1 : zI), 8 - j < k58 → j ≤ 8 → (z_ar I1 89 (j : Int) (fun z => S (6 + z))) → (∀ p, p ≠ 89 → I1 p = I6 p) → V 108 I1 J P 58 [.ref 78, .ref 91, .int (iI f), .int (iI (j : Int))] [] := by
    intro k58
    induction k58 with
    | zero => intro j I1  hk1 hk2; omega
    | succ k58 ih58 =>
      intro j I1  hk58 hl58 hz hfr
      refine r_iload_n hV dX12_takePage_58 rfl ?_
      refine s_bipush hV dX12_takePage_59 (8) (by decide) ?_
      refine s_icmp_ge hV 84 dX12_takePage_61 (by decide) (by unfold z_rg; first | omega | (split <;> omega)) (by unfold z_rg; first | omega | (split <;> omega)) (fun c61 => ?_) (fun c61 => ?_)
      · refine r_vret hV dX12_takePage_84 rfl rfl ?_
        rw [show j = 8 by omega] at hz
        have e78 : I1 78 = I6 78 := hfr 78 (by omega)
        exact ⟨rfl, rfl, rfl, ⟨by rw [e78]; exact w6_21, by rw [e78]; exact w6_22, by rw [e78]; exact w6_23, by rw [e78]; exact w6_24⟩, z_ar_fr za2 ((hfr 88 (by omega)).trans e688), hz, fun p a b g => (hfr p g).trans (fq6 p a b), fun k a b g h => by rw [e78]; exact fk6 k a b g h⟩
      · refine r_aload_n hV dX12_takePage_64 rfl rfl ?_
        refine r_getR hV dX12_takePage_65 fl_X12_44 (by first | decide | omega) (by first | rfl | assumption) o25 ?_
        refine r_iload_n hV dX12_takePage_68 rfl ?_
        refine r_aload_n hV dX12_takePage_69 rfl rfl ?_
        refine r_iload_n hV dX12_takePage_70 rfl ?_
        refine s_bipush hV dX12_takePage_71 (6) (by decide) ?_
        refine s_iadd hV dX12_takePage_73 ?_
        refine r_iload_n hV dX12_takePage_74 rfl ?_
        refine s_iadd hV dX12_takePage_75 ?_
        refine s_iaload hV dX12_takePage_76 (by first | decide | omega) (by first | rfl | assumption) (by decide) (by omega) (by omega) (show I1 91 (f + 6 + (j : Int)).toNat = iI ((fun z => S (6 + z)) (j : Int)) from ((congrFun (hfr 91 (by omega)) _).trans (congrFun (fq6 91 (by omega) (by omega)) _)).trans (by rw [show f + 6 + (j : Int) = f + (6 + (j : Int)) by omega]; exact hH (6 + (j : Int)) (by omega) (by omega))) ?_
        refine s_iastore hV dX12_takePage_77 (by first | decide | omega) (by first | rfl | assumption) (by decide) (by omega) (by omega) ?_
        refine s_iinc hV dX12_takePage_78 rfl (z_st1_4_3 rfl) ?_
        refine r_goto hV 58 dX12_takePage_81 (by decide) ?_
        exact ih58 (j + 1) _ (by omega) (by omega) (z_ar_push (f := fun z => S (6 + z)) hz) (fun p h => by rw [zu_n _ _ h]; exact hfr p h)
  exact L58 9 0 I6 (by omega) (by omega) z_ar_0 (fun p h => rfl)

