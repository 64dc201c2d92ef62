theorem zb_15 {z : Int} (h0 : -1 ≤ z) (h : z < 32) : iI z &&& iI 15 = iI (z % 16) := by
  have key : ∀ m : Nat, m < 33 → iI ((m : Int) - 1) &&& iI 15 = iI (((m : Int) - 1) % 16) := by decide +kernel
  have := key (z + 1).toNat (by omega)
  rwa [show (((z + 1).toNat : Nat) : Int) - 1 = z by omega] at this
/-- the ring's rows, and the slots' -/
def zAc (P : zP) : Prop := P 5 0 = some 6 ∧ (∀ z : Int, 0 ≤ z → z < 16 → P 6 z.toNat = some (7 + 2 * z.toNat)) ∧ ∀ z : Int, 0 ≤ z → z < 16 → zStn P (7 + 2 * z.toNat)
def zSl (P : zP) : Prop := P 39 0 = some 40 ∧ P 39 1 = some 41 ∧ (∀ z : Int, 0 ≤ z → z < 2 → P 40 z.toNat = some (42 + 2 * z.toNat)) ∧ ∀ z : Int, 0 ≤ z → z < 2 → zStn P (42 + 2 * z.toNat)
def q_rem (I : zI) (J : zJ) (P : zP) (c nx : Int) (S : Int → Int) (v : Option Value) (I1 : zI) (J1 : zJ) (P1 : zP) : Prop := v = none ∧ J1 = J ∧ P1 = P ∧ I1 5 1 = iI (if c < 16 then c + 1 else c) ∧ I1 5 2 = iI ((nx + 1) % 16) ∧ cSt I1 (7 + 2 * nx.toNat) S ∧ ∀ q, q ≠ 5 → q ≠ 7 + 2 * nx.toNat → q ≠ 8 + 2 * nx.toNat → I1 q = I q
set_option maxRecDepth 20000 in
theorem m_remember (I : zI) (J : zJ) (P : zP) (hA : zAc P) (h3 : zStn P 3) (c nx : Int) (hc : I 5 1 = iI c) (hnx : I 5 2 = iI nx) (hcb : 0 ≤ c ∧ c ≤ 16) (hxb : 0 ≤ nx ∧ nx < 16) (S : Int → Int) (hS : cSt I 3 S) : z_Sp 1 yX0_remember cX0_remember 2 none 108 108 I J P [.ref 5, .ref 3] (q_rem I J P c nx S) := by
  obtain ⟨p50, p6, st6⟩ := id hA
  refine z_met false (by decide +kernel) (fun h => by cases h) (Nat.le_of_ble_eq_true rfl) (by first | decide | omega) (fun V hV => ?_)
  show V 108 I J P 0 [.ref 5, .ref 3] []
  refine r_aload_n hV dX0_remember_0 rfl rfl ?_
  refine r_getR hV dX0_remember_1 fl_X0_11 (by first | decide | omega) (by first | rfl | assumption) (by first | assumption | rfl) ?_
  refine r_aload_n hV dX0_remember_4 rfl rfl ?_
  refine r_getI hV dX0_remember_5 fl_X0_18 (by first | decide | omega) (by first | rfl | assumption) hnx ?_
  refine s_bipush hV dX0_remember_8 (15) (by decide) ?_
  refine s_iand hV dX0_remember_10 (zb_15 (by omega) (by omega)) ?_
  rw [show nx % 16 = nx by omega]
  refine s_aaload hV dX0_remember_11 (by first | decide | omega) (by first | rfl | assumption) (by decide) (by omega) (by omega) (p6 _ (by omega) (by omega)) ?_
  refine r_aload_n hV dX0_remember_12 rfl rfl ?_
  refine r_iv1 hV dX0_remember_13 mv_X0_22 (m_copyOf I J P (7 + 2 * nx.toNat) (st6 nx (by omega) (by omega)) 3 h3 (by omega) S hS) (by first | decide | omega) (st6 nx (by omega) (by omega)).2.1 (by decide) (Nat.le_refl _) (Nat.le_of_ble_eq_true rfl) (fun v I1 J1 P1 hq => ?_)
  obtain ⟨rfl, ej, ep, e1, e2⟩ := hq
  rw [ej, ep]
  show V 108 I1 J P _ _ []
  have hc1 : I1 5 1 = iI c := (congrFun (e2 5 (by omega) (by omega)) 1).trans hc
  have hx1 : I1 5 2 = iI nx := (congrFun (e2 5 (by omega) (by omega)) 2).trans hnx
  refine r_aload_n hV dX0_remember_16 rfl rfl ?_
  refine r_aload_n hV dX0_remember_17 rfl rfl ?_
  refine r_getI hV dX0_remember_18 fl_X0_18 (by first | decide | omega) (by first | rfl | assumption) hx1 ?_
  refine s_iconst hV dX0_remember_21 (1) (by decide) ?_
  refine s_iadd hV dX0_remember_22 ?_
  refine s_bipush hV dX0_remember_23 (15) (by decide) ?_
  refine s_iand hV dX0_remember_25 (zb_15 (by omega) (by omega)) ?_
  refine r_putI hV dX0_remember_26 fl_X0_18 (pf_X0_18 _) (z_okI_int rfl _) (by first | decide | omega) (by first | rfl | assumption) ?_
  generalize hI2 : zu I1 (5) (zu (I1 5) 2 (iI ((nx + 1) % 16))) = I2
  have hfI2 : ∀ q, q ≠ 5 → I2 q = I1 q := fun q h => by rw [← hI2]; exact zu_n _ _ h
  have hc2 : I2 5 1 = iI c := by rw [← hI2, zu_s, zu_n _ _ (by omega)]; exact hc1
  have hx2 : I2 5 2 = iI ((nx + 1) % 16) := by rw [← hI2, zu_s, zu_s]
  refine r_aload_n hV dX0_remember_29 rfl rfl ?_
  refine r_getI hV dX0_remember_30 fl_X0_26 (by first | decide | omega) (by first | rfl | assumption) hc2 ?_
  refine s_bipush hV dX0_remember_33 (16) (by decide) ?_
  refine s_icmp_ge hV 48 dX0_remember_35 (by decide) (by unfold z_rg; first | omega | (split <;> omega)) (by unfold z_rg; first | omega | (split <;> omega)) (fun c35 => ?_) (fun c35 => ?_)
  · refine r_vret hV dX0_remember_48 rfl rfl ?_
    first
      | (rw [q_rem, if_neg (by omega)]
         exact ⟨rfl, rfl, rfl, hc2, hx2, cSt_fr e1 (hfI2 _ (by omega)) (hfI2 _ (by omega)), fun q a b d => (hfI2 q a).trans (e2 q b (by omega))⟩)
      | (rw [q_rem, if_pos (by omega)]
         exact ⟨rfl, rfl, rfl, by rw [zu_s, zu_s], by rw [zu_s, zu_n _ _ (by omega)]; exact hx2, cSt_fr e1 (by rw [zu_n _ _ (by omega)]; exact hfI2 _ (by omega)) (by rw [zu_n _ _ (by omega)]; exact hfI2 _ (by omega)), fun q a b d => by rw [zu_n _ _ a]; exact (hfI2 q a).trans (e2 q b (by omega))⟩)
  · refine r_aload_n hV dX0_remember_38 rfl rfl ?_
    refine r_dup hV dX0_remember_39 rfl ?_
    refine r_getI hV dX0_remember_40 fl_X0_26 (by first | decide | omega) (by first | rfl | assumption) hc2 ?_
    refine s_iconst hV dX0_remember_43 (1) (by decide) ?_
    refine s_iadd hV dX0_remember_44 ?_
    refine r_putI hV dX0_remember_45 fl_X0_26 (pf_X0_26 _) (z_okI_int rfl _) (by first | decide | omega) (by first | rfl | assumption) ?_
    refine r_vret hV dX0_remember_48 rfl rfl ?_
    first
      | (rw [q_rem, if_neg (by omega)]
         exact ⟨rfl, rfl, rfl, hc2, hx2, cSt_fr e1 (hfI2 _ (by omega)) (hfI2 _ (by omega)), fun q a b d => (hfI2 q a).trans (e2 q b (by omega))⟩)
      | (rw [q_rem, if_pos (by omega)]
         exact ⟨rfl, rfl, rfl, by rw [zu_s, zu_s], by rw [zu_s, zu_n _ _ (by omega)]; exact hx2, cSt_fr e1 (by rw [zu_n _ _ (by omega)]; exact hfI2 _ (by omega)) (by rw [zu_n _ _ (by omega)]; exact hfI2 _ (by omega)), fun q a b d => by rw [zu_n _ _ a]; exact (hfI2 q a).trans (e2 q b (by omega))⟩)

def q_tlb (I : zI) (J : zJ) (P : zP) (c nx : Int) (S : Int → Int) (v : Option Value) (I1 : zI) (J1 : zJ) (P1 : zP) : Prop := v = none ∧ J1 = J ∧ P1 = P ∧ I1 5 1 = iI (c - 1) ∧ I1 5 2 = iI ((nx - 1) % 16) ∧ cSt I1 3 S ∧ ∀ q, q ≠ 5 → q ≠ 3 → q ≠ 4 → I1 q = I q
set_option maxRecDepth 20000 in
theorem m_takeLast (I : zI) (J : zJ) (P : zP) (hA : zAc P) (h3 : zStn P 3) (c nx : Int) (hc : I 5 1 = iI c) (hnx : I 5 2 = iI nx) (hcb : 0 ≤ c ∧ c ≤ 16) (hxb : 0 ≤ nx ∧ nx < 16) (hc1 : 1 ≤ c) (S : Int → Int) (hS : cSt I (7 + 2 * ((nx - 1) % 16).toNat) S) : z_Sp 1 yX0_takeLastBack cX0_takeLastBack 2 none 108 108 I J P [.ref 5, .ref 3] (q_tlb I J P c nx S) := by
  obtain ⟨p50, p6, st6⟩ := id hA
  refine z_met false (by decide +kernel) (fun h => by cases h) (Nat.le_of_ble_eq_true rfl) (by first | decide | omega) (fun V hV => ?_)
  show V 108 I J P 0 [.ref 5, .ref 3] []
  refine r_aload_n hV dX0_takeLastBack_0 rfl rfl ?_
  refine r_getI hV dX0_takeLastBack_1 fl_X0_26 (by first | decide | omega) (by first | rfl | assumption) hc ?_
  refine s_iconst hV dX0_takeLastBack_4 (1) (by decide) ?_
  refine s_icmp_ge hV 9 dX0_takeLastBack_5 (by decide) (by unfold z_rg; first | omega | (split <;> omega)) (by unfold z_rg; first | omega | (split <;> omega)) (fun _ => ?_) (fun c5 => absurd (by omega) c5)
  refine r_aload_n hV dX0_takeLastBack_9 rfl rfl ?_
  refine r_aload_n hV dX0_takeLastBack_10 rfl rfl ?_
  refine r_getI hV dX0_takeLastBack_11 fl_X0_18 (by first | decide | omega) (by first | rfl | assumption) hnx ?_
  refine s_iconst hV dX0_takeLastBack_14 (1) (by decide) ?_
  refine s_isub hV dX0_takeLastBack_15 ?_
  refine s_bipush hV dX0_takeLastBack_16 (15) (by decide) ?_
  refine s_iand hV dX0_takeLastBack_18 (zb_15 (by omega) (by omega)) ?_
  refine r_putI hV dX0_takeLastBack_19 fl_X0_18 (pf_X0_18 _) (z_okI_int rfl _) (by first | decide | omega) (by first | rfl | assumption) ?_
  generalize hI2 : zu I (5) (zu (I 5) 2 (iI ((nx - 1) % 16))) = I2
  have hfI2 : ∀ q, q ≠ 5 → I2 q = I q := fun q h => by rw [← hI2]; exact zu_n _ _ h
  have hc2 : I2 5 1 = iI c := by rw [← hI2, zu_s, zu_n _ _ (by omega)]; exact hc
  have hx2 : I2 5 2 = iI ((nx - 1) % 16) := by rw [← hI2, zu_s, zu_s]
  refine r_aload_n hV dX0_takeLastBack_22 rfl rfl ?_
  refine r_aload_n hV dX0_takeLastBack_23 rfl rfl ?_
  refine r_getR hV dX0_takeLastBack_24 fl_X0_11 (by first | decide | omega) (by first | rfl | assumption) (by first | assumption | rfl) ?_
  refine r_aload_n hV dX0_takeLastBack_27 rfl rfl ?_
  refine r_getI hV dX0_takeLastBack_28 fl_X0_18 (by first | decide | omega) (by first | rfl | assumption) hx2 ?_
  refine s_aaload hV dX0_takeLastBack_31 (by first | decide | omega) (by first | rfl | assumption) (by decide) (by omega) (by omega) (p6 _ (by omega) (by omega)) ?_
  refine r_iv1 hV dX0_takeLastBack_32 mv_X0_22 (m_copyOf I2 J P 3 h3 (7 + 2 * ((nx - 1) % 16).toNat) (st6 _ (by omega) (by omega)) (by omega) S (cSt_fr hS (hfI2 _ (by omega)) (hfI2 _ (by omega)))) (by first | decide | omega) h3.2.1 (by decide) (Nat.le_refl _) (Nat.le_of_ble_eq_true rfl) (fun v I1 J1 P1 hq => ?_)
  obtain ⟨rfl, ej, ep, e1, e2⟩ := hq
  rw [ej, ep]
  show V 108 I1 J P _ _ []
  have hc3 : I1 5 1 = iI c := (congrFun (e2 5 (by omega) (by omega)) 1).trans hc2
  have hx3 : I1 5 2 = iI ((nx - 1) % 16) := (congrFun (e2 5 (by omega) (by omega)) 2).trans hx2
  refine r_aload_n hV dX0_takeLastBack_35 rfl rfl ?_
  refine r_dup hV dX0_takeLastBack_36 rfl ?_
  refine r_getI hV dX0_takeLastBack_37 fl_X0_26 (by first | decide | omega) (by first | rfl | assumption) hc3 ?_
  refine s_iconst hV dX0_takeLastBack_40 (1) (by decide) ?_
  refine s_isub hV dX0_takeLastBack_41 ?_
  refine r_putI hV dX0_takeLastBack_42 fl_X0_26 (pf_X0_26 _) (z_okI_int rfl _) (by first | decide | omega) (by first | rfl | assumption) ?_
  refine r_vret hV dX0_takeLastBack_45 rfl rfl ?_
  exact ⟨rfl, rfl, rfl, by rw [zu_s, zu_s], by rw [zu_s, zu_n _ _ (by omega)]; exact hx3, cSt_fr e1 (zu_n _ _ (by omega)) (zu_n _ _ (by omega)), fun q a b d => by rw [zu_n _ _ a, e2 q b d, hfI2 q a]⟩

set_option maxRecDepth 20000 in
theorem m_aforget (I : zI) (J : zJ) (P : zP) : z_Fn 0 yX0_forget cX0_forget 1 none 108 108 I J P [.ref 5] none (zu (zu I 5 (zu (I 5) 1 (iI 0))) 5 (zu (zu I 5 (zu (I 5) 1 (iI 0)) 5) 2 (iI 0))) (J) (P) := by
  refine z_met false (by decide +kernel) (fun h => by cases h) (Nat.le_of_ble_eq_true rfl) (by first | decide | omega) (fun V hV => ?_)
  show V 108 I J P 0 [.ref 5] []
  refine r_aload_n hV dX0_forget_0 rfl rfl ?_
  refine s_iconst hV dX0_forget_1 (0) (by decide) ?_
  refine r_putI hV dX0_forget_2 fl_X0_26 (pf_X0_26 _) (z_okI_int rfl _) (by first | decide | omega) (by first | rfl | assumption) ?_
  refine r_aload_n hV dX0_forget_5 rfl rfl ?_
  refine s_iconst hV dX0_forget_6 (0) (by decide) ?_
  refine r_putI hV dX0_forget_7 fl_X0_18 (pf_X0_18 _) (z_okI_int rfl _) (by first | decide | omega) (by first | rfl | assumption) ?_
  refine r_vret hV dX0_forget_10 rfl rfl ?_
  exact ⟨rfl, rfl, rfl, rfl⟩

set_option maxRecDepth 20000 in
theorem m_holds (I : zI) (J : zJ) (P : zP) (hL : zSl P) (F : Int → Int) (hF : z_ar I 41 2 F) (hFb : z_bd F 2 0 1) (k : Int) (hk : z_rg k) : z_Fn 0 yX6_holds cX6_holds 2 (some .boolean) 108 108 I J P [.ref 39, .int (iI k)] (some (.int (iI (if (0 ≤ k ∧ k < 2) ∧ F k = 1 then 1 else 0)))) (I) (J) (P) := by
  obtain ⟨p0, p1, p40, st40⟩ := id hL
  have hk1 := hk.1
  have hk2 := hk.2
  refine z_met false (by decide +kernel) (fun h => by cases h) (Nat.le_of_ble_eq_true rfl) (by first | decide | omega) (fun V hV => ?_)
  show V 108 I J P 0 [.ref 39, .int (iI k)] []
  refine r_iload_n hV dX6_holds_0 rfl ?_
  refine s_if_lt hV 22 dX6_holds_1 (by decide) (by unfold z_rg; first | omega | (split <;> omega)) (fun c1 => ?_) (fun c1 => ?_)
  · refine s_iconst hV dX6_holds_22 (0) (by decide) ?_
    refine s_zret hV dX6_holds_23 rfl (by omega) rfl ?_
    refine ⟨?_, rfl, rfl, rfl⟩
    first | rw [if_pos (by omega)] | rw [if_neg (by omega)]
  · refine r_iload_n hV dX6_holds_4 rfl ?_
    refine s_iconst hV dX6_holds_5 (2) (by decide) ?_
    refine s_icmp_ge hV 22 dX6_holds_6 (by decide) (by unfold z_rg; first | omega | (split <;> omega)) (by unfold z_rg; first | omega | (split <;> omega)) (fun c6 => ?_) (fun c6 => ?_)
    · refine s_iconst hV dX6_holds_22 (0) (by decide) ?_
      refine s_zret hV dX6_holds_23 rfl (by omega) rfl ?_
      refine ⟨?_, rfl, rfl, rfl⟩
      first | rw [if_pos (by omega)] | rw [if_neg (by omega)]
    · refine r_aload_n hV dX6_holds_9 rfl rfl ?_
      refine r_getR hV dX6_holds_10 fl_X6_17 (by first | decide | omega) (by first | rfl | assumption) (by first | assumption | rfl) ?_
      refine r_iload_n hV dX6_holds_13 rfl ?_
      refine s_baload hV dX6_holds_14 (by first | decide | omega) (by first | rfl | assumption) (by decide) (by omega) (by omega) (hF _ (by omega) (by omega)) ?_
      have hfb := hFb k (by omega) (by omega)
      refine s_if_eq hV 22 dX6_holds_15 (by decide) (by unfold z_rg; first | omega | (split <;> omega)) (fun c15 => ?_) (fun c15 => ?_)
      · refine s_iconst hV dX6_holds_22 (0) (by decide) ?_
        refine s_zret hV dX6_holds_23 rfl (by omega) rfl ?_
        refine ⟨?_, rfl, rfl, rfl⟩
        first | rw [if_pos (by omega)] | rw [if_neg (by omega)]
      · refine s_iconst hV dX6_holds_18 (1) (by decide) ?_
        refine r_goto hV 23 dX6_holds_19 (by decide) ?_
        refine s_zret hV dX6_holds_23 rfl (by omega) rfl ?_
        refine ⟨?_, rfl, rfl, rfl⟩
        first | rw [if_pos (by omega)] | rw [if_neg (by omega)]

def q_sput (I : zI) (J : zJ) (P : zP) (k : Int) (F S : Int → Int) (v : Option Value) (I1 : zI) (J1 : zJ) (P1 : zP) : Prop := v = none ∧ J1 = J ∧ P1 = P ∧ z_ar I1 41 2 F ∧ cSt I1 (42 + 2 * k.toNat) S ∧ ∀ q, q ≠ 41 → q ≠ 42 + 2 * k.toNat → q ≠ 43 + 2 * k.toNat → I1 q = I q
set_option maxRecDepth 20000 in
theorem m_sput (I : zI) (J : zJ) (P : zP) (hL : zSl P) (F : Int → Int) (hF : z_ar I 41 2 F) (hFb : z_bd F 2 0 1) (k : Int) (hk : 0 ≤ k ∧ k < 2) (h3 : zStn P 3) (S : Int → Int) (hS : cSt I 3 S) : z_Sp 1 yX6_put cX6_put 3 none 108 108 I J P [.ref 39, .int (iI k), .ref 3] (q_sput I J P k (zup F k 1) S) := by
  obtain ⟨p0, p1, p40, st40⟩ := id hL
  refine z_met false (by decide +kernel) (fun h => by cases h) (Nat.le_of_ble_eq_true rfl) (by first | decide | omega) (fun V hV => ?_)
  show V 108 I J P 0 [.ref 39, .int (iI k), .ref 3] []
  refine r_iload_n hV dX6_put_0 rfl ?_
  refine s_if_lt hV 9 dX6_put_1 (by decide) (by unfold z_rg; first | omega | (split <;> omega)) (fun c1 => absurd c1 (by omega)) (fun _ => ?_)
  refine r_iload_n hV dX6_put_4 rfl ?_
  refine s_iconst hV dX6_put_5 (2) (by decide) ?_
  refine s_icmp_lt hV 10 dX6_put_6 (by decide) (by unfold z_rg; first | omega | (split <;> omega)) (by unfold z_rg; first | omega | (split <;> omega)) (fun _ => ?_) (fun c6 => absurd (by omega) c6)
  refine r_aload_n hV dX6_put_10 rfl rfl ?_
  refine r_getR hV dX6_put_11 fl_X6_11 (by first | decide | omega) (by first | rfl | assumption) (by first | assumption | rfl) ?_
  refine r_iload_n hV dX6_put_14 rfl ?_
  refine s_aaload hV dX6_put_15 (by first | decide | omega) (by first | rfl | assumption) (by decide) (by omega) (by omega) (p40 _ (by omega) (by omega)) ?_
  refine r_aload_n hV dX6_put_16 rfl rfl ?_
  refine r_iv1 hV dX6_put_17 mv_X6_22 (m_copyOf I J P (42 + 2 * k.toNat) (st40 k (by omega) (by omega)) 3 h3 (by omega) S hS) (by first | decide | omega) (st40 k (by omega) (by omega)).2.1 (by decide) (Nat.le_refl _) (Nat.le_of_ble_eq_true rfl) (fun v I1 J1 P1 hq => ?_)
  obtain ⟨rfl, ej, ep, e1, e2⟩ := hq
  rw [ej, ep]
  show V 108 I1 J P _ _ []
  have hF1 : z_ar I1 41 2 F := z_ar_fr hF (e2 _ (by omega) (by omega))
  refine r_aload_n hV dX6_put_20 rfl rfl ?_
  refine r_getR hV dX6_put_21 fl_X6_17 (by first | decide | omega) (by first | rfl | assumption) (by first | assumption | rfl) ?_
  refine r_iload_n hV dX6_put_24 rfl ?_
  refine s_iconst hV dX6_put_25 (1) (by decide) ?_
  refine s_bastore hV dX6_put_26 (by omega) (by first | decide | omega) (by first | rfl | assumption) (by decide) (by omega) (by omega) ?_
  refine r_vret hV dX6_put_27 rfl rfl ?_
  exact ⟨rfl, rfl, rfl, z_ar_set hF1 (by omega) 1, cSt_fr e1 (zu_n _ _ (by omega)) (zu_n _ _ (by omega)), fun q a b d => by rw [zu_n _ _ a]; exact e2 q b (by omega)⟩

set_option maxRecDepth 20000 in
theorem m_sfetch (I : zI) (J : zJ) (P : zP) (hL : zSl P) (F : Int → Int) (hF : z_ar I 41 2 F) (hFb : z_bd F 2 0 1) (k : Int) (hk : 0 ≤ k ∧ k < 2) (hfk : F k = 1) (h3 : zStn P 3) (S : Int → Int) (hS : cSt I (42 + 2 * k.toNat) S) : z_Sp 1 yX6_fetch cX6_fetch 3 none 108 108 I J P [.ref 39, .int (iI k), .ref 3] (q_st I J P 3 S) := by
  obtain ⟨p0, p1, p40, st40⟩ := id hL
  refine z_met false (by decide +kernel) (fun h => by cases h) (Nat.le_of_ble_eq_true rfl) (by first | decide | omega) (fun V hV => ?_)
  show V 108 I J P 0 [.ref 39, .int (iI k), .ref 3] []
  refine r_aload_n hV dX6_fetch_0 rfl rfl ?_
  refine r_iload_n hV dX6_fetch_1 rfl ?_
  refine q_iv1v hV dX6_fetch_2 mv_X6_26 (m_holds I J P hL F hF hFb k (by unfold z_rg; omega)) (by first | decide | omega) (by first | rfl | assumption) (by decide) (Nat.le_refl _) (Nat.le_of_ble_eq_true rfl) ?_
  rw [if_pos ⟨hk, hfk⟩]
  refine s_if_eq hV 18 dX6_fetch_5 (by decide) (by unfold z_rg; first | omega | (split <;> omega)) (fun c5 => absurd c5 (by decide)) (fun _ => ?_)
  refine r_aload_n hV dX6_fetch_8 rfl rfl ?_
  refine r_aload_n hV dX6_fetch_9 rfl rfl ?_
  refine r_getR hV dX6_fetch_10 fl_X6_11 (by first | decide | omega) (by first | rfl | assumption) (by first | assumption | rfl) ?_
  refine r_iload_n hV dX6_fetch_13 rfl ?_
  refine s_aaload hV dX6_fetch_14 (by first | decide | omega) (by first | rfl | assumption) (by decide) (by omega) (by omega) (p40 _ (by omega) (by omega)) ?_
  refine r_iv1 hV dX6_fetch_15 mv_X6_22 (m_copyOf I J P 3 h3 (42 + 2 * k.toNat) (st40 k (by omega) (by omega)) (by omega) S hS) (by first | decide | omega) h3.2.1 (by decide) (Nat.le_refl _) (Nat.le_of_ble_eq_true rfl) (fun v I1 J1 P1 hq => ?_)
  obtain ⟨rfl, ej, ep, e1, e2⟩ := hq
  rw [ej, ep]
  show V 108 I1 J P _ _ []
  refine r_vret hV dX6_fetch_18 rfl rfl ?_
  exact ⟨rfl, rfl, rfl, e1, e2⟩

def q_sfg (I : zI) (J : zJ) (P : zP) (v : Option Value) (I1 : zI) (J1 : zJ) (P1 : zP) : Prop := v = none ∧ J1 = J ∧ P1 = P ∧ z_ar I1 41 2 (fun _ => 0) ∧ ∀ q, q ≠ 41 → I1 q = I q
set_option maxRecDepth 20000 in
theorem m_sforget (I : zI) (J : zJ) (P : zP) (hL : zSl P) : z_Sp 0 yX6_forget cX6_forget 2 none 108 108 I J P [.ref 39] (q_sfg I J P) := by
  obtain ⟨p0, p1, p40, st40⟩ := id hL
  refine z_met false (by decide +kernel) (fun h => by cases h) (Nat.le_of_ble_eq_true rfl) (by first | decide | omega) (fun V hV => ?_)
  show V 108 I J P 0 [.ref 39, .null] []
  refine s_iconst hV dX6_forget_0 (0) (by decide) ?_
  refine r_istore_n hV dX6_forget_1 (Nat.le_of_ble_eq_true rfl) rfl ?_
  have L2 : ∀ (k2 j : Nat) (I1 : zI), 2 - j < k2 → j ≤ 2 → (z_ar I1 41 (j : Int) (fun _ => 0)) → (∀ q, q ≠ 41 → I1 q = I q) → V 108 I1 J P 2 [.ref 39, .int (iI (j : Int))] [] := by
    intro k2
    induction k2 with
    | zero => intro j I1  hk1 hk2; omega
    | succ k2 ih2 =>
      intro j I1  hk2 hl2 hz hfr
      refine r_iload_n hV dX6_forget_2 rfl ?_
      refine s_iconst hV dX6_forget_3 (2) (by decide) ?_
      refine s_icmp_ge hV 20 dX6_forget_4 (by decide) (by unfold z_rg; first | omega | (split <;> omega)) (by unfold z_rg; first | omega | (split <;> omega)) (fun c4 => ?_) (fun c4 => ?_)
      · refine r_vret hV dX6_forget_20 rfl rfl ?_
        exact ⟨rfl, rfl, rfl, z_ar_le hz (by omega), hfr⟩
      · refine r_aload_n hV dX6_forget_7 rfl rfl ?_
        refine r_getR hV dX6_forget_8 fl_X6_17 (by first | decide | omega) (by first | rfl | assumption) (by first | assumption | rfl) ?_
        refine r_iload_n hV dX6_forget_11 rfl ?_
        refine s_iconst hV dX6_forget_12 (0) (by decide) ?_
        refine s_bastore hV dX6_forget_13 (by omega) (by first | decide | omega) (by first | rfl | assumption) (by decide) (by omega) (by omega) ?_
        refine s_iinc hV dX6_forget_14 rfl rfl ?_
        refine r_goto hV 2 dX6_forget_17 (by decide) ?_
        exact ih2 (j + 1) _ (by omega) (by omega) (z_ar_push hz) (fun q a => by rw [zu_n _ _ a]; exact hfr q a)
  exact L2 3 0 I (by omega) (by omega) z_ar_0 (fun q a => rfl)
