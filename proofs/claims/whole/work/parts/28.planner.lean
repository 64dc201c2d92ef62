abbrev zB5 : Type := Int × Int × Int × Int × Int
/-- is it better than what was found: found, worth, steps, her set, his set -/
def f_tw (HS WO : Int → Int) (left : Int) (hers : Nat) (hs : Int) (his : Nat) : zB5 → zB5
  | (f, w, s, a, b) => if (hers &&& his = 0 ∧ hs + HS his ≤ left) ∧ (f = 0 ∨ w < WO ((hers ||| his : Nat) : Int) ∨ (WO ((hers ||| his : Nat) : Int) = w ∧ hs + HS his < s)) then (1, WO ((hers ||| his : Nat) : Int), hs + HS his, (hers : Int), (his : Int)) else (f, w, s, a, b)
def f_tp (HR HS WO : Int → Int) (left : Int) (hE sets hers : Nat) (B : zB5) : zB5 := if zdf hers hE = 0 ∧ HR hers ≤ left then zit (f_tw HS WO left hers (HR hers)) sets B else B
def cPl (I : zI) (B : zB5) : Prop := I 49 6 = iI B.1 ∧ I 49 7 = iI B.2.1 ∧ I 49 8 = iI B.2.2.1 ∧ I 49 9 = iI B.2.2.2.1 ∧ I 49 10 = iI B.2.2.2.2
def bPl (B : zB5) : Prop := (B.1 = 0 ∨ B.1 = 1) ∧ z_rg B.2.1 ∧ z_rg B.2.2.1
def zPn (P : zP) : Prop := P 49 0 = some 50 ∧ P 49 1 = some 53 ∧ P 49 2 = some 56 ∧ P 49 3 = some 57
theorem zb_and0 {a b : Nat} (ha : a < 64) (hb : b < 64) : z_rg ((a &&& b : Nat) : Int) := by
  have : a &&& b ≤ a := Nat.and_le_left
  unfold z_rg; omega
set_option maxRecDepth 20000 in
theorem m_isPartOf (I : zI) (J : zJ) (P : zP) (a b : Nat) (ha : a < 64) (hb : b < 64) : z_Fn 0 yX3_isPartOf cX3_isPartOf 2 (some .boolean) 108 108 I J P [.int (iI (a : Int)), .int (iI (b : Int))] (some (.int (iI (if zdf a b = 0 then 1 else 0)))) (I) (J) (P) := by
  have hdl := z_df_lt (b := b) ha
  refine z_met false (by decide +kernel) (fun h => by cases h) (Nat.le_of_ble_eq_true rfl) (by first | decide | omega) (fun V hV => ?_)
  show V 108 I J P 0 [.int (iI (a : Int)), .int (iI (b : Int))] []
  refine r_iload_n hV dX3_isPartOf_0 rfl ?_
  refine r_iload_n hV dX3_isPartOf_1 rfl ?_
  refine s_iconst hV dX3_isPartOf_2 (-1) (by decide) ?_
  refine s_ixor hV dX3_isPartOf_3 (zb_not (by omega)) ?_
  refine s_iand hV dX3_isPartOf_4 (by first | exact zb_one (by omega) (by omega) | exact zb_and (by omega) (by omega) | exact zb_df' (by omega) (by omega)) ?_
  refine s_if_ne hV 12 dX3_isPartOf_5 (by decide) (by unfold z_rg; first | omega | (split <;> omega)) (fun c5 => ?_) (fun c5 => ?_)
  · refine s_iconst hV dX3_isPartOf_12 (0) (by decide) ?_
    refine s_zret hV dX3_isPartOf_13 rfl (by omega) rfl ?_
    refine ⟨?_, rfl, rfl, rfl⟩
    first | rw [if_pos (by omega)] | rw [if_neg (by omega)]
  · refine s_iconst hV dX3_isPartOf_8 (1) (by decide) ?_
    refine r_goto hV 13 dX3_isPartOf_9 (by decide) ?_
    refine s_zret hV dX3_isPartOf_13 rfl (by omega) rfl ?_
    refine ⟨?_, rfl, rfl, rfl⟩
    first | rw [if_pos (by omega)] | rw [if_neg (by omega)]

set_option maxRecDepth 20000 in
theorem m_isBetter (I : zI) (J : zJ) (P : zP) (f w s a b : Int) (hc : cPl I (f, w, s, a, b)) (hb : bPl (f, w, s, a, b)) (x y : Int) (hx : z_rg x) (hy : z_rg y) : z_Fn 0 yX3_isBetter cX3_isBetter 3 (some .boolean) 108 108 I J P [.ref 49, .int (iI x), .int (iI y)] (some (.int (iI (if f = 0 ∨ w < x ∨ (x = w ∧ y < s) then 1 else 0)))) (I) (J) (P) := by
  obtain ⟨c6, c7, c8, c9, c10⟩ := hc
  obtain ⟨hf, hw, hs⟩ := hb
  simp only at c6 c7 c8 c9 c10 hf hw hs
  have hx1 := hx.1
  have hx2 := hx.2
  have hy1 := hy.1
  have hy2 := hy.2
  have hw1 := hw.1
  have hw2 := hw.2
  have hs1 := hs.1
  have hs2 := hs.2
  refine z_met false (by decide +kernel) (fun h => by cases h) (Nat.le_of_ble_eq_true rfl) (by first | decide | omega) (fun V hV => ?_)
  show V 108 I J P 0 [.ref 49, .int (iI x), .int (iI y)] []
  refine r_aload_n hV dX3_isBetter_0 rfl rfl ?_
  refine r_getI hV dX3_isBetter_1 fl_X3_39 (by first | decide | omega) (by first | rfl | assumption) (by first | assumption | rfl) ?_
  refine s_if_eq hV 15 dX3_isBetter_4 (by decide) (by unfold z_rg; first | omega | (split <;> omega)) (fun c4 => ?_) (fun c4 => ?_)
  · refine s_iconst hV dX3_isBetter_15 (1) (by decide) ?_
    refine s_zret hV dX3_isBetter_16 rfl (by omega) rfl ?_
    refine ⟨?_, rfl, rfl, rfl⟩
    first | rw [if_pos (by omega)] | rw [if_neg (by omega)]
  · refine r_iload_n hV dX3_isBetter_7 rfl ?_
    refine r_aload_n hV dX3_isBetter_8 rfl rfl ?_
    refine r_getI hV dX3_isBetter_9 fl_X3_70 (by first | decide | omega) (by first | rfl | assumption) (by first | assumption | rfl) ?_
    refine s_icmp_le hV 17 dX3_isBetter_12 (by decide) (by unfold z_rg; first | omega | (split <;> omega)) (by unfold z_rg; first | omega | (split <;> omega)) (fun c12 => ?_) (fun c12 => ?_)
    · refine r_iload_n hV dX3_isBetter_17 rfl ?_
      refine r_aload_n hV dX3_isBetter_18 rfl rfl ?_
      refine r_getI hV dX3_isBetter_19 fl_X3_70 (by first | decide | omega) (by first | rfl | assumption) (by first | assumption | rfl) ?_
      refine s_icmp_ne hV 37 dX3_isBetter_22 (by decide) (by unfold z_rg; first | omega | (split <;> omega)) (by unfold z_rg; first | omega | (split <;> omega)) (fun c22 => ?_) (fun c22 => ?_)
      · refine s_iconst hV dX3_isBetter_37 (0) (by decide) ?_
        refine s_zret hV dX3_isBetter_38 rfl (by omega) rfl ?_
        refine ⟨?_, rfl, rfl, rfl⟩
        first | rw [if_pos (by omega)] | rw [if_neg (by omega)]
      · refine r_iload_n hV dX3_isBetter_25 rfl ?_
        refine r_aload_n hV dX3_isBetter_26 rfl rfl ?_
        refine r_getI hV dX3_isBetter_27 fl_X3_73 (by first | decide | omega) (by first | rfl | assumption) (by first | assumption | rfl) ?_
        refine s_icmp_ge hV 37 dX3_isBetter_30 (by decide) (by unfold z_rg; first | omega | (split <;> omega)) (by unfold z_rg; first | omega | (split <;> omega)) (fun c30 => ?_) (fun c30 => ?_)
        · refine s_iconst hV dX3_isBetter_37 (0) (by decide) ?_
          refine s_zret hV dX3_isBetter_38 rfl (by omega) rfl ?_
          refine ⟨?_, rfl, rfl, rfl⟩
          first | rw [if_pos (by omega)] | rw [if_neg (by omega)]
        · refine s_iconst hV dX3_isBetter_33 (1) (by decide) ?_
          refine r_goto hV 38 dX3_isBetter_34 (by decide) ?_
          refine s_zret hV dX3_isBetter_38 rfl (by omega) rfl ?_
          refine ⟨?_, rfl, rfl, rfl⟩
          first | rw [if_pos (by omega)] | rw [if_neg (by omega)]
    · refine s_iconst hV dX3_isBetter_15 (1) (by decide) ?_
      refine s_zret hV dX3_isBetter_16 rfl (by omega) rfl ?_
      refine ⟨?_, rfl, rfl, rfl⟩
      first | rw [if_pos (by omega)] | rw [if_neg (by omega)]

def q_pl (I : zI) (J : zJ) (P : zP) (B : zB5) (v : Option Value) (I1 : zI) (J1 : zJ) (P1 : zP) : Prop := v = none ∧ J1 = J ∧ P1 = P ∧ cPl I1 B ∧ bPl B ∧ I1 49 4 = I 49 4 ∧ I1 49 5 = I 49 5 ∧ ∀ q, q ≠ 49 → I1 q = I q
set_option maxRecDepth 20000 in
theorem m_tryWith (I : zI) (J : zJ) (P : zP) (hP : zPn P) (B0 : zB5) (hc0 : cPl I B0) (hb0 : bPl B0) (e sets : Nat) (hset : sets = 2 ^ e) (he6 : e ≤ 6) (HS WO : Int → Int) (hHS : z_ar I 56 (sets : Int) HS) (hHSb : z_bd HS sets 0 1000000) (hWO : z_ar I 57 (sets : Int) WO) (hWOb : z_bd WO sets 0 1000) (hers : Nat) (hh : hers < sets) (hs left : Int) (hsb : 0 ≤ hs ∧ hs ≤ 1000000) (hlb : 0 ≤ left ∧ left ≤ 100000) : z_Sp 1 yX3_tryWith cX3_tryWith 7 none 108 108 I J P [.ref 49, .int (iI (hers : Int)), .int (iI hs), .int (iI (sets : Int)), .int (iI left)] (q_pl I J P (zit (f_tw HS WO left hers hs) sets B0)) := by
  obtain ⟨pp0, pp1, pp2, pp3⟩ := id hP
  have h64 : sets ≤ 64 := hset ▸ z_pn he6
  refine z_met false (by decide +kernel) (fun h => by cases h) (Nat.le_of_ble_eq_true rfl) (by first | decide | omega) (fun V hV => ?_)
  show V 108 I J P 0 [.ref 49, .int (iI (hers : Int)), .int (iI hs), .int (iI (sets : Int)), .int (iI left), .null, .null] []
  refine s_iconst hV dX3_tryWith_0 (0) (by decide) ?_
  refine r_istore hV dX3_tryWith_1 (Nat.le_of_ble_eq_true rfl) rfl ?_
  have L3 : ∀ (k3 j : Nat) (f w s a b : Int) (I1 : zI), sets - j < k3 → j ≤ sets → ((f, w, s, a, b) = zit (f_tw HS WO left hers hs) j B0) → (cPl I1 (f, w, s, a, b)) → (bPl (f, w, s, a, b)) → (I1 49 4 = I 49 4) → (I1 49 5 = I 49 5) → (∀ q, q ≠ 49 → I1 q = I q) → V 108 I1 J P 3 [.ref 49, .int (iI (hers : Int)), .int (iI hs), .int (iI (sets : Int)), .int (iI left), .int (iI (j : Int)), .null] [] := by
    intro k3
    induction k3 with
    | zero => intro j f w s a b  I1  hk1 hk2; omega
    | succ k3 ih3 =>
      intro j f w s a b  I1  hk3 hl3 hS hc hb k4 k5 hfr
      refine r_iload hV dX3_tryWith_3 rfl ?_
      refine r_iload_n hV dX3_tryWith_5 rfl ?_
      refine s_icmp_ge hV 93 dX3_tryWith_6 (by decide) (by unfold z_rg; first | omega | (split <;> omega)) (by unfold z_rg; first | omega | (split <;> omega)) (fun c6 => ?_) (fun c6 => ?_)
      · refine r_vret hV dX3_tryWith_93 rfl rfl ?_
        rw [show j = sets by omega] at hS
        rw [← hS]
        exact ⟨rfl, rfl, rfl, hc, hb, k4, k5, hfr⟩
      · have hj64 : j < 64 := by omega
        have hh64 : hers < 64 := by omega
        have hor : hers ||| j < sets := by rw [hset] at *; exact Nat.or_lt_two_pow hh (by omega)
        have hwb := hWOb ((hers ||| j : Nat) : Int) (by omega) (by omega)
        have hsb2 := hHSb (j : Int) (by omega) (by omega)
        have hand : hers &&& j ≤ hers := Nat.and_le_left
        refine r_iload_n hV dX3_tryWith_9 rfl ?_
        refine r_aload_n hV dX3_tryWith_10 rfl rfl ?_
        refine r_getR hV dX3_tryWith_11 fl_X3_21 (by first | decide | omega) (by first | rfl | assumption) (by first | assumption | rfl) ?_
        refine r_iload hV dX3_tryWith_14 rfl ?_
        refine s_iaload hV dX3_tryWith_16 (by first | decide | omega) (by first | rfl | assumption) (by decide) (by omega) (by omega) ((congrFun (hfr 56 (by decide)) _).trans (hHS _ (by omega) (by omega))) ?_
        refine s_iadd hV dX3_tryWith_17 ?_
        refine r_istore hV dX3_tryWith_18 (Nat.le_of_ble_eq_true rfl) rfl ?_
        refine r_iload_n hV dX3_tryWith_20 rfl ?_
        refine r_iload hV dX3_tryWith_21 rfl ?_
        refine s_iand hV dX3_tryWith_23 (zb_and hh64 hj64) ?_
        refine s_if_ne hV 87 dX3_tryWith_24 (by decide) (by unfold z_rg; first | omega | (split <;> omega)) (fun c24 => ?_) (fun c24 => ?_)
        · refine s_iinc hV dX3_tryWith_87 rfl rfl ?_
          refine r_goto hV 3 dX3_tryWith_90 (by decide) ?_
          first
            | (refine r_kill hV 6 rfl ?_
               exact ih3 (j + 1) _ _ _ _ _ I1 (by omega) (by omega) (by rw [zit, ← hS, f_tw, if_neg (by omega)]) hc hb k4 k5 hfr)
            | (refine r_kill hV 6 rfl ?_
               exact ih3 (j + 1) _ _ _ _ _ _ (by omega) (by omega) (by rw [zit, ← hS, f_tw, if_pos (by omega)]) (by simp [cPl, zu]) ⟨Or.inr rfl, by simp only; unfold z_rg; omega, by simp only; unfold z_rg; omega⟩ (by simp [zu, k4]) (by simp [zu, k5]) (fun q a => by rw [zu_n _ _ a, zu_n _ _ a, zu_n _ _ a, zu_n _ _ a, zu_n _ _ a]; exact hfr q a))
        · refine r_iload hV dX3_tryWith_27 rfl ?_
          refine r_iload hV dX3_tryWith_29 rfl ?_
          refine s_icmp_gt hV 87 dX3_tryWith_31 (by decide) (by unfold z_rg; first | omega | (split <;> omega)) (by unfold z_rg; first | omega | (split <;> omega)) (fun c31 => ?_) (fun c31 => ?_)
          · refine s_iinc hV dX3_tryWith_87 rfl rfl ?_
            refine r_goto hV 3 dX3_tryWith_90 (by decide) ?_
            first
              | (refine r_kill hV 6 rfl ?_
                 exact ih3 (j + 1) _ _ _ _ _ I1 (by omega) (by omega) (by rw [zit, ← hS, f_tw, if_neg (by omega)]) hc hb k4 k5 hfr)
              | (refine r_kill hV 6 rfl ?_
                 exact ih3 (j + 1) _ _ _ _ _ _ (by omega) (by omega) (by rw [zit, ← hS, f_tw, if_pos (by omega)]) (by simp [cPl, zu]) ⟨Or.inr rfl, by simp only; unfold z_rg; omega, by simp only; unfold z_rg; omega⟩ (by simp [zu, k4]) (by simp [zu, k5]) (fun q a => by rw [zu_n _ _ a, zu_n _ _ a, zu_n _ _ a, zu_n _ _ a, zu_n _ _ a]; exact hfr q a))
          · refine r_aload_n hV dX3_tryWith_34 rfl rfl ?_
            refine r_aload_n hV dX3_tryWith_35 rfl rfl ?_
            refine r_getR hV dX3_tryWith_36 fl_X3_25 (by first | decide | omega) (by first | rfl | assumption) (by first | assumption | rfl) ?_
            refine r_iload_n hV dX3_tryWith_39 rfl ?_
            refine r_iload hV dX3_tryWith_40 rfl ?_
            refine s_ior hV dX3_tryWith_42 (zb_or hh64 hj64) ?_
            refine s_iaload hV dX3_tryWith_43 (by first | decide | omega) (by first | rfl | assumption) (by decide) (by omega) (by omega) ((congrFun (hfr 57 (by decide)) _).trans (hWO _ (by omega) (by omega))) ?_
            refine r_iload hV dX3_tryWith_44 rfl ?_
            refine q_iv2v hV dX3_tryWith_46 mv_X3_67 (m_isBetter I1 J P f w s a b hc hb _ _ (by unfold z_rg; omega) (by unfold z_rg; omega)) (by first | decide | omega) (by first | rfl | assumption) (by decide) (Nat.le_refl _) (Nat.le_of_ble_eq_true rfl) ?_
            refine s_if_eq hV 87 dX3_tryWith_49 (by decide) (by unfold z_rg; first | omega | (split <;> omega)) (fun c49 => ?_) (fun c49 => ?_)
            · refine s_iinc hV dX3_tryWith_87 rfl rfl ?_
              refine r_goto hV 3 dX3_tryWith_90 (by decide) ?_
              first
                | (refine r_kill hV 6 rfl ?_
                   exact ih3 (j + 1) _ _ _ _ _ I1 (by omega) (by omega) (by rw [zit, ← hS, f_tw, if_neg (by omega)]) hc hb k4 k5 hfr)
                | (refine r_kill hV 6 rfl ?_
                   exact ih3 (j + 1) _ _ _ _ _ _ (by omega) (by omega) (by rw [zit, ← hS, f_tw, if_pos (by omega)]) (by simp [cPl, zu]) ⟨Or.inr rfl, by simp only; unfold z_rg; omega, by simp only; unfold z_rg; omega⟩ (by simp [zu, k4]) (by simp [zu, k5]) (fun q a => by rw [zu_n _ _ a, zu_n _ _ a, zu_n _ _ a, zu_n _ _ a, zu_n _ _ a]; exact hfr q a))
            · refine r_aload_n hV dX3_tryWith_52 rfl rfl ?_
              refine s_iconst hV dX3_tryWith_53 (1) (by decide) ?_
              refine s_putZ hV dX3_tryWith_54 fl_X3_39 (pf_X3_39 _) rfl (by omega) (by first | decide | omega) (by first | rfl | assumption) ?_
              refine r_aload_n hV dX3_tryWith_57 rfl rfl ?_
              refine r_aload_n hV dX3_tryWith_58 rfl rfl ?_
              refine r_getR hV dX3_tryWith_59 fl_X3_25 (by first | decide | omega) (by first | rfl | assumption) (by first | assumption | rfl) ?_
              refine r_iload_n hV dX3_tryWith_62 rfl ?_
              refine r_iload hV dX3_tryWith_63 rfl ?_
              refine s_ior hV dX3_tryWith_65 (zb_or hh64 hj64) ?_
              refine s_iaload hV dX3_tryWith_66 (by first | decide | omega) (by first | rfl | assumption) (by decide) (by omega) (by omega) ((congrFun (by first | exact hfr 57 (by decide) | exact (zu_n _ _ (by decide)).trans (hfr 57 (by decide))) _).trans (hWO _ (by omega) (by omega))) ?_
              refine r_putI hV dX3_tryWith_67 fl_X3_70 (pf_X3_70 _) (z_okI_int rfl _) (by first | decide | omega) (by first | rfl | assumption) ?_
              refine r_aload_n hV dX3_tryWith_70 rfl rfl ?_
              refine r_iload hV dX3_tryWith_71 rfl ?_
              refine r_putI hV dX3_tryWith_73 fl_X3_73 (pf_X3_73 _) (z_okI_int rfl _) (by first | decide | omega) (by first | rfl | assumption) ?_
              refine r_aload_n hV dX3_tryWith_76 rfl rfl ?_
              refine r_iload_n hV dX3_tryWith_77 rfl ?_
              refine r_putI hV dX3_tryWith_78 fl_X3_76 (pf_X3_76 _) (z_okI_int rfl _) (by first | decide | omega) (by first | rfl | assumption) ?_
              refine r_aload_n hV dX3_tryWith_81 rfl rfl ?_
              refine r_iload hV dX3_tryWith_82 rfl ?_
              refine r_putI hV dX3_tryWith_84 fl_X3_79 (pf_X3_79 _) (z_okI_int rfl _) (by first | decide | omega) (by first | rfl | assumption) ?_
              refine s_iinc hV dX3_tryWith_87 rfl rfl ?_
              refine r_goto hV 3 dX3_tryWith_90 (by decide) ?_
              first
                | (refine r_kill hV 6 rfl ?_
                   exact ih3 (j + 1) _ _ _ _ _ I1 (by omega) (by omega) (by rw [zit, ← hS, f_tw, if_neg (by omega)]) hc hb k4 k5 hfr)
                | (refine r_kill hV 6 rfl ?_
                   exact ih3 (j + 1) _ _ _ _ _ _ (by omega) (by omega) (by rw [zit, ← hS, f_tw, if_pos (by omega)]) (by simp [cPl, zu]) ⟨Or.inr rfl, by simp only; unfold z_rg; omega, by simp only; unfold z_rg; omega⟩ (by simp [zu, k4]) (by simp [zu, k5]) (fun q a => by rw [zu_n _ _ a, zu_n _ _ a, zu_n _ _ a, zu_n _ _ a, zu_n _ _ a]; exact hfr q a))
  obtain ⟨f0, w0, s0, a0, b0⟩ := B0
  exact L3 (sets + 1) 0 f0 w0 s0 a0 b0 I (by omega) (by omega) rfl hc0 hb0 rfl rfl (fun q a => rfl)
