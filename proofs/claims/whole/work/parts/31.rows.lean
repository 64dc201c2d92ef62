theorem z_rw {r : Nat} (h : r = 60 ∨ r = 61) : zSH r = .inr (.int, 6000) ∧ r < 108 ∧ 59 < r := by rcases h with rfl | rfl <;> exact ⟨rfl, by decide, by decide⟩
def zRw (P : zP) (a b : Nat) : Prop := (a = 60 ∨ a = 61) ∧ (b = 60 ∨ b = 61) ∧ a ≠ b ∧ P 59 0 = some a ∧ P 59 1 = some b
/-- clear to nothing what costs no more than R, as far as cell m -/
def f_clp (R m : Int) (C : Int → Int) (z : Int) : Int := if z % 1000 ≤ R ∧ z < m then 0 else C z
def f_cl (R : Int) (C : Int → Int) : Int → Int := f_clp R 6000 C
def q_ar1 (I : zI) (J : zJ) (P : zP) (r : Nat) (C : Int → Int) (v : Option Value) (I1 : zI) (J1 : zJ) (P1 : zP) : Prop := v = none ∧ J1 = J ∧ P1 = P ∧ z_ar I1 r 6000 C ∧ ∀ q, q ≠ r → I1 q = I q
theorem f_clp_s {R j c : Int} {C : Int → Int} (hR : R ≤ 999) (hc0 : 0 ≤ c) (hc : c ≤ R) (z : Int) : zup (f_clp R (1000 * j + c) C) (j * 1000 + c) 0 z = f_clp R (1000 * j + (c + 1)) C z := by
  unfold zup f_clp
  by_cases h : z = j * 1000 + c
  · rw [if_pos h, if_pos (by omega)]
  · rw [if_neg h]
    by_cases h2 : z % 1000 ≤ R ∧ z < 1000 * j + c
    · rw [if_pos h2, if_pos (by omega)]
    · rw [if_neg h2, if_neg (by omega)]
theorem f_clp_e {R j c : Int} {C : Int → Int} (hc : R < c) (hc2 : c ≤ 1000) (z : Int) : f_clp R (1000 * j + c) C z = f_clp R (1000 * (j + 1) + 0) C z := by
  unfold f_clp
  by_cases h2 : z % 1000 ≤ R ∧ z < 1000 * j + c
  · rw [if_pos h2, if_pos (by omega)]
  · rw [if_neg h2, if_neg (by omega)]
/-- one walk more, from one place -/
def f_gr (D : Int → Int) (n fr R bef : Int) (C L : Int → Int) (z : Int) : Int := if (z / 1000 < n ∧ z / 1000 ≠ fr) ∧ D (fr * 6 + z / 1000) < 1000000 ∧ D (fr * 6 + z / 1000) ≤ z % 1000 ∧ z % 1000 ≤ R ∧ z % 1000 - D (fr * 6 + z / 1000) ≤ bef then L z + C (fr * 1000 + (z % 1000 - D (fr * 6 + z / 1000))) else L z
def f_grp (D : Int → Int) (n fr R bef to m : Int) (C L : Int → Int) (z : Int) : Int := if z / 1000 < to ∨ (z / 1000 = to ∧ z % 1000 < m) then f_gr D n fr R bef C L z else L z
theorem f_grp_s {D : Int → Int} {n fr R bef to c f : Int} {C L : Int → Int} (hf : D (fr * 6 + to) = f) (hto : to ≠ fr) (hn : to < n) (hfm : f < 1000000) (hf0 : 0 ≤ f) (hc0 : 0 ≤ c) (hc : c ≤ bef) (hcR : c + f ≤ R) (hR : R ≤ 999) (z : Int) : zup (f_grp D n fr R bef to (c + f) C L) (to * 1000 + c + f) (f_grp D n fr R bef to (c + f) C L (to * 1000 + c + f) + C (fr * 1000 + c)) z = f_grp D n fr R bef to (c + 1 + f) C L z := by
  unfold zup
  by_cases h : z = to * 1000 + c + f
  · rw [if_pos h]
    have hd : (to * 1000 + c + f) / 1000 = to := by omega
    have hm : (to * 1000 + c + f) % 1000 = c + f := by omega
    subst h
    unfold f_grp f_gr
    rw [hd, hm, hf, if_neg (by omega), if_pos (by omega), if_pos (by omega), show c + f - f = c by omega]
  · rw [if_neg h]
    unfold f_grp
    by_cases h2 : z / 1000 < to ∨ (z / 1000 = to ∧ z % 1000 < c + f)
    · rw [if_pos h2, if_pos (by omega)]
    · rw [if_neg h2, if_neg (by omega)]
theorem f_grp_e {D : Int → Int} {n fr R bef to m f : Int} {C L : Int → Int} (hf : D (fr * 6 + to) = f) (hc : to = fr ∨ 1000000 ≤ f ∨ bef < m - f ∨ R < m) (z : Int) : f_grp D n fr R bef to m C L z = f_grp D n fr R bef (to + 1) 0 C L z := by
  unfold f_grp
  by_cases h1 : z / 1000 < to
  · rw [if_pos (by omega), if_pos (by omega)]
  · by_cases h2 : z / 1000 = to
    · rw [if_pos (show z / 1000 < to + 1 ∨ (z / 1000 = to + 1 ∧ z % 1000 < 0) by omega)]
      by_cases h3 : z % 1000 < m
      · rw [if_pos (by omega)]
      · rw [if_neg (by omega)]
        unfold f_gr
        rw [h2, hf, if_neg (by omega)]
    · rw [if_neg (by omega), if_neg (by omega)]
theorem f_grp_0 {D : Int → Int} {n fr R bef to f : Int} {C L : Int → Int} (hf : D (fr * 6 + to) = f) (z : Int) : f_grp D n fr R bef to 0 C L z = f_grp D n fr R bef to (0 + f) C L z := by
  unfold f_grp
  by_cases h1 : z / 1000 < to
  · rw [if_pos (by omega), if_pos (by omega)]
  · by_cases h2 : z / 1000 = to
    · by_cases h3 : z % 1000 < f
      · rw [if_neg (by omega), if_pos (by omega)]
        unfold f_gr
        rw [h2, hf, if_neg (by omega)]
      · rw [if_neg (by omega), if_neg (by omega)]
    · rw [if_neg (by omega), if_neg (by omega)]
theorem f_grp_n {D : Int → Int} {n fr R bef : Int} {C L : Int → Int} (z : Int) : f_grp D n fr R bef n 0 C L z = f_gr D n fr R bef C L z := by
  unfold f_grp
  by_cases h1 : z / 1000 < n
  · rw [if_pos (by omega)]
  · rw [if_neg (by omega)]
    unfold f_gr
    rw [if_neg (by omega)]
set_option maxRecDepth 20000 in
theorem m_clear (I : zI) (J : zJ) (P : zP) (r : Nat) (hr : r = 60 ∨ r = 61) (R : Int) (hR : I 59 2 = iI R) (hRb : 0 ≤ R ∧ R ≤ 999) (C : Int → Int) (hC : z_ar I r 6000 C) : z_Sp 0 yX5_clear cX5_clear 4 none 108 108 I J P [.ref 59, .ref r] (q_ar1 I J P r (f_cl R C)) := by
  obtain ⟨sr, lr, gr⟩ := z_rw hr
  refine z_met false (by decide +kernel) (fun h => by cases h) (Nat.le_of_ble_eq_true rfl) (by first | decide | omega) (fun V hV => ?_)
  show V 108 I J P 0 [.ref 59, .ref r, .null, .null] []
  refine s_iconst hV dX5_clear_0 (0) (by decide) ?_
  refine r_istore_n hV dX5_clear_1 (Nat.le_of_ble_eq_true rfl) rfl ?_
  have L2 : ∀ (k2 j : Nat) (I1 : zI), 6 - j < k2 → j ≤ 6 → (z_ar I1 r 6000 (f_clp R (1000 * (j : Int) + 0) C)) → (∀ q, q ≠ r → I1 q = I q) → V 108 I1 J P 2 [.ref 59, .ref r, .int (iI (j : Int)), .null] [] := by
    intro k2
    induction k2 with
    | zero => intro j I1  hk1 hk2; omega
    | succ k2 ih2 =>
      intro j I1  hk2 hl2 hz hfr
      refine r_iload_n hV dX5_clear_2 rfl ?_
      refine s_bipush hV dX5_clear_3 (6) (by decide) ?_
      refine s_icmp_ge hV 40 dX5_clear_5 (by decide) (by unfold z_rg; first | omega | (split <;> omega)) (by unfold z_rg; first | omega | (split <;> omega)) (fun c5 => ?_) (fun c5 => ?_)
      · refine r_vret hV dX5_clear_40 rfl rfl ?_
        have hj : j = 6 := by omega
        subst hj
        exact ⟨rfl, rfl, rfl, hz, hfr⟩
      · refine s_iconst hV dX5_clear_8 (0) (by decide) ?_
        refine r_istore_n hV dX5_clear_9 (Nat.le_of_ble_eq_true rfl) rfl ?_
        have L10 : ∀ (k10 c : Nat) (I1 : zI), 1000 - c < k10 → c ≤ 1000 → (z_ar I1 r 6000 (f_clp R (1000 * (j : Int) + (c : Int)) C)) → ((c : Int) ≤ R + 1) → (∀ q, q ≠ r → I1 q = I q) → V 108 I1 J P 10 [.ref 59, .ref r, .int (iI (j : Int)), .int (iI (c : Int))] [] := by
          intro k10
          induction k10 with
          | zero => intro c I1  hk1 hk2; omega
          | succ k10 ih10 =>
            intro c I1  hk10 hl10 hz hcR hfr
            refine r_iload_n hV dX5_clear_10 rfl ?_
            refine r_aload_n hV dX5_clear_11 rfl rfl ?_
            refine r_getI hV dX5_clear_12 fl_X5_18 (by first | decide | omega) (by first | rfl | assumption) ((congrFun (hfr 59 (by omega)) 2).trans hR) ?_
            refine s_icmp_gt hV 34 dX5_clear_15 (by decide) (by unfold z_rg; first | omega | (split <;> omega)) (by unfold z_rg; first | omega | (split <;> omega)) (fun c15 => ?_) (fun c15 => ?_)
            · refine s_iinc hV dX5_clear_34 rfl rfl ?_
              refine r_goto hV 2 dX5_clear_37 (by decide) ?_
              refine r_kill hV 3 rfl ?_
              exact ih2 (j + 1) _ (by omega) (by omega) (z_ar_eq hz (fun z _ _ => by rw [f_clp_e (by omega) (by omega)]; rfl)) hfr
            · refine r_aload_n hV dX5_clear_18 rfl rfl ?_
              refine r_iload_n hV dX5_clear_19 rfl ?_
              refine s_sipush hV dX5_clear_20 (1000) (by decide) ?_
              refine s_imul hV dX5_clear_23 ?_
              refine r_iload_n hV dX5_clear_24 rfl ?_
              refine s_iadd hV dX5_clear_25 ?_
              refine s_iconst hV dX5_clear_26 (0) (by decide) ?_
              refine s_iastore hV dX5_clear_27 (by first | decide | omega) (by first | rfl | assumption) (by decide) (by omega) (by omega) ?_
              refine s_iinc hV dX5_clear_28 rfl rfl ?_
              refine r_goto hV 10 dX5_clear_31 (by decide) ?_
              exact ih10 (c + 1) _ (by omega) (by omega) (z_ar_eq (z_ar_set hz (by omega) 0) (fun z _ _ => by rw [f_clp_s (by omega) (by omega) (by omega)]; rfl)) (by omega) (fun q a => by rw [zu_n _ _ a]; exact hfr q a)
        exact L10 1001 0 I1 (by omega) (by omega) hz (by omega) hfr
  exact L2 7 0 I (by omega) (by omega) (z_ar_eq hC (fun z a b => by unfold f_clp; rw [if_neg (by omega)])) (fun q a => rfl)

set_option maxRecDepth 20000 in
theorem m_rgoOn (I : zI) (J : zJ) (P : zP) (a b : Nat) (hRw : zRw P a b) (d : Nat) (hD : zDay P d) (n : Nat) (hn : I d 0 = iI (n : Int)) (hnb : n ≤ 6) (D : Int → Int) (hDl : z_ar I (d + 2) 36 D) (hDb : z_bd D 36 0 1000000) (R : Int) (hR : I 59 2 = iI R) (hRb : 0 ≤ R ∧ R ≤ 999) (fr : Nat) (hfrn : fr < n) (bef : Int) (hbb : 0 ≤ bef ∧ bef ≤ 999) (C L : Int → Int) (hC : z_ar I a 6000 C) (hL : z_ar I b 6000 L) : z_Sp 2 yX5_goOn cX5_goOn 7 none 108 108 I J P [.ref 59, .ref d, .int (iI (fr : Int)), .int (iI bef)] (q_ar1 I J P b (f_gr D n fr R bef C L)) := by
  obtain ⟨hd, p4, p5, p6, p7, p8⟩ := id hD
  obtain ⟨hlt, s0, s1, s2, s3, s4, s5⟩ := zDay_s hD
  obtain ⟨ha, hb, hab, w0, w1⟩ := id hRw
  obtain ⟨sa, la, ga⟩ := z_rw ha
  obtain ⟨sb, lb, gb⟩ := z_rw hb
  refine z_met false (by decide +kernel) (fun h => by cases h) (Nat.le_of_ble_eq_true rfl) (by first | decide | omega) (fun V hV => ?_)
  show V 108 I J P 0 [.ref 59, .ref d, .int (iI (fr : Int)), .int (iI bef), .null, .null, .null] []
  refine s_iconst hV dX5_goOn_0 (0) (by decide) ?_
  refine r_istore hV dX5_goOn_1 (Nat.le_of_ble_eq_true rfl) rfl ?_
  have L3 : ∀ (k3 to : Nat) (I1 : zI), n - to < k3 → to ≤ n → (z_ar I1 b 6000 (f_grp D n fr R bef (to : Int) 0 C L)) → (∀ q, q ≠ b → I1 q = I q) → V 108 I1 J P 3 [.ref 59, .ref d, .int (iI (fr : Int)), .int (iI bef), .int (iI (to : Int)), .null, .null] [] := by
    intro k3
    induction k3 with
    | zero => intro to I1  hk1 hk2; omega
    | succ k3 ih3 =>
      intro to I1  hk3 hl3 hz hfr
      refine r_iload hV dX5_goOn_3 rfl ?_
      refine r_aload_n hV dX5_goOn_5 rfl rfl ?_
      refine r_getI hV dX5_goOn_6 fl_X5_42 (by first | decide | omega) (by first | rfl | assumption) ((congrFun (hfr d (by omega)) 0).trans hn) ?_
      refine s_icmp_ge hV 100 dX5_goOn_9 (by decide) (by unfold z_rg; first | omega | (split <;> omega)) (by unfold z_rg; first | omega | (split <;> omega)) (fun c9 => ?_) (fun c9 => ?_)
      · refine r_vret hV dX5_goOn_100 rfl rfl ?_
        have hj : to = n := by omega
        subst hj
        exact ⟨rfl, rfl, rfl, z_ar_eq hz (fun z _ _ => f_grp_n z), hfr⟩
      · have hDt := hDb ((fr : Int) * 6 + (to : Int)) (by omega) (by omega)
        refine r_aload_n hV dX5_goOn_12 rfl rfl ?_
        refine r_iload_n hV dX5_goOn_13 rfl ?_
        refine r_iload hV dX5_goOn_14 rfl ?_
        refine q_iv2v hV dX5_goOn_16 mv_X5_49 (m_between I1 J P d hD (n : Int) ((congrFun (hfr d (by omega)) 0).trans hn) (by omega) (fr : Int) (by unfold z_rg; omega) (to : Int) (by unfold z_rg; omega) D (z_ar_fr hDl (hfr _ (by omega)))) (by first | decide | omega) (by first | rfl | assumption) (by decide) (Nat.le_refl _) (Nat.le_of_ble_eq_true rfl) ?_
        rw [if_pos (show (0 ≤ (fr : Int) ∧ (fr : Int) < (n : Int)) ∧ 0 ≤ (to : Int) ∧ (to : Int) < (n : Int) by omega)]
        refine r_istore hV dX5_goOn_19 (Nat.le_of_ble_eq_true rfl) rfl ?_
        refine r_iload hV dX5_goOn_21 rfl ?_
        refine r_iload_n hV dX5_goOn_23 rfl ?_
        refine s_icmp_eq hV 94 dX5_goOn_24 (by decide) (by unfold z_rg; first | omega | (split <;> omega)) (by unfold z_rg; first | omega | (split <;> omega)) (fun c24 => ?_) (fun c24 => ?_)
        · refine s_iinc hV dX5_goOn_94 rfl rfl ?_
          refine r_goto hV 3 dX5_goOn_97 (by decide) ?_
          first
            | (refine r_kill hV 5 rfl ?_
               refine r_kill hV 6 rfl ?_
               exact ih3 (to + 1) _ (by omega) (by omega) (z_ar_eq hz (fun z _ _ => by rw [f_grp_e rfl (by omega)]; rfl)) hfr)
            | (refine r_kill hV 5 rfl ?_
               exact ih3 (to + 1) _ (by omega) (by omega) (z_ar_eq hz (fun z _ _ => by rw [f_grp_e rfl (by omega)]; rfl)) hfr)
        · refine r_iload hV dX5_goOn_27 rfl ?_
          refine s_ldc hV dX5_goOn_29 ct_X5_52 (1000000) (by decide) ?_
          refine s_icmp_ge hV 94 dX5_goOn_31 (by decide) (by unfold z_rg; first | omega | (split <;> omega)) (by unfold z_rg; first | omega | (split <;> omega)) (fun c31 => ?_) (fun c31 => ?_)
          · refine s_iinc hV dX5_goOn_94 rfl rfl ?_
            refine r_goto hV 3 dX5_goOn_97 (by decide) ?_
            first
              | (refine r_kill hV 5 rfl ?_
                 refine r_kill hV 6 rfl ?_
                 exact ih3 (to + 1) _ (by omega) (by omega) (z_ar_eq hz (fun z _ _ => by rw [f_grp_e rfl (by omega)]; rfl)) hfr)
              | (refine r_kill hV 5 rfl ?_
                 exact ih3 (to + 1) _ (by omega) (by omega) (z_ar_eq hz (fun z _ _ => by rw [f_grp_e rfl (by omega)]; rfl)) hfr)
          · refine s_iconst hV dX5_goOn_34 (0) (by decide) ?_
            refine r_istore hV dX5_goOn_35 (Nat.le_of_ble_eq_true rfl) rfl ?_
            have L37 : ∀ (k37 c : Nat) (I1 : zI), 1000 - c < k37 → c ≤ 1000 → (z_ar I1 b 6000 (f_grp D n fr R bef (to : Int) ((c : Int) + D ((fr : Int) * 6 + (to : Int))) C L)) → ((c : Int) ≤ bef + 1) → (∀ q, q ≠ b → I1 q = I q) → V 108 I1 J P 37 [.ref 59, .ref d, .int (iI (fr : Int)), .int (iI bef), .int (iI (to : Int)), .int (iI (D ((fr : Int) * 6 + (to : Int)))), .int (iI (c : Int))] [] := by
              intro k37
              induction k37 with
              | zero => intro c I1  hk1 hk2; omega
              | succ k37 ih37 =>
                intro c I1  hk37 hl37 hz hcb hfr
                refine r_iload hV dX5_goOn_37 rfl ?_
                refine r_iload_n hV dX5_goOn_39 rfl ?_
                refine s_icmp_gt hV 94 dX5_goOn_40 (by decide) (by unfold z_rg; first | omega | (split <;> omega)) (by unfold z_rg; first | omega | (split <;> omega)) (fun c40 => ?_) (fun c40 => ?_)
                · refine s_iinc hV dX5_goOn_94 rfl rfl ?_
                  refine r_goto hV 3 dX5_goOn_97 (by decide) ?_
                  first
                    | (refine r_kill hV 5 rfl ?_
                       refine r_kill hV 6 rfl ?_
                       exact ih3 (to + 1) _ (by omega) (by omega) (z_ar_eq hz (fun z _ _ => by rw [f_grp_e rfl (by omega)]; rfl)) hfr)
                    | (refine r_kill hV 5 rfl ?_
                       exact ih3 (to + 1) _ (by omega) (by omega) (z_ar_eq hz (fun z _ _ => by rw [f_grp_e rfl (by omega)]; rfl)) hfr)
                · refine r_iload hV dX5_goOn_43 rfl ?_
                  refine r_iload hV dX5_goOn_45 rfl ?_
                  refine s_iadd hV dX5_goOn_47 ?_
                  refine r_aload_n hV dX5_goOn_48 rfl rfl ?_
                  refine r_getI hV dX5_goOn_49 fl_X5_18 (by first | decide | omega) (by first | rfl | assumption) ((congrFun (hfr 59 (by omega)) 2).trans hR) ?_
                  refine s_icmp_gt hV 94 dX5_goOn_52 (by decide) (by unfold z_rg; first | omega | (split <;> omega)) (by unfold z_rg; first | omega | (split <;> omega)) (fun c52 => ?_) (fun c52 => ?_)
                  · refine s_iinc hV dX5_goOn_94 rfl rfl ?_
                    refine r_goto hV 3 dX5_goOn_97 (by decide) ?_
                    first
                      | (refine r_kill hV 5 rfl ?_
                         refine r_kill hV 6 rfl ?_
                         exact ih3 (to + 1) _ (by omega) (by omega) (z_ar_eq hz (fun z _ _ => by rw [f_grp_e rfl (by omega)]; rfl)) hfr)
                      | (refine r_kill hV 5 rfl ?_
                         exact ih3 (to + 1) _ (by omega) (by omega) (z_ar_eq hz (fun z _ _ => by rw [f_grp_e rfl (by omega)]; rfl)) hfr)
                  · refine r_aload_n hV dX5_goOn_55 rfl rfl ?_
                    refine r_getR hV dX5_goOn_56 fl_X5_15 (by first | decide | omega) (by first | rfl | assumption) (by first | assumption | rfl) ?_
                    refine r_iload hV dX5_goOn_59 rfl ?_
                    refine s_sipush hV dX5_goOn_61 (1000) (by decide) ?_
                    refine s_imul hV dX5_goOn_64 ?_
                    refine r_iload hV dX5_goOn_65 rfl ?_
                    refine s_iadd hV dX5_goOn_67 ?_
                    refine r_iload hV dX5_goOn_68 rfl ?_
                    refine s_iadd hV dX5_goOn_70 ?_
                    refine r_dup2 hV dX5_goOn_71 rfl rfl ?_
                    refine s_iaload hV dX5_goOn_72 (by first | decide | omega) (by first | rfl | assumption) (by decide) (by omega) (by omega) (hz _ (by omega) (by omega)) ?_
                    refine r_aload_n hV dX5_goOn_73 rfl rfl ?_
                    refine r_getR hV dX5_goOn_74 fl_X5_11 (by first | decide | omega) (by first | rfl | assumption) (by first | assumption | rfl) ?_
                    refine r_iload_n hV dX5_goOn_77 rfl ?_
                    refine s_sipush hV dX5_goOn_78 (1000) (by decide) ?_
                    refine s_imul hV dX5_goOn_81 ?_
                    refine r_iload hV dX5_goOn_82 rfl ?_
                    refine s_iadd hV dX5_goOn_84 ?_
                    refine s_iaload hV dX5_goOn_85 (by first | decide | omega) (by first | rfl | assumption) (by decide) (by omega) (by omega) ((congrFun (hfr a (by omega)) _).trans (hC _ (by omega) (by omega))) ?_
                    refine s_iadd hV dX5_goOn_86 ?_
                    refine s_iastore hV dX5_goOn_87 (by first | decide | omega) (by first | rfl | assumption) (by decide) (by omega) (by omega) ?_
                    refine s_iinc hV dX5_goOn_88 rfl rfl ?_
                    refine r_goto hV 37 dX5_goOn_91 (by decide) ?_
                    exact ih37 (c + 1) _ (by omega) (by omega) (z_ar_eq (z_ar_set hz (by omega) _) (fun z _ _ => by rw [f_grp_s rfl (by omega) (by omega) (by omega) (by omega) (by omega) (by omega) (by omega) (by omega)]; rfl)) (by omega) (fun q a => by rw [zu_n _ _ a]; exact hfr q a)
            exact L37 1001 0 I1 (by omega) (by omega) (z_ar_eq hz (fun z _ _ => by rw [f_grp_0 rfl]; rfl)) (by omega) hfr
  exact L3 (n + 1) 0 I (by omega) (by omega) (z_ar_eq hL (fun z a b => by unfold f_grp; rw [if_neg (by omega)])) (fun q a => rfl)

theorem zit_ind {α : Type} {st : Nat → α → α} {p : α → Prop} {n : Nat} (hs : ∀ k x, k < n → p x → p (st k x)) : ∀ m, m ≤ n → ∀ x, p x → p (zit st m x) := by
  intro m
  induction m with
  | zero => intro _ x h; exact h
  | succ m ih => intro hm x h; exact hs m _ (by omega) (ih (by omega) x h)
theorem f_far_b {D : Int → Int} {n : Nat} (hD : z_bd D 36 0 1000000) (hn : n ≤ 6) : 0 ≤ f_far D n ∧ f_far D n ≤ 1000000 :=
  zit_ind (p := fun m : Int => 0 ≤ m ∧ m ≤ 1000000) (n := n) (fun a m ha hm => zit_ind (p := fun m : Int => 0 ≤ m ∧ m ≤ 1000000) (n := n) (fun b m hb hm => f_fr2_b hD (by omega) (by omega) hm) n (Nat.le_refl _) m hm) n (Nat.le_refl _) 0 ⟨by decide, by decide⟩
theorem zDay_fr {P P1 : zP} {d : Nat} (h : zDay P d) (e : P1 d = P d) : zDay P1 d := by unfold zDay at *; rw [e]; exact h
abbrev zS3 : Type := Int × (Int → Int) × (Int → Int)
def f_ct (D : Int → Int) (n : Nat) (t : Int) (_ : Nat) (S : zS3) : zS3 := (min (min t 999) (S.1 + f_far D n), zit (fun fr L => f_gr D n fr (min (min t 999) (S.1 + f_far D n)) S.1 S.2.1 L) n (f_cl (min (min t 999) (S.1 + f_far D n)) S.2.2), S.2.1)
def q_cnt (I : zI) (J : zJ) (P : zP) (S : zS3) (v : Option Value) (I1 : zI) (J1 : zJ) (P1 : zP) : Prop := v = none ∧ J1 = J ∧ (∃ a b, zRw P1 a b ∧ z_ar I1 a 6000 S.2.1 ∧ z_ar I1 b 6000 S.2.2) ∧ (∀ q, q ≠ 59 → P1 q = P q) ∧ I1 59 2 = iI S.1 ∧ (0 ≤ S.1 ∧ S.1 ≤ 999) ∧ ∀ q, (q < 59 ∨ 61 < q) → I1 q = I q
set_option maxRecDepth 20000 in
theorem m_endingAt (I : zI) (J : zJ) (P : zP) (a b : Nat) (hRw : zRw P a b) (R : Int) (hR : I 59 2 = iI R) (hRb : 0 ≤ R ∧ R ≤ 999) (C : Int → Int) (hC : z_ar I a 6000 C) (p t : Int) (hp : z_rg p) (ht : z_rg t) : z_Fn 0 yX5_endingAt cX5_endingAt 3 (some .int) 108 108 I J P [.ref 59, .int (iI p), .int (iI t)] (some (.int (iI (if (0 ≤ p ∧ p < 6) ∧ 0 ≤ t ∧ t ≤ R then C (p * 1000 + t) else 0)))) (I) (J) (P) := by
  obtain ⟨ha, hb, hab, w0, w1⟩ := id hRw
  obtain ⟨sa, la, ga⟩ := z_rw ha
  have hp1 := hp.1
  have hp2 := hp.2
  have ht1 := ht.1
  have ht2 := ht.2
  refine z_met false (by decide +kernel) (fun h => by cases h) (Nat.le_of_ble_eq_true rfl) (by first | decide | omega) (fun V hV => ?_)
  show V 108 I J P 0 [.ref 59, .int (iI p), .int (iI t)] []
  refine r_iload_n hV dX5_endingAt_0 rfl ?_
  refine s_if_lt hV 22 dX5_endingAt_1 (by decide) (by unfold z_rg; first | omega | (split <;> omega)) (fun c1 => ?_) (fun c1 => ?_)
  · refine s_iconst hV dX5_endingAt_22 (0) (by decide) ?_
    refine r_iret hV dX5_endingAt_23 rfl rfl ?_
    refine ⟨?_, rfl, rfl, rfl⟩
    first | rw [if_pos (by omega)] | rw [if_neg (by omega)]
  · refine r_iload_n hV dX5_endingAt_4 rfl ?_
    refine s_bipush hV dX5_endingAt_5 (6) (by decide) ?_
    refine s_icmp_ge hV 22 dX5_endingAt_7 (by decide) (by unfold z_rg; first | omega | (split <;> omega)) (by unfold z_rg; first | omega | (split <;> omega)) (fun c7 => ?_) (fun c7 => ?_)
    · refine s_iconst hV dX5_endingAt_22 (0) (by decide) ?_
      refine r_iret hV dX5_endingAt_23 rfl rfl ?_
      refine ⟨?_, rfl, rfl, rfl⟩
      first | rw [if_pos (by omega)] | rw [if_neg (by omega)]
    · refine r_iload_n hV dX5_endingAt_10 rfl ?_
      refine s_if_lt hV 22 dX5_endingAt_11 (by decide) (by unfold z_rg; first | omega | (split <;> omega)) (fun c11 => ?_) (fun c11 => ?_)
      · refine s_iconst hV dX5_endingAt_22 (0) (by decide) ?_
        refine r_iret hV dX5_endingAt_23 rfl rfl ?_
        refine ⟨?_, rfl, rfl, rfl⟩
        first | rw [if_pos (by omega)] | rw [if_neg (by omega)]
      · refine r_iload_n hV dX5_endingAt_14 rfl ?_
        refine r_aload_n hV dX5_endingAt_15 rfl rfl ?_
        refine r_getI hV dX5_endingAt_16 fl_X5_18 (by first | decide | omega) (by first | rfl | assumption) hR ?_
        refine s_icmp_le hV 24 dX5_endingAt_19 (by decide) (by unfold z_rg; first | omega | (split <;> omega)) (by unfold z_rg; first | omega | (split <;> omega)) (fun c19 => ?_) (fun c19 => ?_)
        · refine r_aload_n hV dX5_endingAt_24 rfl rfl ?_
          refine r_getR hV dX5_endingAt_25 fl_X5_11 (by first | decide | omega) (by first | rfl | assumption) (by first | assumption | rfl) ?_
          refine r_iload_n hV dX5_endingAt_28 rfl ?_
          refine s_sipush hV dX5_endingAt_29 (1000) (by decide) ?_
          refine s_imul hV dX5_endingAt_32 ?_
          refine r_iload_n hV dX5_endingAt_33 rfl ?_
          refine s_iadd hV dX5_endingAt_34 ?_
          refine s_iaload hV dX5_endingAt_35 (by first | decide | omega) (by first | rfl | assumption) (by decide) (by omega) (by omega) (hC _ (by omega) (by omega)) ?_
          refine r_iret hV dX5_endingAt_36 rfl rfl ?_
          refine ⟨?_, rfl, rfl, rfl⟩
          first | rw [if_pos (by omega)] | rw [if_neg (by omega)]
        · refine s_iconst hV dX5_endingAt_22 (0) (by decide) ?_
          refine r_iret hV dX5_endingAt_23 rfl rfl ?_
          refine ⟨?_, rfl, rfl, rfl⟩
          first | rw [if_pos (by omega)] | rw [if_neg (by omega)]

set_option maxRecDepth 20000 in
theorem m_count (I : zI) (J : zJ) (P : zP) (a0 b0 : Nat) (hRw : zRw P a0 b0) (d : Nat) (hD : zDay P d) (n : Nat) (hn : I d 0 = iI (n : Int)) (hnb : n ≤ 6) (D : Int → Int) (hDl : z_ar I (d + 2) 36 D) (hDb : z_bd D 36 0 1000000) (pl : Int) (hpl : 0 ≤ pl ∧ pl < n) (w : Nat) (hw : w ≤ 8) (t : Int) (ht : 0 ≤ t ∧ t ≤ 999) (C0 L0 : Int → Int) (hC0 : z_ar I a0 6000 C0) (hL0 : z_ar I b0 6000 L0) : z_Sp 4 yX5_count cX5_count 8 none 108 108 I J P [.ref 59, .ref d, .int (iI pl), .int (iI (w : Int)), .int (iI t)] (q_cnt I J P (zit (f_ct D n t) w (0, zup (f_cl 0 C0) (pl * 1000) 1, L0))) := by
  obtain ⟨hd, p4, p5, p6, p7, p8⟩ := id hD
  obtain ⟨hlt, s0, s1, s2, s3, s4, s5⟩ := zDay_s hD
  obtain ⟨ha0, hb0, hab0, v0, v1⟩ := id hRw
  obtain ⟨sa0, la0, ga0⟩ := z_rw ha0
  obtain ⟨sb0, lb0, gb0⟩ := z_rw hb0
  have hfb := f_far_b hDb hnb
  refine z_met false (by decide +kernel) (fun h => by cases h) (Nat.le_of_ble_eq_true rfl) (by first | decide | omega) (fun V hV => ?_)
  show V 108 I J P 0 [.ref 59, .ref d, .int (iI pl), .int (iI (w : Int)), .int (iI t), .null, .null, .null] []
  refine r_aload_n hV dX5_count_0 rfl rfl ?_
  refine s_iconst hV dX5_count_1 (0) (by decide) ?_
  refine r_putI hV dX5_count_2 fl_X5_18 (pf_X5_18 _) (z_okI_int rfl _) (by first | decide | omega) (by first | rfl | assumption) ?_
  generalize hI2 : zu I (59) (zu (I 59) 2 (iI 0)) = I2
  have hfI2 : ∀ q, q ≠ 59 → I2 q = I q := fun q h => by rw [← hI2]; exact zu_n _ _ h
  have hi2 : I2 59 2 = iI 0 := by rw [← hI2, zu_s, zu_s]
  refine r_aload_n hV dX5_count_5 rfl rfl ?_
  refine r_aload_n hV dX5_count_6 rfl rfl ?_
  refine r_getR hV dX5_count_7 fl_X5_11 (by first | decide | omega) (by first | rfl | assumption) (by first | assumption | rfl) ?_
  refine r_iv1 hV dX5_count_10 mv_X5_22 (m_clear I2 J P a0 ha0 0 hi2 (by omega) C0 (z_ar_fr hC0 (hfI2 _ (by omega)))) (by first | decide | omega) (by first | rfl | assumption) (by decide) (Nat.le_refl _) (Nat.le_of_ble_eq_true rfl) (fun v I3 J3 P3 hq => ?_)
  obtain ⟨rfl, ej, ep, hz3, hf3⟩ := hq
  rw [ej, ep]
  show V 108 I3 J P _ _ []
  have hn3 : I3 d 0 = iI (n : Int) := (congrFun ((hf3 d (by omega)).trans (hfI2 d (by omega))) 0).trans hn
  have hi3 : I3 59 2 = iI 0 := (congrFun (hf3 59 (by omega)) 2).trans hi2
  refine r_aload_n hV dX5_count_13 rfl rfl ?_
  refine r_iload_n hV dX5_count_14 rfl ?_
  refine q_iv1v hV dX5_count_15 mv_X5_26 (m_isPlace I3 J P d hD (n : Int) hn3 (by omega) pl (by unfold z_rg; omega)) (by first | decide | omega) (by first | rfl | assumption) (by decide) (Nat.le_refl _) (Nat.le_of_ble_eq_true rfl) ?_
  rw [if_pos hpl]
  refine s_if_eq hV 32 dX5_count_18 (by decide) (by unfold z_rg; first | omega | (split <;> omega)) (fun c18 => absurd c18 (by decide)) (fun _ => ?_)
  refine r_aload_n hV dX5_count_21 rfl rfl ?_
  refine r_getR hV dX5_count_22 fl_X5_11 (by first | decide | omega) (by first | rfl | assumption) (by first | assumption | rfl) ?_
  refine r_iload_n hV dX5_count_25 rfl ?_
  refine s_sipush hV dX5_count_26 (1000) (by decide) ?_
  refine s_imul hV dX5_count_29 ?_
  refine s_iconst hV dX5_count_30 (1) (by decide) ?_
  refine s_iastore hV dX5_count_31 (by first | decide | omega) (by first | rfl | assumption) (by decide) (by omega) (by omega) ?_
  have hc5 := z_ar_set hz3 (z := pl * 1000) (by omega) 1
  generalize hI5 : zu I3 (a0) (zu (I3 a0) (pl * 1000).toNat (iI 1)) = I5
  have hfI5 : ∀ q, q ≠ a0 → I5 q = I3 q := fun q h => by rw [← hI5]; exact zu_n _ _ h
  rw [hI5] at hc5
  have hi5 := (congrFun (hfI5 59 (by omega)) 2).trans hi3
  have hl5 : z_ar I5 b0 6000 L0 := z_ar_fr hL0 ((hfI5 b0 (fun h => hab0 h.symm)).trans ((hf3 b0 (fun h => hab0 h.symm)).trans (hfI2 b0 (by omega))))
  have hf5 : ∀ q, (q < 59 ∨ 61 < q) → I5 q = I q := fun q x => (hfI5 q (by omega)).trans ((hf3 q (by omega)).trans (hfI2 q (by omega)))
  refine s_iconst hV dX5_count_32 (0) (by decide) ?_
  refine r_istore hV dX5_count_33 (Nat.le_of_ble_eq_true rfl) rfl ?_
  have L35 : ∀ (k35 j : Nat) (a b : Nat) (R : Int) (C L : Int → Int) (I1 : zI) (P1 : zP), w - j < k35 → j ≤ w → ((R, C, L) = zit (f_ct D n t) j (0, zup (f_cl 0 C0) (pl * 1000) 1, L0)) → (zRw P1 a b) → (I1 59 2 = iI R) → (0 ≤ R ∧ R ≤ 999) → (z_ar I1 a 6000 C) → (z_ar I1 b 6000 L) → (∀ q, q ≠ 59 → P1 q = P q) → (∀ q, (q < 59 ∨ 61 < q) → I1 q = I q) → V 108 I1 J P1 35 [.ref 59, .ref d, .int (iI pl), .int (iI (w : Int)), .int (iI t), .int (iI (j : Int)), .null, .null] [] := by
    intro k35
    induction k35 with
    | zero => intro j a b  R  C L  I1  P1  hk1 hk2; omega
    | succ k35 ih35 =>
      intro j a b  R  C L  I1  P1  hk35 hl35 hS hRw hi hRb hc hl hP hfr
      obtain ⟨ha, hb, hab, w0, w1⟩ := id hRw
      obtain ⟨sa, la, ga⟩ := z_rw ha
      obtain ⟨sb, lb, gb⟩ := z_rw hb
      have hD1 : zDay P1 d := zDay_fr hD (hP d (by omega))
      refine r_iload hV dX5_count_35 rfl ?_
      refine r_iload_n hV dX5_count_37 rfl ?_
      refine s_icmp_ge hV 137 dX5_count_38 (by decide) (by unfold z_rg; first | omega | (split <;> omega)) (by unfold z_rg; first | omega | (split <;> omega)) (fun c38 => ?_) (fun c38 => ?_)
      · refine r_vret hV dX5_count_137 rfl rfl ?_
        have hj : j = w := by omega
        subst hj
        rw [← hS]
        exact ⟨rfl, rfl, ⟨a, b, hRw, hc, hl⟩, hP, hi, hRb, hfr⟩
      · refine r_iload hV dX5_count_41 rfl ?_
        refine s_bipush hV dX5_count_43 (8) (by decide) ?_
        refine s_icmp_ge hV 137 dX5_count_45 (by decide) (by unfold z_rg; first | omega | (split <;> omega)) (by unfold z_rg; first | omega | (split <;> omega)) (fun c45 => ?_) (fun c45 => ?_)
        · refine r_vret hV dX5_count_137 rfl rfl ?_
          have hj : j = w := by omega
          subst hj
          rw [← hS]
          exact ⟨rfl, rfl, ⟨a, b, hRw, hc, hl⟩, hP, hi, hRb, hfr⟩
        · refine r_aload_n hV dX5_count_48 rfl rfl ?_
          refine r_getI hV dX5_count_49 fl_X5_18 (by first | decide | omega) (by first | rfl | assumption) hi ?_
          refine r_istore hV dX5_count_52 (Nat.le_of_ble_eq_true rfl) rfl ?_
          refine r_aload_n hV dX5_count_54 rfl rfl ?_
          refine r_iload hV dX5_count_55 rfl ?_
          refine s_sipush hV dX5_count_57 (999) (by decide) ?_
          refine s_mmin hV dX5_count_60 mx_X5_32 (by decide) (Nat.le_of_ble_eq_true rfl) (by unfold z_rg; first | omega | (split <;> omega)) (by unfold z_rg; first | omega | (split <;> omega)) ?_
          refine r_iload hV dX5_count_63 rfl ?_
          refine r_aload_n hV dX5_count_65 rfl rfl ?_
          refine q_iv0v hV dX5_count_66 mv_X5_38 (m_farthest I1 J P1 d hD1 (n : Int) ((congrFun (hfr d (by omega)) 0).trans hn) (by omega) D (z_ar_fr hDl (hfr _ (by omega))) hDb) (by first | decide | omega) (by first | rfl | assumption) (by decide) (Nat.le_refl _) (Nat.le_of_ble_eq_true rfl) ?_
          rw [Int.toNat_natCast]
          refine s_iadd hV dX5_count_69 ?_
          refine s_mmin hV dX5_count_70 mx_X5_32 (by decide) (Nat.le_of_ble_eq_true rfl) (by unfold z_rg; first | omega | (split <;> omega)) (by unfold z_rg; first | omega | (split <;> omega)) ?_
          generalize hR2 : min (min t 999) (R + f_far D n) = R2
          have hR2b : 0 ≤ R2 ∧ R2 ≤ 999 := by omega
          refine r_putI hV dX5_count_73 fl_X5_18 (pf_X5_18 _) (z_okI_int rfl _) (by first | decide | omega) (by first | rfl | assumption) ?_
          generalize hI6 : zu I1 (59) (zu (I1 59) 2 (iI R2)) = I6
          have hfI6 : ∀ q, q ≠ 59 → I6 q = I1 q := fun q h => by rw [← hI6]; exact zu_n _ _ h
          have hi6 : I6 59 2 = iI R2 := by rw [← hI6, zu_s, zu_s]
          refine r_aload_n hV dX5_count_76 rfl rfl ?_
          refine r_aload_n hV dX5_count_77 rfl rfl ?_
          refine r_getR hV dX5_count_78 fl_X5_15 (by first | decide | omega) (by first | rfl | assumption) (by first | assumption | rfl) ?_
          refine r_iv1 hV dX5_count_81 mv_X5_22 (m_clear I6 J P1 b hb R2 hi6 hR2b L (z_ar_fr hl (hfI6 _ (by omega)))) (by first | decide | omega) (by first | rfl | assumption) (by decide) (Nat.le_refl _) (Nat.le_of_ble_eq_true rfl) (fun v I3 J3 P3 hq => ?_)
          obtain ⟨rfl, ej, ep, hz3, hf3⟩ := hq
          rw [ej, ep]
          show V 108 I3 J P1 _ _ []
          have hi3n : I3 59 2 = iI R2 := (congrFun (hf3 59 (by omega)) 2).trans hi6
          have hc3n : z_ar I3 a 6000 C := z_ar_fr hc ((hf3 a hab).trans (hfI6 a (by omega)))
          have hfr3n : ∀ q, (q < 59 ∨ 61 < q) → I3 q = I q := fun q x => (hf3 q (by omega)).trans ((hfI6 q (by omega)).trans (hfr q x))
          refine s_iconst hV dX5_count_84 (0) (by decide) ?_
          refine r_istore hV dX5_count_85 (Nat.le_of_ble_eq_true rfl) rfl ?_
          have L87 : ∀ (k87 x : Nat) (Lx : Int → Int) (I4 : zI), n - x < k87 → x ≤ n → (Lx = zit (fun fr L => f_gr D n fr R2 R C L) x (f_cl R2 L)) → (z_ar I4 b 6000 Lx) → (I4 59 2 = iI R2) → (z_ar I4 a 6000 C) → (∀ q, (q < 59 ∨ 61 < q) → I4 q = I q) → V 108 I4 J P1 87 [.ref 59, .ref d, .int (iI pl), .int (iI (w : Int)), .int (iI t), .int (iI (j : Int)), .int (iI R), .int (iI (x : Int))] [] := by
            intro k87
            induction k87 with
            | zero => intro x Lx  I4  hk1 hk2; omega
            | succ k87 ih87 =>
              intro x Lx  I4  hk87 hl87 hLx hz4 hr4 hc4 hfr4
              refine r_iload hV dX5_count_87 rfl ?_
              refine r_aload_n hV dX5_count_89 rfl rfl ?_
              refine r_getI hV dX5_count_90 fl_X5_42 (by first | decide | omega) (by first | rfl | assumption) ((congrFun (hfr4 d (by omega)) 0).trans hn) ?_
              refine s_icmp_ge hV 111 dX5_count_93 (by decide) (by unfold z_rg; first | omega | (split <;> omega)) (by unfold z_rg; first | omega | (split <;> omega)) (fun c93 => ?_) (fun c93 => ?_)
              · have hx : x = n := by omega
                subst hx
                rw [hLx] at hz4
                refine r_aload_n hV dX5_count_111 rfl rfl ?_
                refine r_getR hV dX5_count_112 fl_X5_11 (by first | decide | omega) (by first | rfl | assumption) (by first | assumption | rfl) ?_
                refine r_astore hV dX5_count_115 (Nat.le_of_ble_eq_true rfl) rfl ?_
                refine r_aload_n hV dX5_count_117 rfl rfl ?_
                refine r_aload_n hV dX5_count_118 rfl rfl ?_
                refine r_getR hV dX5_count_119 fl_X5_15 (by first | decide | omega) (by first | rfl | assumption) (by first | assumption | rfl) ?_
                refine r_putR hV dX5_count_122 fl_X5_11 (pf_X5_11 _) (by first | decide | omega) (by first | rfl | assumption) ?_
                refine r_aload_n hV dX5_count_125 rfl rfl ?_
                refine r_aload hV dX5_count_126 rfl rfl ?_
                refine r_putR hV dX5_count_128 fl_X5_15 (pf_X5_15 _) (by first | decide | omega) (by first | rfl | assumption) ?_
                refine s_iinc hV dX5_count_131 rfl rfl ?_
                refine r_goto hV 35 dX5_count_134 (by decide) ?_
                refine r_kill hV 6 rfl ?_
                refine r_kill hV 7 rfl ?_
                exact ih35 (j + 1) b a R2 _ C _ _ (by omega) (by omega) (by rw [zit, ← hS, f_ct, hR2]) ⟨hb, ha, fun h => hab h.symm, by simp [zu], by simp [zu]⟩ hr4 hR2b hz4 hc4 (fun q x => by rw [zu_n _ _ x, zu_n _ _ x]; exact hP q x) hfr4
              · refine r_aload_n hV dX5_count_96 rfl rfl ?_
                refine r_aload_n hV dX5_count_97 rfl rfl ?_
                refine r_iload hV dX5_count_98 rfl ?_
                refine r_iload hV dX5_count_100 rfl ?_
                refine r_iv3 hV dX5_count_102 mv_X5_45 (m_rgoOn I4 J P1 a b hRw d hD1 n ((congrFun (hfr4 d (by omega)) 0).trans hn) hnb D (z_ar_fr hDl (hfr4 _ (by omega))) hDb R2 hr4 hR2b x (by omega) R hRb C Lx hc4 hz4) (by first | decide | omega) (by first | rfl | assumption) (by decide) (Nat.le_refl _) (Nat.le_of_ble_eq_true rfl) (fun v I8 J8 P8 hq => ?_)
                obtain ⟨rfl, ej, ep, hz8, hf8⟩ := hq
                rw [ej, ep]
                show V 108 I8 J P1 _ _ []
                refine s_iinc hV dX5_count_105 rfl rfl ?_
                refine r_goto hV 87 dX5_count_108 (by decide) ?_
                exact ih87 (x + 1) _ _ (by omega) (by omega) (by rw [zit, ← hLx]) hz8 ((congrFun (hf8 59 (by omega)) 2).trans hr4) (z_ar_fr hc4 (hf8 a hab)) (fun q y => (hf8 q (by omega)).trans (hfr4 q y))
          exact L87 (n + 1) 0 _ I3 (by omega) (by omega) rfl hz3 hi3n hc3n hfr3n
  exact L35 (w + 1) 0 _ _ 0 _ _ _ P (by omega) (by omega) rfl hRw hi5 (by omega) hc5 hl5 (fun q x => rfl) hf5
