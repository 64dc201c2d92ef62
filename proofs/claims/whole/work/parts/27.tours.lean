def zTr (P : zP) (t : Nat) : Prop := (t = 46 ∨ t = 50 ∨ t = 53) ∧ P t 1 = some (t + 1) ∧ P t 2 = some (t + 2)
theorem zTr_s {P : zP} {t : Nat} (h : zTr P t) : t < 56 ∧ 46 ≤ t ∧ zSH t = .inl 9 ∧ zSH (t + 1) = .inr (.int, 384) ∧ zSH (t + 2) = .inr (.int, 64) := by
  rcases h.1 with rfl | rfl | rfl <;> exact ⟨by decide, by decide, rfl, rfl, rfl⟩
def f_gs (D : Int → Int) (set last : Nat) (st : Int) (x : Nat) (L : Int → Int) : Int → Int := if set ||| 2 ^ x = set then L else zup L (((set ||| 2 ^ x : Nat) : Int) * 6 + x) (min (L (((set ||| 2 ^ x : Nat) : Int) * 6 + x)) (st + D ((last : Int) * 6 + x)))
def f_go (D : Int → Int) (n set last : Nat) (st : Int) (L : Int → Int) : Int → Int := zit (f_gs D set last st) n L
def f_tl (D : Int → Int) (n home set last : Nat) (S : (Int → Int) × (Int → Int)) : (Int → Int) × (Int → Int) := (if S.1 ((set : Int) * 6 + last) < 1000000 then f_go D n set last (S.1 ((set : Int) * 6 + last)) S.1 else S.1, zup S.2 set (min (S.2 set) (S.1 ((set : Int) * 6 + last) + D ((last : Int) * 6 + home))))
def f_ts (D : Int → Int) (n home set : Nat) (S : (Int → Int) × (Int → Int)) : (Int → Int) × (Int → Int) := zit (f_tl D n home set) n (S.1, zup S.2 set 1000000)
def f_tr (D : Int → Int) (n home fr : Nat) (W0 : Int → Int) : (Int → Int) × (Int → Int) := zit (f_ts D n home) (2 ^ n) (zup (fun _ => 1000000) (((2 ^ fr : Nat) : Int) * 6 + fr) 0, W0)
theorem f_gs_b {D L : Int → Int} {set last x : Nat} {st : Int} (hD : z_bd D 36 0 1000000) (hL : z_bd L 384 0 1000000) (h1 : set < 64) (h2 : last < 6) (h3 : x < 6) (h4 : 0 ≤ st) : z_bd (f_gs D set last st x L) 384 0 1000000 := by
  unfold f_gs
  have h5 := z_or_lt h1 (z_pw h3)
  have h6 := hD ((last : Int) * 6 + x) (by omega) (by omega)
  have h7 := hL (((set ||| 2 ^ x : Nat) : Int) * 6 + x) (by omega) (by omega)
  split
  · exact hL
  · exact z_bd_up hL (by omega) (by omega)
theorem z_pn {n : Nat} (h : n ≤ 6) : 2 ^ n ≤ 64 := Nat.pow_le_pow_right (n := 2) (by omega) h
def q_go (I : zI) (J : zJ) (P : zP) (t : Nat) (A : Int → Int) (v : Option Value) (I1 : zI) (J1 : zJ) (P1 : zP) : Prop := v = none ∧ J1 = J ∧ P1 = P ∧ z_ar I1 (t + 1) 384 A ∧ z_bd A 384 0 1000000 ∧ ∀ q, q ≠ t + 1 → I1 q = I q
set_option maxRecDepth 20000 in
theorem m_goOn (I : zI) (J : zJ) (P : zP) (t d : Nat) (hT : zTr P t) (hD : zDay P d) (n : Nat) (hn : I d 0 = iI (n : Int)) (hnb : 1 ≤ n ∧ n ≤ 6) (D : Int → Int) (hL : z_ar I (d + 2) 36 D) (hLb : z_bd D 36 0 1000000) (set last : Nat) (st : Int) (hs : set < 64) (hl : last < n) (hst : 0 ≤ st ∧ st < 1000000) (A : Int → Int) (hA : z_ar I (t + 1) 384 A) (hAb : z_bd A 384 0 1000000) : z_Sp 2 yX9_goOn cX9_goOn 8 none 108 108 I J P [.ref t, .ref d, .int (iI (set : Int)), .int (iI (last : Int)), .int (iI st)] (q_go I J P t (f_go D n set last st A)) := by
  obtain ⟨hd, p4, p5, p6, p7, p8⟩ := id hD
  obtain ⟨hlt, s0, s1, s2, s3, s4, s5⟩ := zDay_s hD
  obtain ⟨ht, q1, q2⟩ := id hT
  obtain ⟨htl, htg, t0, t1, t2⟩ := zTr_s hT
  refine z_met false (by decide +kernel) (fun h => by cases h) (Nat.le_of_ble_eq_true rfl) (by first | decide | omega) (fun V hV => ?_)
  show V 108 I J P 0 [.ref t, .ref d, .int (iI (set : Int)), .int (iI (last : Int)), .int (iI st), .null, .null, .null] []
  refine s_iconst hV dX9_goOn_0 (0) (by decide) ?_
  refine r_istore hV dX9_goOn_1 (Nat.le_of_ble_eq_true rfl) rfl ?_
  have L3 : ∀ (k3 j : Nat) (I1 : zI), n - j < k3 → j ≤ n → (z_ar I1 (t + 1) 384 (zit (f_gs D set last st) j A)) → (z_bd (zit (f_gs D set last st) j A) 384 0 1000000) → (∀ q, q ≠ t + 1 → I1 q = I q) → V 108 I1 J P 3 [.ref t, .ref d, .int (iI (set : Int)), .int (iI (last : Int)), .int (iI st), .int (iI (j : Int)), .null, .null] [] := by
    intro k3
    induction k3 with
    | zero => intro j I1  hk1 hk2; omega
    | succ k3 ih3 =>
      intro j I1  hk3 hl3 hz hzb hfr
      refine r_iload hV dX9_goOn_3 rfl ?_
      refine r_aload_n hV dX9_goOn_5 rfl rfl ?_
      refine r_getI hV dX9_goOn_6 fl_X9_29 (by first | decide | omega) (by first | rfl | assumption) ((congrFun (hfr d (by omega)) 0).trans hn) ?_
      refine s_icmp_ge hV 69 dX9_goOn_9 (by decide) (by unfold z_rg; first | omega | (split <;> omega)) (by unfold z_rg; first | omega | (split <;> omega)) (fun c9 => ?_) (fun c9 => ?_)
      · refine r_vret hV dX9_goOn_69 rfl rfl ?_
        rw [show j = n by omega] at hz hzb
        exact ⟨rfl, rfl, rfl, hz, hzb, hfr⟩
      · have hpw := z_pw (k := j) (by omega)
        have hor1 := z_or_lt hs hpw
        have hzb2 : z_bd (zit (f_gs D set last st) (j + 1) A) 384 0 1000000 := f_gs_b hLb hzb hs (by omega) (by omega) hst.1
        have hdb := hLb ((last : Int) * 6 + j) (by omega) (by omega)
        refine r_iload_n hV dX9_goOn_12 rfl ?_
        refine s_iconst hV dX9_goOn_13 (1) (by decide) ?_
        refine r_iload hV dX9_goOn_14 rfl ?_
        refine s_ishl hV dX9_goOn_16 (by first | exact zb_shl (by omega) | exact zb_shl' (by omega) (by omega)) ?_
        refine s_ior hV dX9_goOn_17 (zb_or (by omega) (by omega)) ?_
        refine r_istore hV dX9_goOn_18 (Nat.le_of_ble_eq_true rfl) rfl ?_
        refine r_iload hV dX9_goOn_20 rfl ?_
        refine r_iload_n hV dX9_goOn_22 rfl ?_
        refine s_icmp_eq hV 63 dX9_goOn_23 (by decide) (by unfold z_rg; first | omega | (split <;> omega)) (by unfold z_rg; first | omega | (split <;> omega)) (fun c23 => ?_) (fun c23 => ?_)
        · have hor : set ||| 2 ^ j = set := by omega
          refine s_iinc hV dX9_goOn_63 rfl rfl ?_
          refine r_goto hV 3 dX9_goOn_66 (by decide) ?_
          first
            | (refine r_kill hV 6 rfl ?_
               refine r_kill hV 7 rfl ?_
               exact ih3 (j + 1) _ (by omega) (by omega) (by rw [zit, f_gs, if_neg hor]; exact z_ar_set hz (by omega) _) hzb2 (fun q a => by rw [zu_n _ _ a]; exact hfr q a))
            | (refine r_kill hV 6 rfl ?_
               exact ih3 (j + 1) _ (by omega) (by omega) (by rw [zit, f_gs, if_pos hor]; exact hz) hzb2 hfr)
        · have hor : ¬ set ||| 2 ^ j = set := by omega
          have hzb3 := hzb (((set ||| 2 ^ j : Nat) : Int) * 6 + j) (by omega) (by omega)
          refine r_iload hV dX9_goOn_26 rfl ?_
          refine s_bipush hV dX9_goOn_28 (6) (by decide) ?_
          refine s_imul hV dX9_goOn_30 ?_
          refine r_iload hV dX9_goOn_31 rfl ?_
          refine s_iadd hV dX9_goOn_33 ?_
          refine r_istore hV dX9_goOn_34 (Nat.le_of_ble_eq_true rfl) rfl ?_
          refine r_aload_n hV dX9_goOn_36 rfl rfl ?_
          refine r_getR hV dX9_goOn_37 fl_X9_9 (by first | decide | omega) (by first | rfl | assumption) (by first | assumption | rfl) ?_
          refine r_iload hV dX9_goOn_40 rfl ?_
          refine r_aload_n hV dX9_goOn_42 rfl rfl ?_
          refine r_getR hV dX9_goOn_43 fl_X9_9 (by first | decide | omega) (by first | rfl | assumption) (by first | assumption | rfl) ?_
          refine r_iload hV dX9_goOn_46 rfl ?_
          refine s_iaload hV dX9_goOn_48 (by first | decide | omega) (by first | rfl | assumption) (by decide) (by omega) (by omega) (hz _ (by omega) (by omega)) ?_
          refine r_iload hV dX9_goOn_49 rfl ?_
          refine r_aload_n hV dX9_goOn_51 rfl rfl ?_
          refine r_iload_n hV dX9_goOn_52 rfl ?_
          refine r_iload hV dX9_goOn_53 rfl ?_
          refine q_iv2v hV dX9_goOn_55 mv_X9_36 (m_between I1 J P d hD (n : Int) ((congrFun (hfr d (by omega)) 0).trans hn) (by omega) (last : Int) (by unfold z_rg; omega) (j : Int) (by unfold z_rg; omega) D (z_ar_fr hL (hfr _ (by omega)))) (by first | decide | omega) (by first | rfl | assumption) (by decide) (Nat.le_refl _) (Nat.le_of_ble_eq_true rfl) ?_
          rw [if_pos (show (0 ≤ (last : Int) ∧ (last : Int) < (n : Int)) ∧ 0 ≤ (j : Int) ∧ (j : Int) < (n : Int) by omega)]
          refine s_iadd hV dX9_goOn_58 ?_
          refine s_mmin hV dX9_goOn_59 mx_X9_40 (by decide) (Nat.le_of_ble_eq_true rfl) (by unfold z_rg; first | omega | (split <;> omega)) (by unfold z_rg; first | omega | (split <;> omega)) ?_
          refine s_iastore hV dX9_goOn_62 (by first | decide | omega) (by first | rfl | assumption) (by decide) (by omega) (by omega) ?_
          refine s_iinc hV dX9_goOn_63 rfl rfl ?_
          refine r_goto hV 3 dX9_goOn_66 (by decide) ?_
          first
            | (refine r_kill hV 6 rfl ?_
               refine r_kill hV 7 rfl ?_
               exact ih3 (j + 1) _ (by omega) (by omega) (by rw [zit, f_gs, if_neg hor]; exact z_ar_set hz (by omega) _) hzb2 (fun q a => by rw [zu_n _ _ a]; exact hfr q a))
            | (refine r_kill hV 6 rfl ?_
               exact ih3 (j + 1) _ (by omega) (by omega) (by rw [zit, f_gs, if_pos hor]; exact hz) hzb2 hfr)
  exact L3 (n + 1) 0 I (by omega) (by omega) hA hAb (fun q a => rfl)

def q_tr (I : zI) (J : zJ) (P : zP) (t : Nat) (fr : Int) (A W : Int → Int) (v : Option Value) (I1 : zI) (J1 : zJ) (P1 : zP) : Prop := v = none ∧ J1 = J ∧ P1 = P ∧ I1 t 0 = iI fr ∧ z_ar I1 (t + 2) 64 W ∧ ∀ q, q ≠ t → q ≠ t + 1 → q ≠ t + 2 → I1 q = I q
set_option maxRecDepth 20000 in
theorem m_tbegin (I : zI) (J : zJ) (P : zP) (t d : Nat) (hT : zTr P t) (hD : zDay P d) (n : Nat) (hn : I d 0 = iI (n : Int)) (hnb : 1 ≤ n ∧ n ≤ 6) (D : Int → Int) (hL : z_ar I (d + 2) 36 D) (hLb : z_bd D 36 0 1000000) (fr home : Nat) (hfb : fr < n) (hhb : home < n) (W0 : Int → Int) (hW : z_ar I (t + 2) 64 W0) : z_Sp 3 yX9_begin cX9_begin 7 none 108 108 I J P [.ref t, .ref d, .int (iI (fr : Int)), .int (iI (home : Int))] (q_tr I J P t (fr : Int) (f_tr D n home fr W0).1 (f_tr D n home fr W0).2) := by
  obtain ⟨hd, p4, p5, p6, p7, p8⟩ := id hD
  obtain ⟨hlt, s0, s1, s2, s3, s4, s5⟩ := zDay_s hD
  obtain ⟨ht, q1, q2⟩ := id hT
  obtain ⟨htl, htg, t0, t1, t2⟩ := zTr_s hT
  have hpn := z_pn hnb.2
  have hpf := z_pw (k := fr) (by omega)
  have hpf0 : 0 ≤ ((2 ^ fr : Nat) : Int) := Int.natCast_nonneg _
  refine z_met false (by decide +kernel) (fun h => by cases h) (Nat.le_of_ble_eq_true rfl) (by first | decide | omega) (fun V hV => ?_)
  show V 108 I J P 0 [.ref t, .ref d, .int (iI (fr : Int)), .int (iI (home : Int)), .null, .null, .null] []
  refine r_aload_n hV dX9_begin_0 rfl rfl ?_
  refine r_aload_n hV dX9_begin_1 rfl rfl ?_
  refine r_iload_n hV dX9_begin_2 rfl ?_
  refine q_iv1v hV dX9_begin_3 mv_X9_18 (m_isPlace I J P d hD (n : Int) hn (by omega) (fr : Int) (by unfold z_rg; omega)) (by first | decide | omega) (by first | rfl | assumption) (by decide) (Nat.le_refl _) (Nat.le_of_ble_eq_true rfl) ?_
  rw [if_pos (show 0 ≤ (fr : Int) ∧ (fr : Int) < (n : Int) by omega)]
  refine s_if_eq hV 13 dX9_begin_6 (by decide) (by unfold z_rg; first | omega | (split <;> omega)) (fun c6 => absurd c6 (by decide)) (fun _ => ?_)
  refine r_iload_n hV dX9_begin_9 rfl ?_
  refine r_goto hV 14 dX9_begin_10 (by decide) ?_
  refine r_putI hV dX9_begin_14 fl_X9_24 (pf_X9_24 _) (z_okI_int rfl _) (by first | decide | omega) (by first | rfl | assumption) ?_
  refine s_iconst hV dX9_begin_17 (0) (by decide) ?_
  refine r_istore hV dX9_begin_18 (Nat.le_of_ble_eq_true rfl) rfl ?_
  have L20 : ∀ (k20 j : Nat) (I1 : zI), 384 - j < k20 → j ≤ 384 → (I1 t 0 = iI (fr : Int)) → (z_ar I1 (t + 1) (j : Int) (fun _ => 1000000)) → (∀ q, q ≠ t → q ≠ t + 1 → I1 q = I q) → V 108 I1 J P 20 [.ref t, .ref d, .int (iI (fr : Int)), .int (iI (home : Int)), .int (iI (j : Int)), .null, .null] [] := by
    intro k20
    induction k20 with
    | zero => intro j I1  hk1 hk2; omega
    | succ k20 ih20 =>
      intro j I1  hk20 hl20 hs0 hz hfr
      refine r_iload hV dX9_begin_20 rfl ?_
      refine s_sipush hV dX9_begin_22 (384) (by decide) ?_
      refine s_icmp_ge hV 43 dX9_begin_25 (by decide) (by unfold z_rg; first | omega | (split <;> omega)) (by unfold z_rg; first | omega | (split <;> omega)) (fun c25 => ?_) (fun c25 => ?_)
      · rw [show j = 384 by omega] at hz
        refine r_aload_n hV dX9_begin_43 rfl rfl ?_
        refine r_getR hV dX9_begin_44 fl_X9_9 (by first | decide | omega) (by first | rfl | assumption) (by first | assumption | rfl) ?_
        refine s_iconst hV dX9_begin_47 (1) (by decide) ?_
        refine r_aload_n hV dX9_begin_48 rfl rfl ?_
        refine r_getI hV dX9_begin_49 fl_X9_24 (by first | decide | omega) (by first | rfl | assumption) hs0 ?_
        refine s_ishl hV dX9_begin_52 (by first | exact zb_shl (by omega) | exact zb_shl' (by omega) (by omega)) ?_
        refine s_bipush hV dX9_begin_53 (6) (by decide) ?_
        refine s_imul hV dX9_begin_55 ?_
        refine r_aload_n hV dX9_begin_56 rfl rfl ?_
        refine r_getI hV dX9_begin_57 fl_X9_24 (by first | decide | omega) (by first | rfl | assumption) hs0 ?_
        refine s_iadd hV dX9_begin_60 ?_
        refine s_iconst hV dX9_begin_61 (0) (by decide) ?_
        refine s_iastore hV dX9_begin_62 (by first | decide | omega) (by first | rfl | assumption) (by decide) (by omega) (by omega) ?_
        have hz0 := z_ar_set hz (z := ((2 ^ fr : Nat) : Int) * 6 + fr) (by omega) 0
        generalize hI0 : zu I1 (t + 1) (zu (I1 (t + 1)) (((2 ^ fr : Nat) : Int) * 6 + fr).toNat (iI 0)) = I0
        have hfI0 : ∀ q, q ≠ t + 1 → I0 q = I1 q := fun q h => by rw [← hI0]; exact zu_n _ _ h
        rw [hI0] at hz0
        refine s_iconst hV dX9_begin_63 (0) (by decide) ?_
        refine r_istore hV dX9_begin_64 (Nat.le_of_ble_eq_true rfl) rfl ?_
        have L66 : ∀ (k66 j : Nat) (A0 W1 : Int → Int) (I1 : zI), 2 ^ n - j < k66 → j ≤ 2 ^ n → ((A0, W1) = zit (f_ts D n home) j (zup (fun _ => 1000000) (((2 ^ fr : Nat) : Int) * 6 + fr) 0, W0)) → (I1 t 0 = iI (fr : Int)) → (z_ar I1 (t + 1) 384 A0) → (z_bd A0 384 0 1000000) → (z_ar I1 (t + 2) 64 W1) → (∀ q, q ≠ t → q ≠ t + 1 → q ≠ t + 2 → I1 q = I q) → V 108 I1 J P 66 [.ref t, .ref d, .int (iI (fr : Int)), .int (iI (home : Int)), .int (iI (j : Int)), .null, .null] [] := by
          intro k66
          induction k66 with
          | zero => intro j A0 W1  I1  hk1 hk2; omega
          | succ k66 ih66 =>
            intro j A0 W1  I1  hk66 hl66 hS hs0 hz hzb hw hfr
            refine r_iload hV dX9_begin_66 rfl ?_
            refine s_iconst hV dX9_begin_68 (1) (by decide) ?_
            refine r_aload_n hV dX9_begin_69 rfl rfl ?_
            refine r_getI hV dX9_begin_70 fl_X9_29 (by first | decide | omega) (by first | rfl | assumption) ((congrFun (hfr d (by omega) (by omega) (by omega)) 0).trans hn) ?_
            refine s_ishl hV dX9_begin_73 (by first | exact zb_shl (by omega) | exact zb_shl' (by omega) (by omega)) ?_
            refine s_icmp_ge hV 170 dX9_begin_74 (by decide) (by unfold z_rg; first | omega | (split <;> omega)) (by unfold z_rg; first | omega | (split <;> omega)) (fun c74 => ?_) (fun c74 => ?_)
            · refine r_vret hV dX9_begin_170 rfl rfl ?_
              rw [show j = 2 ^ n by omega] at hS
              have e : f_tr D n home fr W0 = (A0, W1) := hS.symm
              rw [e]
              exact ⟨rfl, rfl, rfl, hs0, hw, hfr⟩
            · have hj64 : j < 64 := by omega
              refine r_aload_n hV dX9_begin_77 rfl rfl ?_
              refine r_getR hV dX9_begin_78 fl_X9_15 (by first | decide | omega) (by first | rfl | assumption) (by first | assumption | rfl) ?_
              refine r_iload hV dX9_begin_81 rfl ?_
              refine s_ldc hV dX9_begin_83 ct_X9_28 (1000000) (by decide) ?_
              refine s_iastore hV dX9_begin_85 (by first | decide | omega) (by first | rfl | assumption) (by decide) (by omega) (by omega) ?_
              have hw0 := z_ar_set hw (z := (j : Int)) (by omega) 1000000
              generalize hI3 : zu I1 (t + 2) (zu (I1 (t + 2)) (j : Int).toNat (iI 1000000)) = I3
              have hfI3 : ∀ q, q ≠ t + 2 → I3 q = I1 q := fun q h => by rw [← hI3]; exact zu_n _ _ h
              rw [hI3] at hw0
              have hS0 := hS
              refine s_iconst hV dX9_begin_86 (0) (by decide) ?_
              refine r_istore hV dX9_begin_87 (Nat.le_of_ble_eq_true rfl) rfl ?_
              have L89 : ∀ (k89 a : Nat) (A W : Int → Int) (I1 : zI), n - a < k89 → a ≤ n → ((A, W) = zit (f_tl D n home j) a (A0, zup W1 j 1000000)) → (I1 t 0 = iI (fr : Int)) → (z_ar I1 (t + 1) 384 A) → (z_bd A 384 0 1000000) → (z_ar I1 (t + 2) 64 W) → (0 ≤ W j ∧ W j ≤ 1000000) → (∀ q, q ≠ t → q ≠ t + 1 → q ≠ t + 2 → I1 q = I q) → V 108 I1 J P 89 [.ref t, .ref d, .int (iI (fr : Int)), .int (iI (home : Int)), .int (iI (j : Int)), .int (iI (a : Int)), .null] [] := by
                intro k89
                induction k89 with
                | zero => intro a A W  I1  hk1 hk2; omega
                | succ k89 ih89 =>
                  intro a A W  I1  hk89 hl89 hS hs0 hz hzb hw hwb hfr
                  refine r_iload hV dX9_begin_89 rfl ?_
                  refine r_aload_n hV dX9_begin_91 rfl rfl ?_
                  refine r_getI hV dX9_begin_92 fl_X9_29 (by first | decide | omega) (by first | rfl | assumption) ((congrFun (hfr d (by omega) (by omega) (by omega)) 0).trans hn) ?_
                  refine s_icmp_ge hV 164 dX9_begin_95 (by decide) (by unfold z_rg; first | omega | (split <;> omega)) (by unfold z_rg; first | omega | (split <;> omega)) (fun c95 => ?_) (fun c95 => ?_)
                  · refine s_iinc hV dX9_begin_164 rfl rfl ?_
                    refine r_goto hV 66 dX9_begin_167 (by decide) ?_
                    refine r_kill hV 5 rfl ?_
                    refine r_kill hV 6 rfl ?_
                    exact ih66 (j + 1) _ _ _ (by omega) (by omega) (by rw [show a = n by omega] at hS; rw [zit, ← hS0, f_ts]; exact hS) hs0 hz hzb hw hfr
                  · have hab := hzb ((j : Int) * 6 + a) (by omega) (by omega)
                    have hdb := hLb ((a : Int) * 6 + home) (by omega) (by omega)
                    refine r_aload_n hV dX9_begin_98 rfl rfl ?_
                    refine r_getR hV dX9_begin_99 fl_X9_9 (by first | decide | omega) (by first | rfl | assumption) (by first | assumption | rfl) ?_
                    refine r_iload hV dX9_begin_102 rfl ?_
                    refine s_bipush hV dX9_begin_104 (6) (by decide) ?_
                    refine s_imul hV dX9_begin_106 ?_
                    refine r_iload hV dX9_begin_107 rfl ?_
                    refine s_iadd hV dX9_begin_109 ?_
                    refine s_iaload hV dX9_begin_110 (by first | decide | omega) (by first | rfl | assumption) (by decide) (by omega) (by omega) (hz _ (by omega) (by omega)) ?_
                    refine r_istore hV dX9_begin_111 (Nat.le_of_ble_eq_true rfl) rfl ?_
                    refine r_iload hV dX9_begin_113 rfl ?_
                    refine s_ldc hV dX9_begin_115 ct_X9_28 (1000000) (by decide) ?_
                    refine s_icmp_ge hV 131 dX9_begin_117 (by decide) (by unfold z_rg; first | omega | (split <;> omega)) (by unfold z_rg; first | omega | (split <;> omega)) (fun hlt6 => ?_) (fun hlt6 => ?_)
                    · have hs4 := hs0
                      have hz4 := hz
                      have hzb4 := hzb
                      have hw4 := hw
                      have hfr4 := hfr
                      refine r_aload_n hV dX9_begin_131 rfl rfl ?_
                      refine r_getR hV dX9_begin_132 fl_X9_15 (by first | decide | omega) (by first | rfl | assumption) (by first | assumption | rfl) ?_
                      refine r_iload hV dX9_begin_135 rfl ?_
                      refine r_aload_n hV dX9_begin_137 rfl rfl ?_
                      refine r_getR hV dX9_begin_138 fl_X9_15 (by first | decide | omega) (by first | rfl | assumption) (by first | assumption | rfl) ?_
                      refine r_iload hV dX9_begin_141 rfl ?_
                      refine s_iaload hV dX9_begin_143 (by first | decide | omega) (by first | rfl | assumption) (by decide) (by omega) (by omega) (hw4 _ (by omega) (by omega)) ?_
                      refine r_iload hV dX9_begin_144 rfl ?_
                      refine r_aload_n hV dX9_begin_146 rfl rfl ?_
                      refine r_iload hV dX9_begin_147 rfl ?_
                      refine r_iload_n hV dX9_begin_149 rfl ?_
                      refine q_iv2v hV dX9_begin_150 mv_X9_36 (m_between _ J P d hD (n : Int) ((congrFun (hfr4 d (by omega) (by omega) (by omega)) 0).trans hn) (by omega) (a : Int) (by unfold z_rg; omega) (home : Int) (by unfold z_rg; omega) D (z_ar_fr hL (hfr4 _ (by omega) (by omega) (by omega)))) (by first | decide | omega) (by first | rfl | assumption) (by decide) (Nat.le_refl _) (Nat.le_of_ble_eq_true rfl) ?_
                      rw [if_pos (show (0 ≤ (a : Int) ∧ (a : Int) < (n : Int)) ∧ 0 ≤ (home : Int) ∧ (home : Int) < (n : Int) by omega)]
                      refine s_iadd hV dX9_begin_153 ?_
                      refine s_mmin hV dX9_begin_154 mx_X9_40 (by decide) (Nat.le_of_ble_eq_true rfl) (by unfold z_rg; first | omega | (split <;> omega)) (by unfold z_rg; first | omega | (split <;> omega)) ?_
                      refine s_iastore hV dX9_begin_157 (by first | decide | omega) (by first | rfl | assumption) (by decide) (by omega) (by omega) ?_
                      refine s_iinc hV dX9_begin_158 rfl rfl ?_
                      refine r_goto hV 89 dX9_begin_161 (by decide) ?_
                      refine r_kill hV 6 rfl ?_
                      have hw5 := z_ar_set hw4 (z := (j : Int)) (by omega) (min (W j) (A ((j : Int) * 6 + a) + D ((a : Int) * 6 + home)))
                      exact ih89 (a + 1) _ _ _ (by omega) (by omega) (by rw [zit, ← hS, f_tl]; simp only; first | rw [if_pos (show A ((j : Int) * 6 + a) < 1000000 by omega)] | rw [if_neg (show ¬ A ((j : Int) * 6 + a) < 1000000 by omega)]) (by rw [zu_n _ _ (by omega)]; exact hs4) (z_ar_fr hz4 (zu_n _ _ (by omega))) hzb4 hw5 ⟨by simp [zup]; omega, by simp [zup]; omega⟩ (fun q x y z => by rw [zu_n _ _ z]; exact hfr4 q x y z)
                    · refine r_aload_n hV dX9_begin_120 rfl rfl ?_
                      refine r_aload_n hV dX9_begin_121 rfl rfl ?_
                      refine r_iload hV dX9_begin_122 rfl ?_
                      refine r_iload hV dX9_begin_124 rfl ?_
                      refine r_iload hV dX9_begin_126 rfl ?_
                      refine r_iv4 hV dX9_begin_128 mv_X9_32 (m_goOn I1 J P t d hT hD n ((congrFun (hfr d (by omega) (by omega) (by omega)) 0).trans hn) hnb D (z_ar_fr hL (hfr _ (by omega) (by omega) (by omega))) hLb j a (A ((j : Int) * 6 + a)) (by omega) (by omega) (by omega) A hz hzb) (by first | decide | omega) (by first | rfl | assumption) (by decide) (Nat.le_refl _) (Nat.le_of_ble_eq_true rfl) (fun v I4 J4 P4 hq => ?_)
                      obtain ⟨rfl, ej, ep, hz4, hzb4, hf4⟩ := hq
                      rw [ej, ep]
                      show V 108 I4 J P _ _ []
                      have hs4 : I4 t 0 = iI (fr : Int) := (congrFun (hf4 t (by omega)) 0).trans hs0
                      have hw4 : z_ar I4 (t + 2) 64 W := z_ar_fr hw (hf4 _ (by omega))
                      have hfr4 : ∀ q, q ≠ t → q ≠ t + 1 → q ≠ t + 2 → I4 q = I q := fun q x y z => (hf4 q y).trans (hfr q x y z)
                      refine r_aload_n hV dX9_begin_131 rfl rfl ?_
                      refine r_getR hV dX9_begin_132 fl_X9_15 (by first | decide | omega) (by first | rfl | assumption) (by first | assumption | rfl) ?_
                      refine r_iload hV dX9_begin_135 rfl ?_
                      refine r_aload_n hV dX9_begin_137 rfl rfl ?_
                      refine r_getR hV dX9_begin_138 fl_X9_15 (by first | decide | omega) (by first | rfl | assumption) (by first | assumption | rfl) ?_
                      refine r_iload hV dX9_begin_141 rfl ?_
                      refine s_iaload hV dX9_begin_143 (by first | decide | omega) (by first | rfl | assumption) (by decide) (by omega) (by omega) (hw4 _ (by omega) (by omega)) ?_
                      refine r_iload hV dX9_begin_144 rfl ?_
                      refine r_aload_n hV dX9_begin_146 rfl rfl ?_
                      refine r_iload hV dX9_begin_147 rfl ?_
                      refine r_iload_n hV dX9_begin_149 rfl ?_
                      refine q_iv2v hV dX9_begin_150 mv_X9_36 (m_between _ J P d hD (n : Int) ((congrFun (hfr4 d (by omega) (by omega) (by omega)) 0).trans hn) (by omega) (a : Int) (by unfold z_rg; omega) (home : Int) (by unfold z_rg; omega) D (z_ar_fr hL (hfr4 _ (by omega) (by omega) (by omega)))) (by first | decide | omega) (by first | rfl | assumption) (by decide) (Nat.le_refl _) (Nat.le_of_ble_eq_true rfl) ?_
                      rw [if_pos (show (0 ≤ (a : Int) ∧ (a : Int) < (n : Int)) ∧ 0 ≤ (home : Int) ∧ (home : Int) < (n : Int) by omega)]
                      refine s_iadd hV dX9_begin_153 ?_
                      refine s_mmin hV dX9_begin_154 mx_X9_40 (by decide) (Nat.le_of_ble_eq_true rfl) (by unfold z_rg; first | omega | (split <;> omega)) (by unfold z_rg; first | omega | (split <;> omega)) ?_
                      refine s_iastore hV dX9_begin_157 (by first | decide | omega) (by first | rfl | assumption) (by decide) (by omega) (by omega) ?_
                      refine s_iinc hV dX9_begin_158 rfl rfl ?_
                      refine r_goto hV 89 dX9_begin_161 (by decide) ?_
                      refine r_kill hV 6 rfl ?_
                      have hw5 := z_ar_set hw4 (z := (j : Int)) (by omega) (min (W j) (A ((j : Int) * 6 + a) + D ((a : Int) * 6 + home)))
                      exact ih89 (a + 1) _ _ _ (by omega) (by omega) (by rw [zit, ← hS, f_tl]; simp only; first | rw [if_pos (show A ((j : Int) * 6 + a) < 1000000 by omega)] | rw [if_neg (show ¬ A ((j : Int) * 6 + a) < 1000000 by omega)]) (by rw [zu_n _ _ (by omega)]; exact hs4) (z_ar_fr hz4 (zu_n _ _ (by omega))) hzb4 hw5 ⟨by simp [zup]; omega, by simp [zup]; omega⟩ (fun q x y z => by rw [zu_n _ _ z]; exact hfr4 q x y z)
              exact L89 (n + 1) 0 A0 _ I3 (by omega) (by omega) rfl ((congrFun (hfI3 t (by omega)) 0).trans hs0) (z_ar_fr hz (hfI3 _ (by omega))) hzb hw0 (by simp [zup]) (fun q x y z => (hfI3 q z).trans (hfr q x y z))
        exact L66 (2 ^ n + 1) 0 _ _ I0 (Nat.lt_succ_self _) (Nat.zero_le _) rfl ((congrFun (hfI0 t (by omega)) 0).trans hs0) hz0 (z_bd_up (fun z a b => by simp) (by omega) (by omega)) (z_ar_fr hW ((hfI0 (t + 2) (by omega)).trans (hfr (t + 2) (by omega) (by omega)))) (fun q a b c => (hfI0 q b).trans (hfr q a b))
      · refine r_aload_n hV dX9_begin_28 rfl rfl ?_
        refine r_getR hV dX9_begin_29 fl_X9_9 (by first | decide | omega) (by first | rfl | assumption) (by first | assumption | rfl) ?_
        refine r_iload hV dX9_begin_32 rfl ?_
        refine s_ldc hV dX9_begin_34 ct_X9_28 (1000000) (by decide) ?_
        refine s_iastore hV dX9_begin_36 (by first | decide | omega) (by first | rfl | assumption) (by decide) (by omega) (by omega) ?_
        refine s_iinc hV dX9_begin_37 rfl rfl ?_
        refine r_goto hV 20 dX9_begin_40 (by decide) ?_
        exact ih20 (j + 1) _ (by omega) (by omega) (by rw [zu_n _ _ (by omega)]; exact hs0) (z_ar_push hz) (fun q a b => by rw [zu_n _ _ b]; exact hfr q a b)
  exact L20 385 0 _ (by omega) (by omega) (by rw [zu_s, zu_s]) z_ar_0 (fun q a b => zu_n _ _ a)

set_option maxRecDepth 20000 in
theorem m_by (I : zI) (J : zJ) (P : zP) (t : Nat) (hT : zTr P t) (fr : Nat) (hfr : I t 0 = iI (fr : Int)) (hf6 : fr < 6) (W : Int → Int) (hW : z_ar I (t + 2) 64 W) (s : Nat) (hs : s < 64) : z_Fn 0 yX9_by cX9_by 3 (some .int) 108 108 I J P [.ref t, .int (iI (s : Int))] (some (.int (iI (W ((s ||| 2 ^ fr : Nat) : Int))))) (I) (J) (P) := by
  obtain ⟨ht, q1, q2⟩ := id hT
  obtain ⟨htl, htg, t0, t1, t2⟩ := zTr_s hT
  have hpf := z_pw hf6
  have hor := z_or_lt hs hpf
  refine z_met false (by decide +kernel) (fun h => by cases h) (Nat.le_of_ble_eq_true rfl) (by first | decide | omega) (fun V hV => ?_)
  show V 108 I J P 0 [.ref t, .int (iI (s : Int)), .null] []
  refine r_iload_n hV dX9_by_0 rfl ?_
  refine s_iconst hV dX9_by_1 (1) (by decide) ?_
  refine r_aload_n hV dX9_by_2 rfl rfl ?_
  refine r_getI hV dX9_by_3 fl_X9_24 (by first | decide | omega) (by first | rfl | assumption) (by first | assumption | rfl) ?_
  refine s_ishl hV dX9_by_6 (by first | exact zb_shl (by omega) | exact zb_shl' (by omega) (by omega)) ?_
  refine s_ior hV dX9_by_7 (zb_or (by omega) (by omega)) ?_
  refine r_istore_n hV dX9_by_8 (Nat.le_of_ble_eq_true rfl) rfl ?_
  refine r_iload_n hV dX9_by_9 rfl ?_
  refine s_if_lt hV 28 dX9_by_10 (by decide) (by unfold z_rg; first | omega | (split <;> omega)) (fun c10 => absurd c10 (by omega)) (fun _ => ?_)
  refine r_iload_n hV dX9_by_13 rfl ?_
  refine s_bipush hV dX9_by_14 (64) (by decide) ?_
  refine s_icmp_ge hV 28 dX9_by_16 (by decide) (by unfold z_rg; first | omega | (split <;> omega)) (by unfold z_rg; first | omega | (split <;> omega)) (fun c16 => absurd c16 (by omega)) (fun _ => ?_)
  refine r_aload_n hV dX9_by_19 rfl rfl ?_
  refine r_getR hV dX9_by_20 fl_X9_15 (by first | decide | omega) (by first | rfl | assumption) (by first | assumption | rfl) ?_
  refine r_iload_n hV dX9_by_23 rfl ?_
  refine s_iaload hV dX9_by_24 (by first | decide | omega) (by first | rfl | assumption) (by decide) (by omega) (by omega) (hW _ (by omega) (by omega)) ?_
  refine r_goto hV 30 dX9_by_25 (by decide) ?_
  refine r_iret hV dX9_by_30 rfl rfl ?_
  exact ⟨rfl, rfl, rfl, rfl⟩
