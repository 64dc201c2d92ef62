set_option maxRecDepth 20000 in
theorem m_offer (I : zI) (J : zJ) (P : zP) (x y : Int) : z_Fn 0 yX3_offer cX3_offer 3 none 108 108 I J P [.ref 49, .int (iI x), .int (iI y)] none (zu (zu I 49 (zu (I 49) 4 (iI x))) 49 (zu (zu I 49 (zu (I 49) 4 (iI x)) 49) 5 (iI y))) (J) (P) := by
  refine z_met false (by decide +kernel) (fun h => by cases h) (Nat.le_of_ble_eq_true rfl) (by first | decide | omega) (fun V hV => ?_)
  show V 108 I J P 0 [.ref 49, .int (iI x), .int (iI y)] []
  refine r_aload_n hV dX3_offer_0 rfl rfl ?_
  refine r_iload_n hV dX3_offer_1 rfl ?_
  refine r_putI hV dX3_offer_2 fl_X3_28 (pf_X3_28 _) (z_okI_int rfl _) (by first | decide | omega) (by first | rfl | assumption) ?_
  refine r_aload_n hV dX3_offer_5 rfl rfl ?_
  refine r_iload_n hV dX3_offer_6 rfl ?_
  refine r_putI hV dX3_offer_7 fl_X3_32 (pf_X3_32 _) (z_okI_int rfl _) (by first | decide | omega) (by first | rfl | assumption) ?_
  refine r_vret hV dX3_offer_10 rfl rfl ?_
  exact ⟨rfl, rfl, rfl, rfl⟩

def f_WO (e : Nat) (U : Int → Int) (z : Int) : Int := zsum (f_wt z.toNat U) e
def f_HS (e him hE : Nat) (W WI : Int → Int) (z : Int) : Int := if zdf z.toNat hE = 0 then WI ((zpl z.toNat W e ||| 2 ^ him : Nat) : Int) else 1000000
def f_HR (e her : Nat) (W WH : Int → Int) (z : Int) : Int := WH ((zpl z.toNat W e ||| 2 ^ her : Nat) : Int)
def q_set (I : zI) (J : zJ) (P : zP) (B : zB5) (v : Option Value) (I1 : zI) (J1 : zJ) (P1 : zP) : Prop := v = none ∧ J1 = J ∧ P1 = P ∧ cPl I1 B ∧ bPl B ∧ I1 49 4 = I 49 4 ∧ I1 49 5 = I 49 5 ∧ ∀ q, (q < 49 ∨ 57 < q) → I1 q = I q
theorem f_WO_b {e : Nat} {U : Int → Int} (h : z_bd U 6 0 9) (he : e ≤ 6) : z_bd (f_WO e U) (2 ^ e : Nat) 0 1000 := by
  intro z h0 h1
  have := f_wt_b (s := z.toNat) h he
  unfold f_WO
  omega
/-- tours' answers are steps or no way -/
theorem f_tl_b {D A W : Int → Int} {n home set last : Nat} (hD : z_bd D 36 0 1000000) (hA : z_bd A 384 0 1000000) (hs : set < 64) (hl : last < n) (hn : n ≤ 6) (hh : home < n) (hW : z_bd W 64 0 1000000) : z_bd (f_tl D n home set last (A, W)).1 384 0 1000000 ∧ z_bd (f_tl D n home set last (A, W)).2 64 0 1000000 := by
  have h1 := hA ((set : Int) * 6 + last) (by omega) (by omega)
  have h2 := hD ((last : Int) * 6 + home) (by omega) (by omega)
  have h3 := hW (set : Int) (by omega) (by omega)
  refine ⟨?_, ?_⟩
  · unfold f_tl
    simp only
    split
    · have key : ∀ m, m ≤ n → z_bd (zit (f_gs D set last (A ((set : Int) * 6 + last))) m A) 384 0 1000000 := by
        intro m
        induction m with
        | zero => intro _; exact hA
        | succ m ih => intro hm; exact f_gs_b hD (ih (by omega)) hs (by omega) (by omega) h1.1
      exact key n (Nat.le_refl n)
    · exact hA
  · unfold f_tl
    simp only
    exact z_bd_up hW (by omega) (by omega)
theorem f_tr_b {D W0 : Int → Int} {n home fr : Nat} (hD : z_bd D 36 0 1000000) (hn : n ≤ 6) (hh : home < n) (hf : fr < n) : z_bd (f_tr D n home fr W0).2 (2 ^ n : Nat) 0 1000000 := by
  have hp := z_pn hn
  have key : ∀ m, m ≤ 2 ^ n → z_bd (zit (f_ts D n home) m (zup (fun _ => 1000000) (((2 ^ fr : Nat) : Int) * 6 + fr) 0, W0)).1 384 0 1000000 ∧ z_bd (zit (f_ts D n home) m (zup (fun _ => 1000000) (((2 ^ fr : Nat) : Int) * 6 + fr) 0, W0)).2 (m : Nat) 0 1000000 := by
    intro m
    induction m with
    | zero => intro _; exact ⟨z_bd_up (fun z a b => by simp) (by omega) (by omega), fun z a b => by omega⟩
    | succ m ih =>
      intro hm
      obtain ⟨i1, i2⟩ := ih (by omega)
      rw [zit]
      generalize zit (f_ts D n home) m (zup (fun _ => 1000000) (((2 ^ fr : Nat) : Int) * 6 + fr) 0, W0) = S at i1 i2
      obtain ⟨A, W⟩ := S
      simp only at i1 i2
      have key2 : ∀ a, a ≤ n → z_bd (zit (f_tl D n home m) a (A, zup W m 1000000)).1 384 0 1000000 ∧ z_bd (zit (f_tl D n home m) a (A, zup W m 1000000)).2 ((m + 1 : Nat)) 0 1000000 := by
        intro a
        induction a with
        | zero =>
          intro _
          refine ⟨i1, fun z h0 h1 => ?_⟩
          show 0 ≤ zup W m 1000000 z ∧ zup W m 1000000 z ≤ 1000000
          unfold zup
          split
          · omega
          · exact i2 z h0 (by omega)
        | succ a iha =>
          intro ha
          obtain ⟨j1, j2⟩ := iha (by omega)
          rw [zit]
          generalize zit (f_tl D n home m) a (A, zup W m 1000000) = T at j1 j2
          obtain ⟨A2, W2⟩ := T
          simp only at j1 j2
          have g1 := j1 ((m : Int) * 6 + a) (by omega) (by omega)
          have g2 := hD ((a : Int) * 6 + home) (by omega) (by omega)
          have g3 := j2 (m : Int) (by omega) (by omega)
          refine ⟨?_, ?_⟩
          · unfold f_tl
            simp only
            split
            · have key3 : ∀ k, k ≤ n → z_bd (zit (f_gs D m a (A2 ((m : Int) * 6 + a))) k A2) 384 0 1000000 := by
                intro k
                induction k with
                | zero => intro _; exact j1
                | succ k ih => intro hk; exact f_gs_b hD (ih (by omega)) (by omega) (by omega) (by omega) g1.1
              exact key3 n (Nat.le_refl n)
            · exact j1
          · unfold f_tl
            simp only
            exact z_bd_up j2 (by omega) (by omega)
      exact key2 n (Nat.le_refl n)
  exact (key (2 ^ n) (Nat.le_refl _)).2
theorem zpl_n {s n : Nat} {W : Int → Int} {m : Nat} (hn : n ≤ 6) (hW : z_bd W m 0 (n - 1)) : zpl s W m < 2 ^ n := by
  induction m with
  | zero => exact Nat.two_pow_pos n
  | succ m ih =>
    have h1 := ih (fun z a b => hW z a (by omega))
    have h2 := hW (m : Int) (by omega) (by omega)
    unfold zpl
    split
    · exact Nat.or_lt_two_pow h1 (Nat.pow_lt_pow_right (by omega) (by omega))
    · exact h1
set_option maxRecDepth 20000 in
theorem m_settle (I : zI) (J : zJ) (P : zP) (hP : zPn P) (hTa : zTr P 50) (hTb : zTr P 53) (d : Nat) (hD : zDay P d) (n : Nat) (hn : I d 0 = iI (n : Int)) (hnb : 2 ≤ n ∧ n ≤ 6) (e : Nat) (he : I d 3 = iI (e : Int)) (he6 : e ≤ 6) (D : Int → Int) (hL : z_ar I (d + 2) 36 D) (hLb : z_bd D 36 0 1000000) (W U : Int → Int) (hW : z_ar I (d + 3) 6 W) (hWb : z_bd W e 0 (n - 1)) (hU : z_ar I (d + 4) 6 U) (hUb : z_bd U 6 0 9) (rE iE : Nat) (hrE : I 49 4 = iI (rE : Int)) (hiE : I 49 5 = iI (iE : Int)) (hr64 : rE < 64) (hi64 : iE < 64) (her him home : Nat) (hher : her < n) (hhim : him < n) (hhome : home < n) (left : Int) (hleft : 0 ≤ left ∧ left ≤ 100000) : z_Sp 4 yX3_settle cX3_settle 9 none 108 108 I J P [.ref 49, .ref d, .int (iI (her : Int)), .int (iI (him : Int)), .int (iI (home : Int)), .int (iI left)] (q_set I J P (zit (f_tp (f_HR e her W (f_tr D n home her (fun z => (I 52 z.toNat).toInt)).2) (f_HS e him iE W (f_tr D n home him (fun z => (I 55 z.toNat).toInt)).2) (f_WO e U) left rE (2 ^ e)) (2 ^ e) ((0 : Int), (I 49 7).toInt, (I 49 8).toInt, (I 49 9).toInt, (I 49 10).toInt))) := by
  obtain ⟨hd, p4, p5, p6, p7, p8⟩ := id hD
  obtain ⟨hlt, s0, s1, s2, s3, s4, s5⟩ := zDay_s hD
  obtain ⟨pp0, pp1, pp2, pp3⟩ := id hP
  have hpe := z_pn he6
  have hpl5 : z_bd W e 0 5 := fun z a b => by have := hWb z a b; omega
  generalize hWHe : (f_tr D n home her (fun z => (I 52 z.toNat).toInt)).2 = WH
  generalize hWIe : (f_tr D n home him (fun z => (I 55 z.toNat).toInt)).2 = WI
  have hWHb : z_bd WH (2 ^ n : Nat) 0 1000000 := hWHe ▸ f_tr_b hLb hnb.2 hhome hher
  have hWIb : z_bd WI (2 ^ n : Nat) 0 1000000 := hWIe ▸ f_tr_b hLb hnb.2 hhome hhim
  have hzl : ∀ s, zpl s W e < 2 ^ n := fun s => zpl_n hnb.2 hWb
  have hph := Nat.pow_lt_pow_right (a := 2) (by omega) hher
  have hpi := Nat.pow_lt_pow_right (a := 2) (by omega) hhim
  have hn64 := z_pn hnb.2
  have hHSb : z_bd (f_HS e him iE W WI) (2 ^ e : Nat) 0 1000000 := fun z a b => by
    unfold f_HS
    split
    · exact hWIb _ (by omega) (by have := Nat.or_lt_two_pow (hzl z.toNat) hpi; omega)
    · omega
  have hHRb : ∀ s : Nat, 0 ≤ f_HR e her W WH (s : Int) ∧ f_HR e her W WH (s : Int) ≤ 1000000 := fun s => hWHb _ (by omega) (by have := Nat.or_lt_two_pow (hzl (s : Int).toNat) hph; omega)
  have hWOb := f_WO_b hUb he6
  refine z_met false (by decide +kernel) (fun h => by cases h) (Nat.le_of_ble_eq_true rfl) (by first | decide | omega) (fun V hV => ?_)
  show V 108 I J P 0 [.ref 49, .ref d, .int (iI (her : Int)), .int (iI (him : Int)), .int (iI (home : Int)), .int (iI left), .null, .null, .null] []
  refine r_aload_n hV dX3_settle_0 rfl rfl ?_
  refine r_getR hV dX3_settle_1 fl_X3_12 (by first | decide | omega) (by first | rfl | assumption) (by first | assumption | rfl) ?_
  refine r_aload_n hV dX3_settle_4 rfl rfl ?_
  refine r_iload_n hV dX3_settle_5 rfl ?_
  refine r_iload hV dX3_settle_6 rfl ?_
  refine r_iv3 hV dX3_settle_8 mv_X3_35 (m_tbegin I J P 50 d hTa hD n hn (by omega) D hL hLb her home hher hhome _ (z_ar_any I 52 64)) (by first | decide | omega) (by first | rfl | assumption) (by decide) (Nat.le_refl _) (Nat.le_of_ble_eq_true rfl) (fun v I1 J1 P1 hq => ?_)
  obtain ⟨rfl, ej, ep, e50, e52, ef⟩ := hq
  rw [ej, ep]
  show V 108 I1 J P _ _ []
  rw [hWHe] at e52
  refine r_aload_n hV dX3_settle_11 rfl rfl ?_
  refine r_getR hV dX3_settle_12 fl_X3_18 (by first | decide | omega) (by first | rfl | assumption) (by first | assumption | rfl) ?_
  refine r_aload_n hV dX3_settle_15 rfl rfl ?_
  refine r_iload_n hV dX3_settle_16 rfl ?_
  refine r_iload hV dX3_settle_17 rfl ?_
  refine r_iv3 hV dX3_settle_19 mv_X3_35 (m_tbegin I1 J P 53 d hTb hD n ((congrFun (ef d (by omega) (by omega) (by omega)) 0).trans hn) (by omega) D (z_ar_fr hL (ef _ (by omega) (by omega) (by omega))) hLb him home hhim hhome (fun z => (I 55 z.toNat).toInt) (z_ar_fr (z_ar_any I 55 64) (ef 55 (by decide) (by decide) (by decide)))) (by first | decide | omega) (by first | rfl | assumption) (by decide) (Nat.le_refl _) (Nat.le_of_ble_eq_true rfl) (fun v I2 J2 P2 hq => ?_)
  obtain ⟨rfl, ej2, ep2, k53, k55, kf⟩ := hq
  rw [ej2, ep2]
  show V 108 I2 J P _ _ []
  rw [hWIe] at k55
  have k50 : I2 50 0 = iI (her : Int) := (congrFun (kf 50 (by decide) (by decide) (by decide)) 0).trans e50
  have k52 : z_ar I2 52 64 WH := z_ar_fr e52 (kf 52 (by decide) (by decide) (by decide))
  have k2 : ∀ q, (q < 50 ∨ 55 < q) → I2 q = I q := fun q a => (kf q (by omega) (by omega) (by omega)).trans (ef q (by omega) (by omega) (by omega))
  have k249 := k2 49 (by decide)
  refine r_aload_n hV dX3_settle_22 rfl rfl ?_
  refine s_iconst hV dX3_settle_23 (0) (by decide) ?_
  refine s_putZ hV dX3_settle_24 fl_X3_39 (pf_X3_39 _) rfl (by omega) (by first | decide | omega) (by first | rfl | assumption) ?_
  refine s_iconst hV dX3_settle_27 (1) (by decide) ?_
  refine r_aload_n hV dX3_settle_28 rfl rfl ?_
  refine r_getI hV dX3_settle_29 fl_X3_43 (by first | decide | omega) (by first | rfl | assumption) (show _ = iI (e : Int) from by rw [zu_n _ _ (by omega), k2 d (by omega)]; exact he) ?_
  refine s_ishl hV dX3_settle_32 (by first | exact zb_shl (by omega) | exact zb_shl' (by omega) (by omega)) ?_
  refine r_istore hV dX3_settle_33 (Nat.le_of_ble_eq_true rfl) rfl ?_
  refine s_iconst hV dX3_settle_35 (0) (by decide) ?_
  refine r_istore hV dX3_settle_36 (Nat.le_of_ble_eq_true rfl) rfl ?_
  have L38 : ∀ (k38 j : Nat) (I1 : zI), 2 ^ e - j < k38 → j ≤ 2 ^ e → (I1 49 4 = I 49 4) → (I1 49 5 = I 49 5) → (I1 49 6 = iI 0) → (I1 49 7 = I 49 7) → (I1 49 8 = I 49 8) → (I1 49 9 = I 49 9) → (I1 49 10 = I 49 10) → (I1 50 0 = iI (her : Int)) → (z_ar I1 52 64 WH) → (I1 53 0 = iI (him : Int)) → (z_ar I1 55 64 WI) → (z_ar I1 57 (j : Int) (f_WO e U)) → (z_ar I1 56 (j : Int) (f_HS e him iE W WI)) → (∀ q, (q < 49 ∨ 57 < q) → I1 q = I q) → V 108 I1 J P 38 [.ref 49, .ref d, .int (iI (her : Int)), .int (iI (him : Int)), .int (iI (home : Int)), .int (iI left), .int (iI ((2 ^ e : Nat) : Int)), .int (iI (j : Int)), .null] [] := by
    intro k38
    induction k38 with
    | zero => intro j I1  hk1 hk2; omega
    | succ k38 ih38 =>
      intro j I1  hk38 hl38 g4 g5 g6 g7 g8 g9 g10 ha hb hc hdd hzWO hzHS hfr
      refine r_iload hV dX3_settle_38 rfl ?_
      refine r_iload hV dX3_settle_40 rfl ?_
      refine s_icmp_ge hV 101 dX3_settle_42 (by decide) (by unfold z_rg; first | omega | (split <;> omega)) (by unfold z_rg; first | omega | (split <;> omega)) (fun c42 => ?_) (fun c42 => ?_)
      · have hj2 : j = 2 ^ e := by omega
        subst hj2
        refine s_iconst hV dX3_settle_101 (0) (by decide) ?_
        refine r_istore hV dX3_settle_102 (Nat.le_of_ble_eq_true rfl) rfl ?_
        have L104 : ∀ (k104 j : Nat) (B : zB5) (I1 : zI), 2 ^ e - j < k104 → j ≤ 2 ^ e → (B = zit (f_tp (f_HR e her W WH) (f_HS e him iE W WI) (f_WO e U) left rE (2 ^ e)) j ((0 : Int), (I 49 7).toInt, (I 49 8).toInt, (I 49 9).toInt, (I 49 10).toInt)) → (cPl I1 B) → (bPl B) → (I1 49 4 = I 49 4) → (I1 49 5 = I 49 5) → (I1 50 0 = iI (her : Int)) → (z_ar I1 52 64 WH) → (I1 53 0 = iI (him : Int)) → (z_ar I1 55 64 WI) → (z_ar I1 57 ((2 ^ e : Nat) : Int) (f_WO e U)) → (z_ar I1 56 ((2 ^ e : Nat) : Int) (f_HS e him iE W WI)) → (∀ q, (q < 49 ∨ 57 < q) → I1 q = I q) → V 108 I1 J P 104 [.ref 49, .ref d, .int (iI (her : Int)), .int (iI (him : Int)), .int (iI (home : Int)), .int (iI left), .int (iI ((2 ^ e : Nat) : Int)), .int (iI (j : Int)), .null] [] := by
          intro k104
          induction k104 with
          | zero => intro j B  I1  hk1 hk2; omega
          | succ k104 ih104 =>
            intro j B  I1  hk104 hl104 hB hcB hbB g4 g5 ha hb hc hdd hzWO hzHS hfr
            refine r_iload hV dX3_settle_104 rfl ?_
            refine r_iload hV dX3_settle_106 rfl ?_
            refine s_icmp_ge hV 163 dX3_settle_108 (by decide) (by unfold z_rg; first | omega | (split <;> omega)) (by unfold z_rg; first | omega | (split <;> omega)) (fun c108 => ?_) (fun c108 => ?_)
            · refine r_vret hV dX3_settle_163 rfl rfl ?_
              rw [show j = 2 ^ e by omega] at hB
              rw [← hB]
              exact ⟨rfl, rfl, rfl, hcB, hbB, g4, g5, hfr⟩
            · refine r_iload hV dX3_settle_111 rfl ?_
              refine r_aload_n hV dX3_settle_113 rfl rfl ?_
              refine r_getI hV dX3_settle_114 fl_X3_28 (by first | decide | omega) (by first | rfl | assumption) (g4.trans hrE) ?_
              refine q_is2v hV dX3_settle_117 ms_X3_52 (m_isPartOf I1 J P j rE (by omega) hr64) (by decide) (Nat.le_refl _) (Nat.le_of_ble_eq_true rfl) ?_
              refine s_if_eq hV 157 dX3_settle_120 (by decide) (by unfold z_rg; first | omega | (split <;> omega)) (fun c120 => ?_) (fun c120 => ?_)
              · have hpart := z_ite0 c120
                have hBn : B = zit (f_tp (f_HR e her W WH) (f_HS e him iE W WI) (f_WO e U) left rE (2 ^ e)) (j + 1) ((0 : Int), (I 49 7).toInt, (I 49 8).toInt, (I 49 9).toInt, (I 49 10).toInt) := by
                  rw [zit, ← hB, f_tp, if_neg (fun h => hpart h.1)]
                have hcn := hcB
                have hbn := hbB
                have hg4n := g4
                have hg5n := g5
                have han := ha
                have hbbn := hb
                have hcn2 := hc
                have hddn := hdd
                have hwon := hzWO
                have hhsn := hzHS
                have hfrn := hfr
                refine s_iinc hV dX3_settle_157 rfl rfl ?_
                refine r_goto hV 104 dX3_settle_160 (by decide) ?_
                first
                  | (refine r_kill hV 8 rfl ?_
                     exact ih104 (j + 1) _ _ (by omega) (by omega) hBn (hcn) hbn hg4n hg5n han hbbn hcn2 hddn hwon hhsn hfrn)
              · have hpart := z_ite1 c120
                refine r_aload_n hV dX3_settle_123 rfl rfl ?_
                refine r_getR hV dX3_settle_124 fl_X3_12 (by first | decide | omega) (by first | rfl | assumption) (by first | assumption | rfl) ?_
                refine r_aload_n hV dX3_settle_127 rfl rfl ?_
                refine r_iload hV dX3_settle_128 rfl ?_
                refine q_iv1v hV dX3_settle_130 mv_X3_56 (m_placesOfSet I1 J P d hD (e : Int) ((congrFun (hfr d (by omega)) 3).trans he) (by omega) j (by omega) W (z_ar_fr hW (hfr _ (by omega))) hpl5) (by first | decide | omega) (by first | rfl | assumption) (by decide) (Nat.le_refl _) (Nat.le_of_ble_eq_true rfl) ?_
                rw [Int.toNat_natCast]
                refine q_iv1v hV dX3_settle_133 mv_X3_59 (m_by I1 J P 50 hTa her ha (by omega) WH hb (zpl j W e) (Nat.lt_of_lt_of_le (hzl j) hn64)) (by first | decide | omega) (by first | rfl | assumption) (by decide) (Nat.le_refl _) (Nat.le_of_ble_eq_true rfl) ?_
                have hHRj : f_HR e her W WH (j : Int) = WH ((zpl j W e ||| 2 ^ her : Nat) : Int) := by unfold f_HR; rw [Int.toNat_natCast]
                have hHRj2 := hHRb j
                rw [hHRj] at hHRj2
                refine r_istore hV dX3_settle_136 (Nat.le_of_ble_eq_true rfl) rfl ?_
                refine r_iload hV dX3_settle_138 rfl ?_
                refine r_iload hV dX3_settle_140 rfl ?_
                refine s_icmp_gt hV 157 dX3_settle_142 (by decide) (by unfold z_rg; first | omega | (split <;> omega)) (by unfold z_rg; first | omega | (split <;> omega)) (fun c142 => ?_) (fun c142 => ?_)
                · have hBn : B = zit (f_tp (f_HR e her W WH) (f_HS e him iE W WI) (f_WO e U) left rE (2 ^ e)) (j + 1) ((0 : Int), (I 49 7).toInt, (I 49 8).toInt, (I 49 9).toInt, (I 49 10).toInt) := by
                    rw [zit, ← hB, f_tp, if_neg (fun h => by have := h.2; rw [hHRj] at this; omega)]
                  have hcn := hcB
                  have hbn := hbB
                  have hg4n := g4
                  have hg5n := g5
                  have han := ha
                  have hbbn := hb
                  have hcn2 := hc
                  have hddn := hdd
                  have hwon := hzWO
                  have hhsn := hzHS
                  have hfrn := hfr
                  refine s_iinc hV dX3_settle_157 rfl rfl ?_
                  refine r_goto hV 104 dX3_settle_160 (by decide) ?_
                  first
                    | (refine r_kill hV 8 rfl ?_
                       exact ih104 (j + 1) _ _ (by omega) (by omega) hBn (hcn) hbn hg4n hg5n han hbbn hcn2 hddn hwon hhsn hfrn)
                · refine r_aload_n hV dX3_settle_145 rfl rfl ?_
                  refine r_iload hV dX3_settle_146 rfl ?_
                  refine r_iload hV dX3_settle_148 rfl ?_
                  refine r_iload hV dX3_settle_150 rfl ?_
                  refine r_iload hV dX3_settle_152 rfl ?_
                  refine r_iv4 hV dX3_settle_154 mv_X3_63 (m_tryWith I1 J P hP B hcB hbB e (2 ^ e) rfl he6 (f_HS e him iE W WI) (f_WO e U) hzHS hHSb hzWO hWOb j (by omega) (WH ((zpl j W e ||| 2 ^ her : Nat) : Int)) left (by omega) hleft) (by first | decide | omega) (by first | rfl | assumption) (by decide) (Nat.le_refl _) (Nat.le_of_ble_eq_true rfl) (fun v I6 J6 P6 hq => ?_)
                  obtain ⟨rfl, ej6, ep6, hcn, hbn, r4, r5, rf⟩ := hq
                  rw [ej6, ep6]
                  show V 108 I6 J P _ _ []
                  have hBn : zit (f_tw (f_HS e him iE W WI) (f_WO e U) left j (WH ((zpl j W e ||| 2 ^ her : Nat) : Int))) (2 ^ e) B = zit (f_tp (f_HR e her W WH) (f_HS e him iE W WI) (f_WO e U) left rE (2 ^ e)) (j + 1) ((0 : Int), (I 49 7).toInt, (I 49 8).toInt, (I 49 9).toInt, (I 49 10).toInt) := by
                    rw [zit, ← hB, f_tp, if_pos ⟨hpart, by rw [hHRj]; omega⟩, hHRj]
                  have hg4n := r4.trans g4
                  have hg5n := r5.trans g5
                  have han := (congrFun (rf 50 (by decide)) 0).trans ha
                  have hbbn := z_ar_fr hb (rf 52 (by decide))
                  have hcn2 := (congrFun (rf 53 (by decide)) 0).trans hc
                  have hddn := z_ar_fr hdd (rf 55 (by decide))
                  have hwon := z_ar_fr hzWO (rf 57 (by decide))
                  have hhsn := z_ar_fr hzHS (rf 56 (by decide))
                  have hfrn : ∀ q, (q < 49 ∨ 57 < q) → I6 q = I q := fun q a => (rf q (by omega)).trans (hfr q a)
                  refine s_iinc hV dX3_settle_157 rfl rfl ?_
                  refine r_goto hV 104 dX3_settle_160 (by decide) ?_
                  first
                    | (refine r_kill hV 8 rfl ?_
                       exact ih104 (j + 1) _ _ (by omega) (by omega) hBn (hcn) hbn hg4n hg5n han hbbn hcn2 hddn hwon hhsn hfrn)
        exact L104 (2 ^ e + 1) 0 _ I1 (Nat.lt_succ_self _) (Nat.zero_le _) rfl ⟨g6, g7.trans (iI_of _), g8.trans (iI_of _), g9.trans (iI_of _), g10.trans (iI_of _)⟩ ⟨Or.inl rfl, z_rg_of _, z_rg_of _⟩ g4 g5 ha hb hc hdd (z_ar_le hzWO (by omega)) (z_ar_le hzHS (by omega)) hfr
      · refine r_aload_n hV dX3_settle_45 rfl rfl ?_
        refine r_getR hV dX3_settle_46 fl_X3_25 (by first | decide | omega) (by first | rfl | assumption) (by first | assumption | rfl) ?_
        refine r_iload hV dX3_settle_49 rfl ?_
        refine r_aload_n hV dX3_settle_51 rfl rfl ?_
        refine r_iload hV dX3_settle_52 rfl ?_
        refine q_iv1v hV dX3_settle_54 mv_X3_48 (m_worthOfSet I1 J P d hD (e : Int) ((congrFun (hfr d (by omega)) 3).trans he) (by omega) j (by omega) U (z_ar_fr hU (hfr _ (by omega))) hUb) (by first | decide | omega) (by first | rfl | assumption) (by decide) (Nat.le_refl _) (Nat.le_of_ble_eq_true rfl) ?_
        rw [Int.toNat_natCast]
        refine s_iastore hV dX3_settle_57 (by first | decide | omega) (by first | rfl | assumption) (by decide) (by omega) (by omega) ?_
        generalize hI4 : zu I1 (57) (zu (I1 57) (j : Int).toNat (iI (zsum (f_wt j U) e))) = I4
        have hfI4 : ∀ q, q ≠ 57 → I4 q = I1 q := fun q h => by rw [← hI4]; exact zu_n _ _ h
        have hzWO4 : z_ar I4 57 ((j + 1 : Nat) : Int) (f_WO e U) := by
          rw [← hI4]
          have := z_ar_push hzWO
          unfold f_WO at this ⊢
          simp only [Int.toNat_natCast] at this
          exact this
        have c4 := hfI4 49 (by decide)
        have h44 : I4 49 4 = I 49 4 := (congrFun c4 4).trans g4
        have h45 : I4 49 5 = I 49 5 := (congrFun c4 5).trans g5
        have h46 : I4 49 6 = iI 0 := (congrFun c4 6).trans g6
        have h47 : I4 49 7 = I 49 7 := (congrFun c4 7).trans g7
        have h48 : I4 49 8 = I 49 8 := (congrFun c4 8).trans g8
        have h49 : I4 49 9 = I 49 9 := (congrFun c4 9).trans g9
        have h410 : I4 49 10 = I 49 10 := (congrFun c4 10).trans g10
        have ha4 : I4 50 0 = iI (her : Int) := (congrFun (hfI4 50 (by decide)) 0).trans ha
        have hb4 : z_ar I4 52 64 WH := z_ar_fr hb (hfI4 52 (by decide))
        have hc4 : I4 53 0 = iI (him : Int) := (congrFun (hfI4 53 (by decide)) 0).trans hc
        have hd4 : z_ar I4 55 64 WI := z_ar_fr hdd (hfI4 55 (by decide))
        have hzHS4 : z_ar I4 56 (j : Int) (f_HS e him iE W WI) := z_ar_fr hzHS (hfI4 56 (by decide))
        have hfr4 : ∀ q, (q < 49 ∨ 57 < q) → I4 q = I q := fun q a => (hfI4 q (by omega)).trans (hfr q a)
        refine r_aload_n hV dX3_settle_58 rfl rfl ?_
        refine r_getR hV dX3_settle_59 fl_X3_21 (by first | decide | omega) (by first | rfl | assumption) (by first | assumption | rfl) ?_
        refine r_iload hV dX3_settle_62 rfl ?_
        refine r_iload hV dX3_settle_64 rfl ?_
        refine r_aload_n hV dX3_settle_66 rfl rfl ?_
        refine r_getI hV dX3_settle_67 fl_X3_32 (by first | decide | omega) (by first | rfl | assumption) (h45.trans hiE) ?_
        refine q_is2v hV dX3_settle_70 ms_X3_52 (m_isPartOf I4 J P j iE (by omega) hi64) (by decide) (Nat.le_refl _) (Nat.le_of_ble_eq_true rfl) ?_
        refine s_if_eq hV 92 dX3_settle_73 (by decide) (by unfold z_rg; first | omega | (split <;> omega)) (fun c73 => ?_) (fun c73 => ?_)
        · have hpart := z_ite0 c73
          have hval : f_HS e him iE W WI (j : Int) = 1000000 := by
            unfold f_HS
            rw [Int.toNat_natCast, if_neg hpart]
          refine s_ldc hV dX3_settle_92 ct_X3_62 (1000000) (by decide) ?_
          rw [← hval]
          refine s_iastore hV dX3_settle_94 (by first | decide | omega) (by first | rfl | assumption) (by decide) (by omega) (by omega) ?_
          generalize hI5 : zu I4 56 (zu (I4 56) (j : Int).toNat (iI (f_HS e him iE W WI (j : Int)))) = I5
          have hfI5 : ∀ q, q ≠ 56 → I5 q = I4 q := fun q h => by rw [← hI5]; exact zu_n _ _ h
          refine s_iinc hV dX3_settle_95 rfl rfl ?_
          refine r_goto hV 38 dX3_settle_98 (by decide) ?_
          have hzHS2 : z_ar I5 56 ((j + 1 : Nat) : Int) (f_HS e him iE W WI) := hI5 ▸ z_ar_push hzHS4
          exact ih38 (j + 1) _ (by omega) (by omega) ((congrFun (hfI5 49 (by decide)) 4).trans h44) ((congrFun (hfI5 49 (by decide)) 5).trans h45) ((congrFun (hfI5 49 (by decide)) 6).trans h46) ((congrFun (hfI5 49 (by decide)) 7).trans h47) ((congrFun (hfI5 49 (by decide)) 8).trans h48) ((congrFun (hfI5 49 (by decide)) 9).trans h49) ((congrFun (hfI5 49 (by decide)) 10).trans h410) ((congrFun (hfI5 50 (by decide)) 0).trans ha4) (z_ar_fr hb4 (hfI5 52 (by decide))) ((congrFun (hfI5 53 (by decide)) 0).trans hc4) (z_ar_fr hd4 (hfI5 55 (by decide))) (z_ar_fr hzWO4 (hfI5 57 (by decide))) hzHS2 (fun q a => (hfI5 q (by omega)).trans (hfr4 q a))
        · have hpart := z_ite1 c73
          have hval : f_HS e him iE W WI (j : Int) = WI ((zpl j W e ||| 2 ^ him : Nat) : Int) := by
            unfold f_HS
            rw [Int.toNat_natCast, if_pos hpart]
          refine r_aload_n hV dX3_settle_76 rfl rfl ?_
          refine r_getR hV dX3_settle_77 fl_X3_18 (by first | decide | omega) (by first | rfl | assumption) (by first | assumption | rfl) ?_
          refine r_aload_n hV dX3_settle_80 rfl rfl ?_
          refine r_iload hV dX3_settle_81 rfl ?_
          refine q_iv1v hV dX3_settle_83 mv_X3_56 (m_placesOfSet I4 J P d hD (e : Int) ((congrFun (hfr4 d (by omega)) 3).trans he) (by omega) j (by omega) W (z_ar_fr hW (hfr4 _ (by omega))) hpl5) (by first | decide | omega) (by first | rfl | assumption) (by decide) (Nat.le_refl _) (Nat.le_of_ble_eq_true rfl) ?_
          rw [Int.toNat_natCast]
          refine q_iv1v hV dX3_settle_86 mv_X3_59 (m_by I4 J P 53 hTb him hc4 (by omega) WI hd4 (zpl j W e) (Nat.lt_of_lt_of_le (hzl j) hn64)) (by first | decide | omega) (by first | rfl | assumption) (by decide) (Nat.le_refl _) (Nat.le_of_ble_eq_true rfl) ?_
          refine r_goto hV 94 dX3_settle_89 (by decide) ?_
          rw [← hval]
          refine s_iastore hV dX3_settle_94 (by first | decide | omega) (by first | rfl | assumption) (by decide) (by omega) (by omega) ?_
          generalize hI5 : zu I4 56 (zu (I4 56) (j : Int).toNat (iI (f_HS e him iE W WI (j : Int)))) = I5
          have hfI5 : ∀ q, q ≠ 56 → I5 q = I4 q := fun q h => by rw [← hI5]; exact zu_n _ _ h
          refine s_iinc hV dX3_settle_95 rfl rfl ?_
          refine r_goto hV 38 dX3_settle_98 (by decide) ?_
          have hzHS2 : z_ar I5 56 ((j + 1 : Nat) : Int) (f_HS e him iE W WI) := hI5 ▸ z_ar_push hzHS4
          exact ih38 (j + 1) _ (by omega) (by omega) ((congrFun (hfI5 49 (by decide)) 4).trans h44) ((congrFun (hfI5 49 (by decide)) 5).trans h45) ((congrFun (hfI5 49 (by decide)) 6).trans h46) ((congrFun (hfI5 49 (by decide)) 7).trans h47) ((congrFun (hfI5 49 (by decide)) 8).trans h48) ((congrFun (hfI5 49 (by decide)) 9).trans h49) ((congrFun (hfI5 49 (by decide)) 10).trans h410) ((congrFun (hfI5 50 (by decide)) 0).trans ha4) (z_ar_fr hb4 (hfI5 52 (by decide))) ((congrFun (hfI5 53 (by decide)) 0).trans hc4) (z_ar_fr hd4 (hfI5 55 (by decide))) (z_ar_fr hzWO4 (hfI5 57 (by decide))) hzHS2 (fun q a => (hfI5 q (by omega)).trans (hfr4 q a))
  exact L38 (2 ^ e + 1) 0 _ (Nat.lt_succ_self _) (Nat.zero_le _) (by simp [zu, k2 49]) (by simp [zu, k2 49]) (by simp [zu]) (by simp [zu, k2 49]) (by simp [zu, k2 49]) (by simp [zu, k2 49]) (by simp [zu, k2 49]) (by rw [zu_n _ _ (by decide)]; exact k50) (z_ar_fr k52 (zu_n _ _ (by decide))) (by rw [zu_n _ _ (by decide)]; exact k53) (z_ar_fr k55 (zu_n _ _ (by decide))) z_ar_0 z_ar_0 (fun q a => by rw [zu_n _ _ (by omega)]; exact k2 q (by omega))
