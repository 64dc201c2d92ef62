def f_stp (T : Int → Int) (tl : Int) : Nat → Int
  | 0 => 0
  | j + 1 => 10 * f_stp T tl j + zfg T tl (1 + (j : Int))
theorem f_stp_3 {T : Int → Int} {tl : Int} : f_stp T tl 3 = f_st T tl := by
  show 10 * (10 * (10 * 0 + zfg T tl (1 + ((0 : Nat) : Int))) + zfg T tl (1 + ((1 : Nat) : Int))) + zfg T tl (1 + ((2 : Nat) : Int)) = _
  unfold f_st
  rw [show 1 + ((0 : Nat) : Int) = 1 by omega, show 1 + ((1 : Nat) : Int) = 2 by omega, show 1 + ((2 : Nat) : Int) = 3 by omega]
  omega
def q_mdr (T : Int → Int) (tl : Int) (W0 U0 K0 : Int → Int) (I : zI) (J : zJ) (P : zP) (v : Option Value) (I1 : zI) (J1 : zJ) (P1 : zP) : Prop := v = some (.int (iI (f_flt T tl W0 U0 K0))) ∧ J1 = J ∧ P1 = P ∧ (∀ q, q ≠ 78 → (q < 84 ∨ 87 < q) → I1 q = I q) ∧ (∀ k, k ≠ 3 → k ≠ 12 → k ≠ 13 → k ≠ 14 → k ≠ 15 → I1 78 k = I 78 k) ∧ (f_flt T tl W0 U0 K0 = -9 → f_hf T tl = -9 ∧ ∃ (n : Nat) (r e : Int) (R W U K : Int → Int), zfg T tl 4 = n ∧ (2 ≤ n ∧ n ≤ 6) ∧ f_parse T tl (zfg T tl 4) 81 5 0 0 (fun _ => 0) W0 U0 K0 = (-9, r, e, R, W, U, K) ∧ mR I1 tl tl r e n T R W U K ∧ I1 78 13 = iI (f_st T tl) ∧ zRd n r R ∧ z_bd R 36 0 99 ∧ (0 ≤ e ∧ e ≤ 6) ∧ (0 ≤ r ∧ r ≤ 10))
theorem f_flt_hf {T : Int → Int} {tl : Int} {W U K : Int → Int} (h : ¬ f_hf T tl = -9) : f_flt T tl W U K = f_hf T tl := if_neg h
theorem f_flt_ps {T : Int → Int} {tl : Int} {W U K : Int → Int} (h : f_hf T tl = -9) : f_flt T tl W U K = (f_parse T tl (zfg T tl 4) 81 5 0 0 (fun _ => 0) W U K).1 := if_pos h
theorem f_ps_end {T : Int → Int} {tl n : Int} {k : Nat} {p r e : Int} {R W U K : Int → Int} (h : tl ≤ p) : f_parse T tl n (k + 1) p r e R W U K = (-9, r, e, R, W, U, K) := by unfold f_parse; rw [if_pos h]
theorem f_ps_R {T : Int → Int} {tl n : Int} {k : Nat} {p r e : Int} {R W U K : Int → Int} (h : p < tl) (h2 : zsg T tl p = 82) : f_parse T tl n (k + 1) p r e R W U K = if f_rdF T tl n r R p = -9 then f_parse T tl n k (p + 5) (r + 1) e (f_rdR T tl R p) W U K else (f_rdF T tl n r R p, r, e, R, W, U, K) := by
  conv => lhs; unfold f_parse
  rw [if_neg (by omega), if_pos h2]
theorem f_ps_E {T : Int → Int} {tl n : Int} {k : Nat} {p r e : Int} {R W U K : Int → Int} (h : p < tl) (h2 : ¬ zsg T tl p = 82) : f_parse T tl n (k + 1) p r e R W U K = if f_erF T tl n e p = -9 then f_parse T tl n k (p + 4) r (e + 1) R (zup W e (zfg T tl (p + 1))) (zup U e (zfg T tl (p + 2))) (zup K e (zfg T tl (p + 3))) else (f_erF T tl n e p, r, e, R, W, U, K) := by
  conv => lhs; unfold f_parse
  rw [if_neg (by omega), if_neg h2]
theorem zRd_rd {T : Int → Int} {tl r : Int} {n : Nat} {R : Int → Int} {p : Int} (hp : 0 ≤ p) (hn : n ≤ 6) (h : zRd n r R) (hF : f_rdF T tl n r R p = -9) : zRd n (r + 1) (f_rdR T tl R p) := by
  obtain ⟨h1, h2, h3, h4, h5, h6⟩ := f_rd_ok hF hp
  obtain ⟨a, ha⟩ := Int.eq_ofNat_of_zero_le h2.1.1
  obtain ⟨b, hb⟩ := Int.eq_ofNat_of_zero_le h2.2.1
  unfold f_rdR
  rw [ha, hb] at h2 h3 ⊢
  exact zRd_up hn h (by omega) (by omega) (by omega) h3.2 (by omega)
theorem z_bd_rd {T : Int → Int} {tl : Int} {R : Int → Int} {p : Int} (h : z_bd R 36 0 99) : z_bd (f_rdR T tl R p) 36 0 99 ∨ zfg T tl (p + 3) < 0 ∨ zfg T tl (p + 4) < 0 := by
  have f3 := zfg_b (T := T) (tl := tl) (p := p + 3)
  have f4 := zfg_b (T := T) (tl := tl) (p := p + 4)
  by_cases q : zfg T tl (p + 3) < 0 ∨ zfg T tl (p + 4) < 0
  · exact Or.inr q
  · exact Or.inl (z_bd_up (z_bd_up h (by omega) (by omega)) (by omega) (by omega))
theorem z_some_int {x : Int} {v : Value} (h : some v = some (Value.int (iI x))) : v = .int (iI x) := Option.some.inj h
set_option maxRecDepth 20000 in
theorem n_readDay (I : zI) (J : zJ) (P : zP) (hM : mK P) (tl : Int) (h2 : I 78 2 = iI tl) (htb : 0 ≤ tl ∧ tl ≤ 80) (T : Int → Int) (zT : z_ar I 79 80 T) (hTb : z_bd T 80 0 255) : z_Sp 4 yX12_readDay cX12_readDay 3 (some .int) 108 108 I J P [.ref 78] (q_mdr T tl (f_w0 I 85) (f_w0 I 86) (f_w0 I 87) I J P) := by
  obtain ⟨o1, o7, o9, o10, o11, o16, o17, o18, o19, o20, o25, o26, o28, o29, o30, o31, o36, o37, o38, o39, o40, o41, o42, o43, o44, o45, o46, o47, o48⟩ := id hM
  refine z_met false (by decide +kernel) (fun h => by cases h) (Nat.le_of_ble_eq_true rfl) (by first | decide | omega) (fun V hV => ?_)
  show V 108 I J P 0 [.ref 78, .null, .null] []
  refine r_aload_n hV dX12_readDay_0 rfl rfl ?_
  refine s_iconst hV dX12_readDay_1 (0) (by decide) ?_
  refine r_putI hV dX12_readDay_2 fl_X12_119 (pf_X12_119 _) (z_okI_int rfl _) (by first | decide | omega) (by first | rfl | assumption) ?_
  generalize hgA1 : zu I 78 (zu (I 78) 3 (iI (0))) = A1
  have uA1 : ∀ p, p ≠ 78 → A1 p = I p := fun p a => by rw [← hgA1, zu_n _ _ a]
  have kA1 : ∀ k, k ≠ 3 → A1 78 k = I 78 k := fun k a => by rw [← hgA1, zu_s, zu_n _ _ a]
  have sA1 : A1 78 3 = iI (0) := by rw [← hgA1, zu_s, zu_s]
  clear hgA1
  refine r_aload_n hV dX12_readDay_5 rfl rfl ?_
  refine s_iconst hV dX12_readDay_6 (0) (by decide) ?_
  refine r_putI hV dX12_readDay_7 fl_X12_133 (pf_X12_133 _) (z_okI_int rfl _) (by first | decide | omega) (by first | rfl | assumption) ?_
  generalize hgA2 : zu A1 78 (zu (A1 78) 14 (iI (0))) = A2
  have uA2 : ∀ p, p ≠ 78 → A2 p = A1 p := fun p a => by rw [← hgA2, zu_n _ _ a]
  have kA2 : ∀ k, k ≠ 14 → A2 78 k = A1 78 k := fun k a => by rw [← hgA2, zu_s, zu_n _ _ a]
  have sA2 : A2 78 14 = iI (0) := by rw [← hgA2, zu_s, zu_s]
  clear hgA2
  refine r_aload_n hV dX12_readDay_10 rfl rfl ?_
  refine s_iconst hV dX12_readDay_11 (0) (by decide) ?_
  refine r_putI hV dX12_readDay_12 fl_X12_136 (pf_X12_136 _) (z_okI_int rfl _) (by first | decide | omega) (by first | rfl | assumption) ?_
  generalize hgA3 : zu A2 78 (zu (A2 78) 15 (iI (0))) = A3
  have uA3 : ∀ p, p ≠ 78 → A3 p = A2 p := fun p a => by rw [← hgA3, zu_n _ _ a]
  have kA3 : ∀ k, k ≠ 15 → A3 78 k = A2 78 k := fun k a => by rw [← hgA3, zu_s, zu_n _ _ a]
  have sA3 : A3 78 15 = iI (0) := by rw [← hgA3, zu_s, zu_s]
  clear hgA3
  refine r_aload_n hV dX12_readDay_15 rfl rfl ?_
  refine s_iconst hV dX12_readDay_16 (0) (by decide) ?_
  refine r_putI hV dX12_readDay_17 fl_X12_149 (pf_X12_149 _) (z_okI_int rfl _) (by first | decide | omega) (by first | rfl | assumption) ?_
  generalize hgA4 : zu A3 78 (zu (A3 78) 13 (iI (0))) = A4
  have uA4 : ∀ p, p ≠ 78 → A4 p = A3 p := fun p a => by rw [← hgA4, zu_n _ _ a]
  have kA4 : ∀ k, k ≠ 13 → A4 78 k = A3 78 k := fun k a => by rw [← hgA4, zu_s, zu_n _ _ a]
  have sA4 : A4 78 13 = iI (0) := by rw [← hgA4, zu_s, zu_s]
  clear hgA4
  have a3 : A4 78 3 = iI 0 := (kA4 3 (by omega)).trans ((kA3 3 (by omega)).trans ((kA2 3 (by omega)).trans sA1))
  have a14 : A4 78 14 = iI 0 := (kA4 14 (by omega)).trans ((kA3 14 (by omega)).trans sA2)
  have a15 : A4 78 15 = iI 0 := (kA4 15 (by omega)).trans sA3
  have uA : ∀ q, q ≠ 78 → A4 q = I q := fun q a => (uA4 q a).trans ((uA3 q a).trans ((uA2 q a).trans (uA1 q a)))
  have kA : ∀ k, k ≠ 3 → k ≠ 13 → k ≠ 14 → k ≠ 15 → A4 78 k = I 78 k := fun k a b c g => (kA4 k b).trans ((kA3 k g).trans ((kA2 k c).trans (kA1 k a)))
  clear kA1 kA2 kA3 kA4 uA1 uA2 uA3 uA4
  refine s_iconst hV dX12_readDay_20 (0) (by decide) ?_
  refine r_istore_n hV dX12_readDay_21 (Nat.le_of_ble_eq_true rfl) (z_st1_3_1 rfl) ?_
  have L22 : ∀ (k22 j : Nat) (I1 : zI), 36 - j < k22 → j ≤ 36 → (z_ar I1 84 (j : Int) (mRf (fun _ => 0))) → (∀ q, q ≠ 84 → I1 q = A4 q) → V 108 I1 J P 22 [.ref 78, .int (iI (j : Int)), .null] [] := by
    intro k22
    induction k22 with
    | zero => intro j I1  hk1 hk2; omega
    | succ k22 ih22 =>
      intro j I1  hk22 hl22 hz hfr
      refine r_iload_n hV dX12_readDay_22 rfl ?_
      refine s_bipush hV dX12_readDay_23 (36) (by decide) ?_
      refine s_icmp_ge hV 57 dX12_readDay_25 (by decide) (by unfold z_rg; first | omega | (split <;> omega)) (by unfold z_rg; first | omega | (split <;> omega)) (fun c25 => ?_) (fun c25 => ?_)
      · have ej : j = 36 := by omega
        subst ej
        have b78 : I1 78 = A4 78 := hfr 78 (by omega)
        have b2 : I1 78 2 = iI tl := by rw [b78]; exact (kA 2 (by omega) (by omega) (by omega) (by omega)).trans h2
        have b13 : I1 78 13 = iI 0 := by rw [b78]; exact sA4
        have bu : ∀ q, q ≠ 78 → q ≠ 84 → I1 q = I q := fun q a b => (hfr q b).trans (uA q a)
        have bk : ∀ k, k ≠ 3 → k ≠ 13 → k ≠ 14 → k ≠ 15 → I1 78 k = I 78 k := fun k a b c g => by rw [b78]; exact kA k a b c g
        have hs0 : zsg T tl 0 = if (0 : Int) ≤ 0 ∧ 0 < tl then T 0 else 0 := rfl
        refine r_aload_n hV dX12_readDay_57 rfl rfl ?_
        refine r_getI hV dX12_readDay_58 fl_X12_116 (by first | decide | omega) (by first | rfl | assumption) b2 ?_
        refine s_if_eq hV 75 dX12_readDay_61 (by decide) (by unfold z_rg; first | omega | (split <;> omega)) (fun c61 => ?_) (fun c61 => ?_)
        · refine s_iconst hV dX12_readDay_75 (0) (by decide) ?_
          refine r_iret hV dX12_readDay_76 rfl rfl ?_
          have ehf : f_hf T tl = 0 := by
            unfold f_hf
            rw [if_pos (by omega)]
          have e0 := f_flt_hf (W := f_w0 I 85) (U := f_w0 I 86) (K := f_w0 I 87) (T := T) (tl := tl) (by omega)
          exact ⟨by rw [e0, ehf], rfl, rfl, fun q a b => bu q a (by omega), fun k a b c g h => bk k a c g h, fun h => by omega⟩
        · have hT0 := hTb 0 (by omega) (by omega)
          refine r_aload_n hV dX12_readDay_64 rfl rfl ?_
          refine r_getR hV dX12_readDay_65 fl_X12_7 (by first | decide | omega) (by first | rfl | assumption) o1 ?_
          refine s_iconst hV dX12_readDay_68 (0) (by decide) ?_
          refine s_iaload hV dX12_readDay_69 (by first | decide | omega) (by first | rfl | assumption) (by decide) (by omega) (by omega) ((congrFun (bu 79 (by omega) (by omega)) _).trans (zT 0 (by omega) (by omega))) ?_
          refine s_bipush hV dX12_readDay_70 (86) (by decide) ?_
          refine s_icmp_eq hV 77 dX12_readDay_72 (by decide) (by unfold z_rg; first | omega | (split <;> omega)) (by unfold z_rg; first | omega | (split <;> omega)) (fun c72 => ?_) (fun c72 => ?_)
          · have h86 : zsg T tl 0 = 86 := by omega
            have htl : 0 < tl := by omega
            refine r_aload_n hV dX12_readDay_77 rfl rfl ?_
            refine s_iconst hV dX12_readDay_78 (1) (by decide) ?_
            refine r_putI hV dX12_readDay_79 fl_X12_119 (pf_X12_119 _) (z_okI_int rfl _) (by first | decide | omega) (by first | rfl | assumption) ?_
            generalize hgB1 : zu I1 78 (zu (I1 78) 3 (iI (1))) = B1
            have uB1 : ∀ p, p ≠ 78 → B1 p = I1 p := fun p a => by rw [← hgB1, zu_n _ _ a]
            have kB1 : ∀ k, k ≠ 3 → B1 78 k = I1 78 k := fun k a => by rw [← hgB1, zu_s, zu_n _ _ a]
            have sB1 : B1 78 3 = iI (1) := by rw [← hgB1, zu_s, zu_s]
            clear hgB1
            refine s_iconst hV dX12_readDay_82 (0) (by decide) ?_
            refine r_istore_n hV dX12_readDay_83 (Nat.le_of_ble_eq_true rfl) (z_st1_3_1 rfl) ?_
            have L84 : ∀ (k84 j : Nat) (I2 : zI), 3 - j < k84 → j ≤ 3 → (I2 78 3 = iI (1 + (j : Int))) → (I2 78 13 = iI (f_stp T tl j)) → (∀ i : Nat, i < j → 0 ≤ zfg T tl (1 + (i : Int))) → (∀ q, q ≠ 78 → I2 q = I1 q) → (∀ k, k ≠ 3 → k ≠ 13 → I2 78 k = I1 78 k) → V 108 I2 J P 84 [.ref 78, .int (iI (j : Int)), .null] [] := by
              intro k84
              induction k84 with
              | zero => intro j I2  hk1 hk2; omega
              | succ k84 ih84 =>
                intro j I2  hk84 hl84 hpl h13 hok hu hk
                have hjt : 1 + (j : Int) ≤ tl := by
                  cases j with
                  | zero => omega
                  | succ i => have := zfg_in (hok i (by omega)); omega
                refine r_iload_n hV dX12_readDay_84 rfl ?_
                refine s_iconst hV dX12_readDay_85 (3) (by decide) ?_
                refine s_icmp_ge hV 127 dX12_readDay_86 (by decide) (by unfold z_rg; first | omega | (split <;> omega)) (by unfold z_rg; first | omega | (split <;> omega)) (fun c86 => ?_) (fun c86 => ?_)
                · have ej : j = 3 := by omega
                  subst ej
                  have q0 := hok 0 (by omega)
                  have q1 := hok 1 (by omega)
                  have q2 := hok 2 (by omega)
                  rw [show 1 + ((0 : Nat) : Int) = 1 by omega] at q0
                  rw [show 1 + ((1 : Nat) : Int) = 2 by omega] at q1
                  rw [show 1 + ((2 : Nat) : Int) = 3 by omega] at q2
                  rw [show 1 + ((3 : Nat) : Int) = 4 by omega] at hpl hjt
                  rw [f_stp_3] at h13
                  refine r_aload_n hV dX12_readDay_127 rfl rfl ?_
                  refine r_aload_n hV dX12_readDay_128 rfl rfl ?_
                  refine s_iconst hV dX12_readDay_129 (2) (by decide) ?_
                  refine s_bipush hV dX12_readDay_130 (6) (by decide) ?_
                  refine r_iv2 hV dX12_readDay_132 mv_X12_129 (n_figure I2 J P hM tl 4 ((hk 2 (by omega) (by omega)).trans b2) hpl htb (by omega) T (z_ar_fr zT ((hu 79 (by omega)).trans (bu 79 (by omega) (by omega)))) hTb 2 6 (by omega) (by omega)) (by first | decide | omega) (by first | rfl | assumption) (by decide) (Nat.le_refl _) (Nat.le_of_ble_eq_true rfl) (fun v3 I3 J3 P3 hq => ?_)
                  obtain ⟨rfl, ej, ep, y1, y2, y3⟩ := hq
                  rw [ej, ep]
                  show V 108 I3 J P _ _ [.int (iI (f_fg T tl 4 2 6)), .ref 78]
                  clear ej ep
                  have hfg4 : f_fg T tl 4 2 6 = if 2 ≤ zfg T tl 4 ∧ zfg T tl 4 ≤ 6 then zfg T tl 4 else -9 := rfl
                  have hzb4 := zfg_b (T := T) (tl := tl) (p := 4)
                  refine r_putI hV dX12_readDay_135 fl_X12_122 (pf_X12_122 _) (z_okI_int rfl _) (by first | decide | omega) (by first | rfl | assumption) ?_
                  generalize hgC1 : zu I3 78 (zu (I3 78) 12 (iI (f_fg T tl 4 2 6))) = C1
                  have uC1 : ∀ p, p ≠ 78 → C1 p = I3 p := fun p a => by rw [← hgC1, zu_n _ _ a]
                  have kC1 : ∀ k, k ≠ 12 → C1 78 k = I3 78 k := fun k a => by rw [← hgC1, zu_s, zu_n _ _ a]
                  have sC1 : C1 78 12 = iI (f_fg T tl 4 2 6) := by rw [← hgC1, zu_s, zu_s]
                  clear hgC1
                  refine r_aload_n hV dX12_readDay_138 rfl rfl ?_
                  refine r_getI hV dX12_readDay_139 fl_X12_122 (by first | decide | omega) (by first | rfl | assumption) sC1 ?_
                  refine s_bipush hV dX12_readDay_142 (-9) (by decide) ?_
                  refine s_icmp_ne hV 152 dX12_readDay_144 (by decide) (by unfold z_rg; first | omega | (split <;> omega)) (by unfold z_rg; first | omega | (split <;> omega)) (fun c144 => ?_) (fun c144 => ?_)
                  · rw [if_neg (by omega), show (4 : Int) + 1 = 5 from rfl] at y1
                    have hfv : f_fg T tl 4 2 6 = zfg T tl 4 := by rw [hfg4, if_pos (by omega)]
                    rw [hfv] at sC1
                    obtain ⟨n, hn⟩ := Int.eq_ofNat_of_zero_le (show 0 ≤ zfg T tl 4 by omega)
                    have hnb : 2 ≤ n ∧ n ≤ 6 := by omega
                    have ehf : f_hf T tl = -9 := by
                      unfold f_hf
                      rw [if_neg (not_not_intro h86), if_neg (by omega), if_neg (by omega), if_neg (by omega), if_neg (by omega)]
                    have hfl := f_flt_ps (W := f_w0 I 85) (U := f_w0 I 86) (K := f_w0 I 87) ehf
                    have uC : ∀ q, q ≠ 78 → q ≠ 84 → C1 q = I q := fun q a b => (uC1 q a).trans ((y2 q a).trans ((hu q a).trans (bu q a b)))
                    have hCu : ∀ q, q ≠ 78 → (q < 84 ∨ 87 < q) → C1 q = I q := fun q a b => uC q a (by omega)
                    have hCk : ∀ k, k ≠ 3 → k ≠ 12 → k ≠ 13 → k ≠ 14 → k ≠ 15 → C1 78 k = I 78 k := fun k a b c g h => (kC1 k b).trans ((y3 k a).trans ((hk k a c).trans (bk k a c g h)))
                    have hC13 : C1 78 13 = iI (f_st T tl) := (kC1 13 (by omega)).trans ((y3 13 (by omega)).trans h13)
                    have hC1 : mR C1 tl 5 0 0 n T (fun _ => 0) (f_w0 I 85) (f_w0 I 86) (f_w0 I 87) := ⟨(hCk 2 (by omega) (by omega) (by omega) (by omega) (by omega)).trans h2, (kC1 3 (by omega)).trans y1, by rw [sC1, hn], (kC1 14 (by omega)).trans ((y3 14 (by omega)).trans ((hk 14 (by omega) (by omega)).trans (by rw [b78]; exact a14))), (kC1 15 (by omega)).trans ((y3 15 (by omega)).trans ((hk 15 (by omega) (by omega)).trans (by rw [b78]; exact a15))), z_ar_fr zT (uC 79 (by omega) (by omega)), z_ar_fr hz ((uC1 84 (by omega)).trans ((y2 84 (by omega)).trans (hu 84 (by omega)))), z_ar_fr (z_ar_any I 85 6) (uC 85 (by omega) (by omega)), z_ar_fr (z_ar_any I 86 6) (uC 86 (by omega) (by omega)), z_ar_fr (z_ar_any I 87 6) (uC 87 (by omega) (by omega))⟩
                    have L152 : ∀ (k : Nat) (p r e : Int) (R W U K : Int → Int) (I3 : zI), tl < p + k → 5 ≤ p → p ≤ tl → mR I3 tl p r e n T R W U K → z_bd R 36 0 99 → zRd n r R → (0 ≤ e ∧ e ≤ 6) → (0 ≤ r ∧ r ≤ 10) → f_parse T tl (zfg T tl 4) 81 5 0 0 (fun _ => 0) (f_w0 I 85) (f_w0 I 86) (f_w0 I 87) = f_parse T tl n k p r e R W U K → (∀ q, q ≠ 78 → (q < 84 ∨ 87 < q) → I3 q = I q) → (∀ k, k ≠ 3 → k ≠ 12 → k ≠ 13 → k ≠ 14 → k ≠ 15 → I3 78 k = I 78 k) → I3 78 13 = iI (f_st T tl) → V 108 I3 J P 152 [.ref 78, .int (iI 3), .null] [] := by
                      intro k
                      induction k with
                      | zero => intro p r e R W U K I3 h1 h2 h3; omega
                      | succ k ih152 =>
                        intro p r e R W U K I3 hk hp5 hpt hR hRb hrd heb hrb hps hu3 hk3 h133
                        obtain ⟨h2, h3, h12, h14, h15, zT3, zR3, zW3, zU3, zK3⟩ := id hR
                        refine r_aload_n hV dX12_readDay_152 rfl rfl ?_
                        refine r_getI hV dX12_readDay_153 fl_X12_119 (by first | decide | omega) (by first | rfl | assumption) h3 ?_
                        refine r_aload_n hV dX12_readDay_156 rfl rfl ?_
                        refine r_getI hV dX12_readDay_157 fl_X12_116 (by first | decide | omega) (by first | rfl | assumption) h2 ?_
                        refine s_icmp_ge hV 175 dX12_readDay_160 (by decide) (by unfold z_rg; first | omega | (split <;> omega)) (by unfold z_rg; first | omega | (split <;> omega)) (fun c160 => ?_) (fun c160 => ?_)
                        · refine s_bipush hV dX12_readDay_175 (-9) (by decide) ?_
                          refine r_iret hV dX12_readDay_177 rfl rfl ?_
                          have e1 := hps.trans (f_ps_end (T := T) (n := (n : Int)) (R := R) (W := W) (U := U) (K := K) (r := r) (e := e) (k := k) (show tl ≤ p by omega))
                          have ept : p = tl := by omega
                          subst ept
                          have e0 : f_flt T p (f_w0 I 85) (f_w0 I 86) (f_w0 I 87) = -9 := by rw [hfl, e1]
                          exact ⟨by rw [e0], rfl, rfl, hu3, hk3, fun _ => ⟨ehf, n, r, e, R, W, U, K, hn, hnb, e1, hR, h133, hrd, hRb, heb, hrb⟩⟩
                        · refine r_aload_n hV dX12_readDay_163 rfl rfl ?_
                          refine r_iv0 hV dX12_readDay_164 mv_X12_152 (n_readPart I3 J P hM tl p r e n T R W U K hR htb (by omega) hTb hnb hRb hrd heb hrb) (by first | decide | omega) (by first | rfl | assumption) (by decide) (Nat.le_refl _) (Nat.le_of_ble_eq_true rfl) (fun v5 I5 J5 P5 hq => ?_)
                          obtain ⟨ej, ep, y2, y3, hcs⟩ := hq
                          rw [ej, ep]
                          clear ej ep
                          have hu5 : ∀ q, q ≠ 78 → (q < 84 ∨ 87 < q) → I5 q = I q := fun q a b => (y2 q a b).trans (hu3 q a b)
                          have hk5 : ∀ k, k ≠ 3 → k ≠ 12 → k ≠ 13 → k ≠ 14 → k ≠ 15 → I5 78 k = I 78 k := fun k a b c g h => (y3 k a g h).trans (hk3 k a b c g h)
                          rcases hcs with ⟨a1, a2, rfl, a4⟩ | ⟨a1, a2, rfl, a4⟩ | ⟨a1, a2, rfl, a4⟩ | ⟨a1, a2, rfl, a4⟩
                          · refine s_if_ne hV 152 dX12_readDay_167 (by decide) (by unfold z_rg; omega) (fun _ => ?_) (fun c => absurd c (by decide))
                            have hok := f_rd_ok a2 (by omega)
                            have hin := zfg_in hok.2.2.2.2.1
                            exact ih152 (p + 5) (r + 1) e _ W U K I5 (by omega) (by omega) (by omega) a4 (by rcases z_bd_rd (T := T) (tl := tl) (p := p) hRb with h | h; exact h; omega) (zRd_rd (by omega) hnb.2 hrd a2) heb (by omega) (hps.trans ((f_ps_R (by omega) a1).trans (if_pos a2))) hu5 hk5 ((y3 13 (by omega) (by omega) (by omega)).trans h133)
                          · refine s_if_ne hV 152 dX12_readDay_167 (by decide) (by unfold z_rg; omega) (fun c => absurd rfl c) (fun _ => ?_)
                            refine r_aload_n hV dX12_readDay_170 rfl rfl ?_
                            refine r_getI hV dX12_readDay_171 fl_X12_119 (by decide) rfl a4 ?_
                            refine r_iret hV dX12_readDay_174 rfl rfl ?_
                            have e0 : f_flt T tl (f_w0 I 85) (f_w0 I 86) (f_w0 I 87) = f_rdF T tl n r R p := by rw [hfl, hps.trans ((f_ps_R (by omega) a1).trans (if_neg a2))]
                            exact ⟨by rw [e0], rfl, rfl, hu5, hk5, fun h => absurd (e0.symm.trans h) a2⟩
                          · refine s_if_ne hV 152 dX12_readDay_167 (by decide) (by unfold z_rg; omega) (fun _ => ?_) (fun c => absurd c (by decide))
                            have hok := f_er_ok a2 (by omega)
                            have hin := zfg_in hok.2.2.2.1
                            exact ih152 (p + 4) r (e + 1) R _ _ _ I5 (by omega) (by omega) (by omega) a4 hRb hrd (by omega) hrb (hps.trans ((f_ps_E (by omega) a1).trans (if_pos a2))) hu5 hk5 ((y3 13 (by omega) (by omega) (by omega)).trans h133)
                          · refine s_if_ne hV 152 dX12_readDay_167 (by decide) (by unfold z_rg; omega) (fun c => absurd rfl c) (fun _ => ?_)
                            refine r_aload_n hV dX12_readDay_170 rfl rfl ?_
                            refine r_getI hV dX12_readDay_171 fl_X12_119 (by decide) rfl a4 ?_
                            refine r_iret hV dX12_readDay_174 rfl rfl ?_
                            have e0 : f_flt T tl (f_w0 I 85) (f_w0 I 86) (f_w0 I 87) = f_erF T tl n e p := by rw [hfl, hps.trans ((f_ps_E (by omega) a1).trans (if_neg a2))]
                            exact ⟨by rw [e0], rfl, rfl, hu5, hk5, fun h => absurd (e0.symm.trans h) a2⟩
                    exact L152 81 5 0 0 (fun _ => 0) (f_w0 I 85) (f_w0 I 86) (f_w0 I 87) C1 (by omega) (by omega) (by have := zfg_in (T := T) (tl := tl) (p := 4) (by omega); omega) hC1 (fun z _ _ => ⟨Int.le_refl 0, (by decide : (0 : Int) ≤ 99)⟩) (zRd_0 n) ⟨by omega, by omega⟩ ⟨by omega, by omega⟩ (by rw [hn]) hCu hCk hC13
                  · rw [if_pos (by omega)] at y1
                    refine r_aload_n hV dX12_readDay_147 rfl rfl ?_
                    refine r_getI hV dX12_readDay_148 fl_X12_119 (by first | decide | omega) (by first | rfl | assumption) ((kC1 3 (by omega)).trans y1) ?_
                    refine r_iret hV dX12_readDay_151 rfl rfl ?_
                    have ehf : f_hf T tl = 4 := by
                      unfold f_hf
                      rw [if_neg (not_not_intro h86), if_neg (by omega), if_neg (by omega), if_neg (by omega), if_pos (by omega)]
                    have e0 := f_flt_hf (W := f_w0 I 85) (U := f_w0 I 86) (K := f_w0 I 87) (T := T) (tl := tl) (by omega)
                    exact ⟨by rw [e0, ehf], rfl, rfl, fun q a b => (uC1 q a).trans ((y2 q a).trans ((hu q a).trans (bu q a (by omega)))), fun k a b c g h => (kC1 k b).trans ((y3 k a).trans ((hk k a c).trans (bk k a c g h))), fun h => by omega⟩
                · refine r_aload_n hV dX12_readDay_89 rfl rfl ?_
                  refine s_iconst hV dX12_readDay_90 (0) (by decide) ?_
                  refine s_bipush hV dX12_readDay_91 (9) (by decide) ?_
                  refine r_iv2 hV dX12_readDay_93 mv_X12_129 (n_figure I2 J P hM tl (1 + (j : Int)) ((hk 2 (by omega) (by omega)).trans b2) hpl htb (by omega) T (z_ar_fr zT ((hu 79 (by omega)).trans (bu 79 (by omega) (by omega)))) hTb 0 9 (by omega) (by omega)) (by first | decide | omega) (by first | rfl | assumption) (by decide) (Nat.le_refl _) (Nat.le_of_ble_eq_true rfl) (fun v3 I3 J3 P3 hq => ?_)
                  obtain ⟨rfl, ej, ep, y1, y2, y3⟩ := hq
                  rw [ej, ep]
                  show V 108 I3 J P _ _ [.int (iI (f_fg T tl (1 + (j : Int)) 0 9))]
                  clear ej ep
                  have hfg1 : f_fg T tl (1 + (j : Int)) 0 9 = if 0 ≤ zfg T tl (1 + (j : Int)) ∧ zfg T tl (1 + (j : Int)) ≤ 9 then zfg T tl (1 + (j : Int)) else -9 := rfl
                  have hzb1 := zfg_b (T := T) (tl := tl) (p := 1 + (j : Int))
                  refine r_istore_n hV dX12_readDay_96 (Nat.le_of_ble_eq_true rfl) (z_st1_3_2 rfl) ?_
                  refine r_iload_n hV dX12_readDay_97 rfl ?_
                  refine s_bipush hV dX12_readDay_98 (-9) (by decide) ?_
                  refine s_icmp_ne hV 108 dX12_readDay_100 (by decide) (by unfold z_rg; first | omega | (split <;> omega)) (by unfold z_rg; first | omega | (split <;> omega)) (fun c100 => ?_) (fun c100 => ?_)
                  · rw [if_neg (by omega)] at y1
                    have hfv : f_fg T tl (1 + (j : Int)) 0 9 = zfg T tl (1 + (j : Int)) := by rw [hfg1, if_pos (by omega)]
                    rw [hfv]
                    refine r_aload_n hV dX12_readDay_108 rfl rfl ?_
                    refine s_bipush hV dX12_readDay_109 (10) (by decide) ?_
                    refine r_aload_n hV dX12_readDay_111 rfl rfl ?_
                    refine r_getI hV dX12_readDay_112 fl_X12_149 (by first | decide | omega) (by first | rfl | assumption) ((y3 13 (by omega)).trans h13) ?_
                    refine s_imul hV dX12_readDay_115 ?_
                    refine r_iload_n hV dX12_readDay_116 rfl ?_
                    refine s_iadd hV dX12_readDay_117 ?_
                    refine r_putI hV dX12_readDay_118 fl_X12_149 (pf_X12_149 _) (z_okI_int rfl _) (by first | decide | omega) (by first | rfl | assumption) ?_
                    refine s_iinc hV dX12_readDay_121 rfl (z_st1_3_1 rfl) ?_
                    refine r_goto hV 84 dX12_readDay_124 (by decide) ?_
                    refine r_kill hV 2 z_stk_3_2 ?_
                    exact ih84 (j + 1) _ (by omega) (by omega) (by rw [zu_s, zu_n _ _ (by omega), y1]; exact congrArg iI (by omega)) (by rw [zu_s, zu_s, f_stp]) (fun i hi => by rcases (show i < j ∨ i = j by omega) with q | q; exact hok i q; subst q; omega) (fun q a => by rw [zu_n _ _ a]; exact (y2 q a).trans (hu q a)) (fun k a b => by rw [zu_s, zu_n _ _ b]; exact (y3 k a).trans (hk k a b))
                  · rw [if_pos (by omega)] at y1
                    refine r_aload_n hV dX12_readDay_103 rfl rfl ?_
                    refine r_getI hV dX12_readDay_104 fl_X12_119 (by first | decide | omega) (by first | rfl | assumption) y1 ?_
                    refine r_iret hV dX12_readDay_107 rfl rfl ?_
                    have hneg : zfg T tl (1 + (j : Int)) < 0 := by omega
                    have ehf : f_hf T tl = 1 + (j : Int) := by
                      unfold f_hf
                      rcases (show j = 0 ∨ j = 1 ∨ j = 2 by omega) with rfl | rfl | rfl
                      · rw [show 1 + ((0 : Nat) : Int) = 1 by omega] at hneg
                        rw [if_neg (not_not_intro h86), if_pos hneg]; omega
                      · have q0 := hok 0 (by omega)
                        rw [show 1 + ((0 : Nat) : Int) = 1 by omega] at q0
                        rw [show 1 + ((1 : Nat) : Int) = 2 by omega] at hneg
                        rw [if_neg (not_not_intro h86), if_neg (by omega), if_pos hneg]; omega
                      · have q0 := hok 0 (by omega)
                        have q1 := hok 1 (by omega)
                        rw [show 1 + ((0 : Nat) : Int) = 1 by omega] at q0
                        rw [show 1 + ((1 : Nat) : Int) = 2 by omega] at q1
                        rw [show 1 + ((2 : Nat) : Int) = 3 by omega] at hneg
                        rw [if_neg (not_not_intro h86), if_neg (by omega), if_neg (by omega), if_pos hneg]; omega
                    have e0 := f_flt_hf (W := f_w0 I 85) (U := f_w0 I 86) (K := f_w0 I 87) (T := T) (tl := tl) (by omega)
                    exact ⟨by rw [e0, ehf], rfl, rfl, fun q a b => (y2 q a).trans ((hu q a).trans (bu q a (by omega))), fun k a b c g h => (y3 k a).trans ((hk k a c).trans (bk k a c g h)), fun h => by omega⟩
            exact L84 4 0 B1 (by omega) (by omega) (by rw [sB1]; congr 1) ((kB1 13 (by omega)).trans b13) (fun i hi => absurd hi (by omega)) uB1 (fun k a _ => kB1 k a)
          · refine s_iconst hV dX12_readDay_75 (0) (by decide) ?_
            refine r_iret hV dX12_readDay_76 rfl rfl ?_
            have ehf : f_hf T tl = 0 := by
              unfold f_hf
              rw [if_pos (by omega)]
            have e0 := f_flt_hf (W := f_w0 I 85) (U := f_w0 I 86) (K := f_w0 I 87) (T := T) (tl := tl) (by omega)
            exact ⟨by rw [e0, ehf], rfl, rfl, fun q a b => bu q a (by omega), fun k a b c g h => bk k a c g h, fun h => by omega⟩
      · refine r_aload_n hV dX12_readDay_28 rfl rfl ?_
        refine r_getR hV dX12_readDay_29 fl_X12_29 (by first | decide | omega) (by first | rfl | assumption) o16 ?_
        refine r_iload_n hV dX12_readDay_32 rfl ?_
        refine r_iload_n hV dX12_readDay_33 rfl ?_
        refine s_bipush hV dX12_readDay_34 (6) (by decide) ?_
        refine s_idiv hV dX12_readDay_36 (by unfold z_rg; first | omega | (split <;> omega)) (by unfold z_rg; first | omega | (split <;> omega)) (by omega) (by omega) ?_
        refine r_iload_n hV dX12_readDay_37 rfl ?_
        refine s_bipush hV dX12_readDay_38 (6) (by decide) ?_
        refine s_irem hV dX12_readDay_40 (by unfold z_rg; first | omega | (split <;> omega)) (by unfold z_rg; first | omega | (split <;> omega)) (by omega) (by omega) ?_
        refine s_icmp_ne hV 48 dX12_readDay_41 (by decide) (by unfold z_rg; first | omega | (split <;> omega)) (by unfold z_rg; first | omega | (split <;> omega)) (fun c41 => ?_) (fun c41 => ?_)
        · refine s_ldc hV dX12_readDay_48 ct_X12_103 (99999) (by decide) ?_
          first
            | rw [show iI 99999 = iI (mRf (fun _ => 0) (j : Int)) by unfold mRf; rw [if_neg (by omega), if_pos rfl]]
            | rw [show iI 0 = iI (mRf (fun _ => 0) (j : Int)) by unfold mRf; rw [if_pos (by omega)]]
          refine s_iastore hV dX12_readDay_50 (by first | decide | omega) (by first | rfl | assumption) (by decide) (by omega) (by omega) ?_
          refine s_iinc hV dX12_readDay_51 rfl (z_st1_3_1 rfl) ?_
          refine r_goto hV 22 dX12_readDay_54 (by decide) ?_
          exact ih22 (j + 1) _ (by omega) (by omega) (z_ar_push hz) (fun q h => by rw [zu_n _ _ h]; exact hfr q h)
        · refine s_iconst hV dX12_readDay_44 (0) (by decide) ?_
          refine r_goto hV 50 dX12_readDay_45 (by decide) ?_
          first
            | rw [show iI 99999 = iI (mRf (fun _ => 0) (j : Int)) by unfold mRf; rw [if_neg (by omega), if_pos rfl]]
            | rw [show iI 0 = iI (mRf (fun _ => 0) (j : Int)) by unfold mRf; rw [if_pos (by omega)]]
          refine s_iastore hV dX12_readDay_50 (by first | decide | omega) (by first | rfl | assumption) (by decide) (by omega) (by omega) ?_
          refine s_iinc hV dX12_readDay_51 rfl (z_st1_3_1 rfl) ?_
          refine r_goto hV 22 dX12_readDay_54 (by decide) ?_
          exact ih22 (j + 1) _ (by omega) (by omega) (z_ar_push hz) (fun q h => by rw [zu_n _ _ h]; exact hfr q h)
  exact L22 37 0 A4 (by omega) (by omega) z_ar_0 (fun q h => rfl)

def q_mflt (T : Int → Int) (tl : Int) (W0 U0 K0 : Int → Int) (I : zI) (J : zJ) (P : zP) (v : Option Value) (I1 : zI) (J1 : zJ) (P1 : zP) : Prop := v = some (.int (iI (f_flt T tl W0 U0 K0))) ∧ J1 = J ∧ P1 = P ∧ (∀ q, q ≠ 78 → (q < 84 ∨ 87 < q) → I1 q = I q) ∧ ∀ k, k ≠ 0 → k ≠ 3 → k ≠ 12 → k ≠ 13 → k ≠ 14 → k ≠ 15 → I1 78 k = I 78 k
set_option maxRecDepth 20000 in
theorem n_fault (I : zI) (J : zJ) (P : zP) (hM : mK P) (tl : Int) (h2 : I 78 2 = iI tl) (htb : 0 ≤ tl ∧ tl ≤ 80) (T : Int → Int) (zT : z_ar I 79 80 T) (hTb : z_bd T 80 0 255) : z_Sp 5 yX12_fault cX12_fault 1 (some .int) 108 108 I J P [.ref 78] (q_mflt T tl (f_w0 I 85) (f_w0 I 86) (f_w0 I 87) I J P) := by
  obtain ⟨o1, o7, o9, o10, o11, o16, o17, o18, o19, o20, o25, o26, o28, o29, o30, o31, o36, o37, o38, o39, o40, o41, o42, o43, o44, o45, o46, o47, o48⟩ := id hM
  refine z_met false (by decide +kernel) (fun h => by cases h) (Nat.le_of_ble_eq_true rfl) (by first | decide | omega) (fun V hV => ?_)
  show V 108 I J P 0 [.ref 78] []
  refine r_aload_n hV dX12_fault_0 rfl rfl ?_
  refine s_iconst hV dX12_fault_1 (0) (by decide) ?_
  refine r_putI hV dX12_fault_2 fl_X12_104 (pf_X12_104 _) (z_okI_int rfl _) (by first | decide | omega) (by first | rfl | assumption) ?_
  generalize hI0e : zu I 78 (zu (I 78) 0 (iI 0)) = I0
  have t0 : ∀ q, q ≠ 78 → I0 q = I q := fun q h => by rw [← hI0e, zu_n _ _ h]
  have t1 : ∀ k, k ≠ 0 → I0 78 k = I 78 k := fun k h => by rw [← hI0e, zu_s, zu_n _ _ h]
  clear hI0e
  refine r_aload_n hV dX12_fault_5 rfl rfl ?_
  refine r_iv0 hV dX12_fault_6 mv_X12_155 (n_readDay I0 J P hM tl ((t1 2 (by omega)).trans h2) htb T (z_ar_fr zT (t0 79 (by omega))) hTb) (by first | decide | omega) (by first | rfl | assumption) (by decide) (Nat.le_refl _) (Nat.le_of_ble_eq_true rfl) (fun v2 I2 J2 P2 hq => ?_)
  obtain ⟨rfl, ej, ep, y1, y2, _⟩ := hq
  rw [ej, ep]
  show V 108 I2 J P _ _ [.int (iI (f_flt T tl (f_w0 I0 85) (f_w0 I0 86) (f_w0 I0 87)))]
  refine r_iret hV dX12_fault_9 rfl rfl ?_
  have e5 : ∀ q, q ≠ 78 → f_w0 I0 q = f_w0 I q := fun q a => by unfold f_w0; rw [t0 q a]
  rw [e5 85 (by omega), e5 86 (by omega), e5 87 (by omega)]
  exact ⟨rfl, rfl, rfl, fun q a b => (y1 q a b).trans (t0 q a), fun k z a b c g h => (y2 k a b c g h).trans (t1 k z)⟩

