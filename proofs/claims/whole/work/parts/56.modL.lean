theorem f_mk_b {by_ k : Nat} {f : Int → Int} (h : z_bd f 36 0 99999) (hb : by_ < 6) (hk : k < 36) : z_bd (f_mk by_ k f) 36 0 99999 := by
  have h1 := h ((k : Int) / 6 * 6 + by_) (by omega) (by omega)
  have h2 := h (6 * (by_ : Int) + (k : Int) % 6) (by omega) (by omega)
  have h3 := h (k : Int) (by omega) (by omega)
  unfold f_mk
  refine z_bd_up h ?_ ?_ <;> split <;> omega
theorem f_mb_b {by_ : Nat} {f : Int → Int} (h : z_bd f 36 0 99999) (hb : by_ < 6) : z_bd (f_mb by_ f) 36 0 99999 :=
  zit_ind (p := fun f => z_bd f 36 0 99999) (n := 36) (fun k x hk hx => f_mk_b hx hb hk) 36 (Nat.le_refl _) f h
/-- THE TEXT became THE DAY -/
def q_mdayT (I : zI) (J : zJ) (P : zP) (tl : Int) (T S W0 U0 K0 : Int → Int) (v : Option Value) (I1 : zI) (J1 : zJ) (P1 : zP) : Prop := ∃ (n e : Nat) (r : Int) (R W U K : Int → Int), zfg T tl 4 = n ∧ (2 ≤ n ∧ n ≤ 6) ∧ f_parse T tl (zfg T tl 4) 81 5 0 0 (fun _ => 0) W0 U0 K0 = (-9, r, (e : Int), R, W, U, K) ∧ z_bd R 36 0 99 ∧ e ≤ 6 ∧ (0 ≤ r ∧ r ≤ 10) ∧ v = some (.int (iI (n : Int))) ∧ J1 = J ∧ P1 = P ∧ mI I1 tl (f_st T tl) r 0 n e T (f_ms R) W U K (f_beg (f_st T tl) S) ∧ z_ar I1 92 2 (fun _ => 0) ∧ ∀ q, q < 78 → I1 q = I q
def q_mday (I : zI) (J : zJ) (P : zP) (tl : Int) (T S W0 U0 K0 : Int → Int) (v : Option Value) (I1 : zI) (J1 : zJ) (P1 : zP) : Prop := (¬ f_flt T tl W0 U0 K0 = -9 ∧ v = some (.int (iI (-3))) ∧ J1 = J ∧ P1 = P ∧ (∀ q, q ≠ 78 → (q < 84 ∨ 87 < q) → I1 q = I q) ∧ ∀ k, k ≠ 0 → k ≠ 3 → k ≠ 12 → k ≠ 13 → k ≠ 14 → k ≠ 15 → I1 78 k = I 78 k) ∨ (f_flt T tl W0 U0 K0 = -9 ∧ q_mdayT I J P tl T S W0 U0 K0 v I1 J1 P1)
set_option maxRecDepth 20000 in
theorem n_day (I : zI) (J : zJ) (P : zP) (hM : mK P) (tl st r c : Int) (n e : Nat) (T F W U K S : Int → Int) (hI : mI I tl st r c n e T F W U K S) (htb : 0 ≤ tl ∧ tl ≤ 80) (hTb : z_bd T 80 0 255) : z_Sp 5 yX12_day cX12_day 4 (some .int) 108 108 I J P [.ref 78] (q_mday I J P tl T S (f_w0 I 85) (f_w0 I 86) (f_w0 I 87)) := by
  obtain ⟨o1, o7, o9, o10, o11, o16, o17, o18, o19, o20, o25, o26, o28, o29, o30, o31, o36, o37, o38, o39, o40, o41, o42, o43, o44, o45, o46, o47, o48⟩ := id hM
  refine z_met false (by decide +kernel) (fun h => by cases h) (Nat.le_of_ble_eq_true rfl) (by first | decide | omega) (fun V hV => ?_)
  show V 108 I J P 0 [.ref 78, .null, .null, .null] []
  refine r_aload_n hV dX12_day_0 rfl rfl ?_
  refine s_iconst hV dX12_day_1 (0) (by decide) ?_
  refine r_putI hV dX12_day_2 fl_X12_104 (pf_X12_104 _) (z_okI_int rfl _) (by first | decide | omega) (by first | rfl | assumption) ?_
  generalize hI0e : zu I 78 (zu (I 78) 0 (iI 0)) = I0
  have t0 : ∀ q, q ≠ 78 → I0 q = I q := fun q h => by rw [← hI0e, zu_n _ _ h]
  have t1 : ∀ k, k ≠ 0 → I0 78 k = I 78 k := fun k h => by rw [← hI0e, zu_s, zu_n _ _ h]
  clear hI0e
  have hI0 := mI_fr hI t0 t1
  obtain ⟨⟨i20, i40, i50, i60, i80, i210, i220, i230, i240, i270⟩, zT0, zF0, zW0, zU0, zK0, zA0, zN0⟩ := id hI0
  have e5 : ∀ q, q ≠ 78 → f_w0 I0 q = f_w0 I q := fun q a => by unfold f_w0; rw [t0 q a]
  refine r_aload_n hV dX12_day_5 rfl rfl ?_
  refine r_iv0 hV dX12_day_6 mv_X12_155 (n_readDay I0 J P hM tl i20 htb T zT0 hTb) (by first | decide | omega) (by first | rfl | assumption) (by decide) (Nat.le_refl _) (Nat.le_of_ble_eq_true rfl) (fun v2 I2 J2 P2 hq => ?_)
  rw [e5 85 (by omega), e5 86 (by omega), e5 87 (by omega)] at hq
  obtain ⟨rfl, ej, ep, y1, y2, y3⟩ := hq
  rw [ej, ep]
  show V 108 I2 J P _ _ [.int (iI (f_flt T tl (f_w0 I 85) (f_w0 I 86) (f_w0 I 87)))]
  clear ej ep
  have hfb := f_flt_b (T := T) (W := f_w0 I 85) (U := f_w0 I 86) (K := f_w0 I 87) htb
  refine s_bipush hV dX12_day_9 (-9) (by decide) ?_
  refine s_icmp_eq hV 17 dX12_day_11 (by decide) (by unfold z_rg; first | omega | (split <;> omega)) (by unfold z_rg; first | omega | (split <;> omega)) (fun c11 => ?_) (fun c11 => ?_)
  · obtain ⟨ehf, n2, r2, e2, R, W2, U2, K2, hn2, hn2b, hps, ⟨h2, h3, h12, h14, h15, zTr, zR, zW2, zU2, zK2⟩, h13, hrd, hRb, heb, hrb⟩ := y3 c11
    obtain ⟨en, rfl⟩ := Int.eq_ofNat_of_zero_le heb.1
    refine r_aload_n hV dX12_day_17 rfl rfl ?_
    refine r_aload_n hV dX12_day_18 rfl rfl ?_
    refine r_getI hV dX12_day_19 fl_X12_122 (by first | decide | omega) (by first | rfl | assumption) h12 ?_
    refine r_putI hV dX12_day_22 fl_X12_13 (pf_X12_13 _) (z_okI_int rfl _) (by first | decide | omega) (by first | rfl | assumption) ?_
    generalize hgD1 : zu I2 78 (zu (I2 78) 4 (iI ((n2 : Int)))) = D1
    have uD1 : ∀ p, p ≠ 78 → D1 p = I2 p := fun p a => by rw [← hgD1, zu_n _ _ a]
    have kD1 : ∀ k, k ≠ 4 → D1 78 k = I2 78 k := fun k a => by rw [← hgD1, zu_s, zu_n _ _ a]
    have sD1 : D1 78 4 = iI ((n2 : Int)) := by rw [← hgD1, zu_s, zu_s]
    clear hgD1
    refine r_aload_n hV dX12_day_25 rfl rfl ?_
    refine r_aload_n hV dX12_day_26 rfl rfl ?_
    refine r_getI hV dX12_day_27 fl_X12_149 (by first | decide | omega) (by first | rfl | assumption) ((kD1 13 (by omega)).trans h13) ?_
    refine r_putI hV dX12_day_30 fl_X12_159 (pf_X12_159 _) (z_okI_int rfl _) (by first | decide | omega) (by first | rfl | assumption) ?_
    generalize hgD2 : zu D1 78 (zu (D1 78) 5 (iI (f_st T tl))) = D2
    have uD2 : ∀ p, p ≠ 78 → D2 p = D1 p := fun p a => by rw [← hgD2, zu_n _ _ a]
    have kD2 : ∀ k, k ≠ 5 → D2 78 k = D1 78 k := fun k a => by rw [← hgD2, zu_s, zu_n _ _ a]
    have sD2 : D2 78 5 = iI (f_st T tl) := by rw [← hgD2, zu_s, zu_s]
    clear hgD2
    refine r_aload_n hV dX12_day_33 rfl rfl ?_
    refine r_aload_n hV dX12_day_34 rfl rfl ?_
    refine r_getI hV dX12_day_35 fl_X12_133 (by first | decide | omega) (by first | rfl | assumption) ((kD2 14 (by omega)).trans ((kD1 14 (by omega)).trans h14)) ?_
    refine r_putI hV dX12_day_38 fl_X12_162 (pf_X12_162 _) (z_okI_int rfl _) (by first | decide | omega) (by first | rfl | assumption) ?_
    generalize hgD3 : zu D2 78 (zu (D2 78) 6 (iI (r2))) = D3
    have uD3 : ∀ p, p ≠ 78 → D3 p = D2 p := fun p a => by rw [← hgD3, zu_n _ _ a]
    have kD3 : ∀ k, k ≠ 6 → D3 78 k = D2 78 k := fun k a => by rw [← hgD3, zu_s, zu_n _ _ a]
    have sD3 : D3 78 6 = iI (r2) := by rw [← hgD3, zu_s, zu_s]
    clear hgD3
    refine r_aload_n hV dX12_day_41 rfl rfl ?_
    refine r_aload_n hV dX12_day_42 rfl rfl ?_
    refine r_getI hV dX12_day_43 fl_X12_136 (by first | decide | omega) (by first | rfl | assumption) ((kD3 15 (by omega)).trans ((kD2 15 (by omega)).trans ((kD1 15 (by omega)).trans h15))) ?_
    refine r_putI hV dX12_day_46 fl_X12_111 (pf_X12_111 _) (z_okI_int rfl _) (by first | decide | omega) (by first | rfl | assumption) ?_
    generalize hgD4 : zu D3 78 (zu (D3 78) 8 (iI ((en : Int)))) = D4
    have uD4 : ∀ p, p ≠ 78 → D4 p = D3 p := fun p a => by rw [← hgD4, zu_n _ _ a]
    have kD4 : ∀ k, k ≠ 8 → D4 78 k = D3 78 k := fun k a => by rw [← hgD4, zu_s, zu_n _ _ a]
    have sD4 : D4 78 8 = iI ((en : Int)) := by rw [← hgD4, zu_s, zu_s]
    clear hgD4
    have d4 : D4 78 4 = iI (n2 : Int) := (kD4 4 (by omega)).trans ((kD3 4 (by omega)).trans ((kD2 4 (by omega)).trans sD1))
    have d5 : D4 78 5 = iI (f_st T tl) := (kD4 5 (by omega)).trans ((kD3 5 (by omega)).trans sD2)
    have d6 : D4 78 6 = iI r2 := (kD4 6 (by omega)).trans sD3
    have d2 : D4 78 2 = iI tl := (kD4 2 (by omega)).trans ((kD3 2 (by omega)).trans ((kD2 2 (by omega)).trans ((kD1 2 (by omega)).trans h2)))
    have uD : ∀ q, q ≠ 78 → D4 q = I2 q := fun q a => (uD4 q a).trans ((uD3 q a).trans ((uD2 q a).trans (uD1 q a)))
    clear kD1 kD2 kD3 kD4 uD1 uD2 uD3 uD4
    refine s_iconst hV dX12_day_49 (0) (by decide) ?_
    refine r_istore_n hV dX12_day_50 (Nat.le_of_ble_eq_true rfl) (z_st1_4_1 rfl) ?_
    have L51 : ∀ (k51 j : Nat) (I3 : zI), 36 - j < k51 → j ≤ 36 → (z_ar I3 80 (j : Int) (mRf R)) → (∀ q, q ≠ 80 → I3 q = D4 q) → V 108 I3 J P 51 [.ref 78, .int (iI (j : Int)), .null, .null] [] := by
      intro k51
      induction k51 with
      | zero => intro j I3  hk1 hk2; omega
      | succ k51 ih51 =>
        intro j I3  hk51 hl51 hz hfr
        refine r_iload_n hV dX12_day_51 rfl ?_
        refine s_bipush hV dX12_day_52 (36) (by decide) ?_
        refine s_icmp_ge hV 75 dX12_day_54 (by decide) (by unfold z_rg; first | omega | (split <;> omega)) (by unfold z_rg; first | omega | (split <;> omega)) (fun c54 => ?_) (fun c54 => ?_)
        · rw [show j = 36 by omega] at hz
          refine s_iconst hV dX12_day_75 (0) (by decide) ?_
          refine r_istore_n hV dX12_day_76 (Nat.le_of_ble_eq_true rfl) (z_st1_4_1 rfl) ?_
          have L77 : ∀ (k77 j : Nat) (I4 : zI), 6 - j < k77 → j ≤ 6 → (z_ar I4 80 36 (zit f_mb j (mRf R))) → (z_bd (zit f_mb j (mRf R)) 36 0 99999) → (∀ q, q ≠ 80 → I4 q = D4 q) → V 108 I4 J P 77 [.ref 78, .int (iI (j : Int)), .null, .null] [] := by
            intro k77
            induction k77 with
            | zero => intro j I4  hk1 hk2; omega
            | succ k77 ih77 =>
              intro j I4  hk77 hl77 hz hzb hfr
              refine r_iload_n hV dX12_day_77 rfl ?_
              refine s_bipush hV dX12_day_78 (6) (by decide) ?_
              refine s_icmp_ge hV 159 dX12_day_80 (by decide) (by unfold z_rg; first | omega | (split <;> omega)) (by unfold z_rg; first | omega | (split <;> omega)) (fun c80 => ?_) (fun c80 => ?_)
              · rw [show j = 6 by omega] at hz
                have hfr0 := hfr
                clear hfr
                refine s_iconst hV dX12_day_159 (0) (by decide) ?_
                refine r_istore_n hV dX12_day_160 (Nat.le_of_ble_eq_true rfl) (z_st1_4_1 rfl) ?_
                have L161 : ∀ (k161 j : Nat) (I6 : zI), en - j < k161 → j ≤ en → (z_ar I6 81 (j : Int) W2) → (z_ar I6 82 (j : Int) U2) → (z_ar I6 83 (j : Int) K2) → (∀ q, q ≠ 81 → q ≠ 82 → q ≠ 83 → I6 q = I4 q) → V 108 I6 J P 161 [.ref 78, .int (iI (j : Int)), .null, .null] [] := by
                  intro k161
                  induction k161 with
                  | zero => intro j I6  hk1 hk2; omega
                  | succ k161 ih161 =>
                    intro j I6  hk161 hl161 hW hU hK hfr
                    refine r_iload_n hV dX12_day_161 rfl ?_
                    refine r_aload_n hV dX12_day_162 rfl rfl ?_
                    refine r_getI hV dX12_day_163 fl_X12_111 (by first | decide | omega) (by first | rfl | assumption) ((congrFun ((hfr 78 (by omega) (by omega) (by omega)).trans (hfr0 78 (by omega))) 8).trans sD4) ?_
                    refine s_icmp_ge hV 211 dX12_day_166 (by decide) (by unfold z_rg; first | omega | (split <;> omega)) (by unfold z_rg; first | omega | (split <;> omega)) (fun c166 => ?_) (fun c166 => ?_)
                    · rw [show j = en by omega] at hW hU hK
                      have f6 : ∀ q, q ≠ 80 → q ≠ 81 → q ≠ 82 → q ≠ 83 → I6 q = D4 q := fun q a b c g => (hfr q b c g).trans (hfr0 q a)
                      have zA0' := z_ar_fr zA0 ((f6 88 (by omega) (by omega) (by omega) (by omega)).trans ((uD 88 (by omega)).trans (y1 88 (by omega) (by omega))))
                      refine r_aload_n hV dX12_day_211 rfl rfl ?_
                      refine r_getR hV dX12_day_212 fl_X12_41 (by first | decide | omega) (by first | rfl | assumption) o20 ?_
                      refine s_iconst hV dX12_day_215 (0) (by decide) ?_
                      refine s_iconst hV dX12_day_216 (0) (by decide) ?_
                      refine s_iastore hV dX12_day_217 (by first | decide | omega) (by first | rfl | assumption) (by decide) (by omega) (by omega) ?_
                      have zE1 := z_ar_set zA0' (z := (0 : Int)) (by omega) (0)
                      generalize hE1 : zu I6 (88) (zu (I6 88) ((0 : Int)).toNat (iI (0))) = E1
                      have hfE1 : ∀ q, q ≠ 88 → E1 q = I6 q := fun q h => by rw [← hE1]; exact zu_n _ _ h
                      rw [hE1] at zE1
                      clear hE1
                      refine r_aload_n hV dX12_day_218 rfl rfl ?_
                      refine r_getR hV dX12_day_219 fl_X12_41 (by first | decide | omega) (by first | rfl | assumption) o20 ?_
                      refine s_iconst hV dX12_day_222 (1) (by decide) ?_
                      refine s_iconst hV dX12_day_223 (0) (by decide) ?_
                      refine s_iastore hV dX12_day_224 (by first | decide | omega) (by first | rfl | assumption) (by decide) (by omega) (by omega) ?_
                      have zE2 := z_ar_set zE1 (z := (1 : Int)) (by omega) (0)
                      generalize hE2 : zu E1 (88) (zu (E1 88) ((1 : Int)).toNat (iI (0))) = E2
                      have hfE2 : ∀ q, q ≠ 88 → E2 q = E1 q := fun q h => by rw [← hE2]; exact zu_n _ _ h
                      rw [hE2] at zE2
                      clear hE2
                      have fE : ∀ q, q ≠ 88 → E2 q = I6 q := fun q a => (hfE2 q a).trans (hfE1 q a)
                      refine r_aload_n hV dX12_day_225 rfl rfl ?_
                      refine r_aload_n hV dX12_day_226 rfl rfl ?_
                      refine r_getI hV dX12_day_227 fl_X12_159 (by first | decide | omega) (by first | rfl | assumption) ((congrFun ((fE 78 (by omega)).trans (f6 78 (by omega) (by omega) (by omega) (by omega))) 5).trans d5) ?_
                      refine r_putI hV dX12_day_230 fl_X12_165 (pf_X12_165 _) (z_okI_int rfl _) (by first | decide | omega) (by first | rfl | assumption) ?_
                      generalize hgF1 : zu E2 78 (zu (E2 78) 21 (iI (f_st T tl))) = F1
                      have uF1 : ∀ p, p ≠ 78 → F1 p = E2 p := fun p a => by rw [← hgF1, zu_n _ _ a]
                      have kF1 : ∀ k, k ≠ 21 → F1 78 k = E2 78 k := fun k a => by rw [← hgF1, zu_s, zu_n _ _ a]
                      have sF1 : F1 78 21 = iI (f_st T tl) := by rw [← hgF1, zu_s, zu_s]
                      clear hgF1
                      refine r_aload_n hV dX12_day_233 rfl rfl ?_
                      refine s_iconst hV dX12_day_234 (0) (by decide) ?_
                      refine r_putI hV dX12_day_235 fl_X12_168 (pf_X12_168 _) (z_okI_int rfl _) (by first | decide | omega) (by first | rfl | assumption) ?_
                      generalize hgF2 : zu F1 78 (zu (F1 78) 22 (iI (0))) = F2
                      have uF2 : ∀ p, p ≠ 78 → F2 p = F1 p := fun p a => by rw [← hgF2, zu_n _ _ a]
                      have kF2 : ∀ k, k ≠ 22 → F2 78 k = F1 78 k := fun k a => by rw [← hgF2, zu_s, zu_n _ _ a]
                      have sF2 : F2 78 22 = iI (0) := by rw [← hgF2, zu_s, zu_s]
                      clear hgF2
                      refine r_aload_n hV dX12_day_238 rfl rfl ?_
                      refine s_iconst hV dX12_day_239 (0) (by decide) ?_
                      refine r_putI hV dX12_day_240 fl_X12_171 (pf_X12_171 _) (z_okI_int rfl _) (by first | decide | omega) (by first | rfl | assumption) ?_
                      generalize hgF3 : zu F2 78 (zu (F2 78) 23 (iI (0))) = F3
                      have uF3 : ∀ p, p ≠ 78 → F3 p = F2 p := fun p a => by rw [← hgF3, zu_n _ _ a]
                      have kF3 : ∀ k, k ≠ 23 → F3 78 k = F2 78 k := fun k a => by rw [← hgF3, zu_s, zu_n _ _ a]
                      have sF3 : F3 78 23 = iI (0) := by rw [← hgF3, zu_s, zu_s]
                      clear hgF3
                      refine r_aload_n hV dX12_day_243 rfl rfl ?_
                      refine s_iconst hV dX12_day_244 (0) (by decide) ?_
                      refine r_putI hV dX12_day_245 fl_X12_174 (pf_X12_174 _) (z_okI_int rfl _) (by first | decide | omega) (by first | rfl | assumption) ?_
                      generalize hgF4 : zu F3 78 (zu (F3 78) 24 (iI (0))) = F4
                      have uF4 : ∀ p, p ≠ 78 → F4 p = F3 p := fun p a => by rw [← hgF4, zu_n _ _ a]
                      have kF4 : ∀ k, k ≠ 24 → F4 78 k = F3 78 k := fun k a => by rw [← hgF4, zu_s, zu_n _ _ a]
                      have sF4 : F4 78 24 = iI (0) := by rw [← hgF4, zu_s, zu_s]
                      clear hgF4
                      refine r_aload_n hV dX12_day_248 rfl rfl ?_
                      refine s_iconst hV dX12_day_249 (0) (by decide) ?_
                      refine r_putI hV dX12_day_250 fl_X12_177 (pf_X12_177 _) (z_okI_int rfl _) (by first | decide | omega) (by first | rfl | assumption) ?_
                      generalize hgF5 : zu F4 78 (zu (F4 78) 27 (iI (0))) = F5
                      have uF5 : ∀ p, p ≠ 78 → F5 p = F4 p := fun p a => by rw [← hgF5, zu_n _ _ a]
                      have kF5 : ∀ k, k ≠ 27 → F5 78 k = F4 78 k := fun k a => by rw [← hgF5, zu_s, zu_n _ _ a]
                      have sF5 : F5 78 27 = iI (0) := by rw [← hgF5, zu_s, zu_s]
                      clear hgF5
                      have uF : ∀ q, q ≠ 78 → F5 q = E2 q := fun q a => (uF5 q a).trans ((uF4 q a).trans ((uF3 q a).trans ((uF2 q a).trans (uF1 q a))))
                      have b21 : F5 78 21 = iI (f_st T tl) := (kF5 21 (by omega)).trans ((kF4 21 (by omega)).trans ((kF3 21 (by omega)).trans ((kF2 21 (by omega)).trans sF1)))
                      have b22 : F5 78 22 = iI 0 := (kF5 22 (by omega)).trans ((kF4 22 (by omega)).trans ((kF3 22 (by omega)).trans sF2))
                      have b23 : F5 78 23 = iI 0 := (kF5 23 (by omega)).trans ((kF4 23 (by omega)).trans sF3)
                      have b24 : F5 78 24 = iI 0 := (kF5 24 (by omega)).trans sF4
                      have kF : ∀ k, k < 21 → F5 78 k = D4 78 k := fun k a => (kF5 k (by omega)).trans ((kF4 k (by omega)).trans ((kF3 k (by omega)).trans ((kF2 k (by omega)).trans ((kF1 k (by omega)).trans (congrFun ((fE 78 (by omega)).trans (f6 78 (by omega) (by omega) (by omega) (by omega))) k)))))
                      clear kF1 kF2 kF3 kF4 uF1 uF2 uF3 uF4 uF5
                      refine r_aload_n hV dX12_day_253 rfl rfl ?_
                      refine r_getR hV dX12_day_254 fl_X12_53 (by first | decide | omega) (by first | rfl | assumption) o29 ?_
                      refine s_iconst hV dX12_day_257 (0) (by decide) ?_
                      refine s_iconst hV dX12_day_258 (0) (by decide) ?_
                      refine s_bastore hV dX12_day_259 (by omega) (by first | decide | omega) (by first | rfl | assumption) (by decide) (by omega) (by omega) ?_
                      have zk0 : ∀ z : Int, 0 ≤ z → z < 1 → zu F5 92 (zu (F5 92) (0 : Int).toNat (iI 0)) 92 z.toNat = iI 0 := fun z a b => by rw [show z = 0 by omega, zu_s, zu_s]
                      generalize hF6 : zu F5 (92) (zu (F5 92) (0 : Int).toNat (iI 0)) = F6
                      have hfF6 : ∀ q, q ≠ 92 → F6 q = F5 q := fun q h => by rw [← hF6]; exact zu_n _ _ h
                      rw [hF6] at zk0
                      clear hF6
                      refine r_aload_n hV dX12_day_260 rfl rfl ?_
                      refine r_getR hV dX12_day_261 fl_X12_53 (by first | decide | omega) (by first | rfl | assumption) o29 ?_
                      refine s_iconst hV dX12_day_264 (1) (by decide) ?_
                      refine s_iconst hV dX12_day_265 (0) (by decide) ?_
                      refine s_bastore hV dX12_day_266 (by omega) (by first | decide | omega) (by first | rfl | assumption) (by decide) (by omega) (by omega) ?_
                      have zk1 : z_ar (zu F6 92 (zu (F6 92) (1 : Int).toNat (iI 0))) 92 2 (fun _ => 0) := fun z a b => by
                        rcases (show z = 0 ∨ z = 1 by omega) with rfl | rfl
                        · rw [zu_s, zu_n _ _ (by decide)]; exact zk0 0 (by omega) (by omega)
                        · rw [zu_s, zu_s]
                      generalize hF7 : zu F6 (92) (zu (F6 92) (1 : Int).toNat (iI 0)) = F7
                      have hfF7 : ∀ q, q ≠ 92 → F7 q = F6 q := fun q h => by rw [← hF7]; exact zu_n _ _ h
                      rw [hF7] at zk1
                      clear hF7
                      have f7 : ∀ q, q ≠ 92 → F7 q = F5 q := fun q a => (hfF7 q a).trans (hfF6 q a)
                      refine r_aload_n hV dX12_day_267 rfl rfl ?_
                      refine r_getI hV dX12_day_268 fl_X12_13 (by first | decide | omega) (by first | rfl | assumption) ((congrFun (f7 78 (by omega)) 4).trans ((kF 4 (by omega)).trans d4)) ?_
                      refine r_iret hV dX12_day_271 rfl rfl ?_
                      have g78 : F7 78 = F5 78 := f7 78 (by omega)
                      have gq : ∀ q, q ≠ 92 → q ≠ 78 → q ≠ 88 → F7 q = I6 q := fun q a b c => (f7 q a).trans ((uF q b).trans (fE q c))
                      refine Or.inr ⟨c11, n2, en, r2, R, W2, U2, K2, hn2, hn2b, hps, hRb, by omega, hrb, rfl, rfl, rfl, ⟨⟨?_, ?_, ?_, ?_, ?_, ?_, ?_, ?_, ?_, ?_⟩, ?_, ?_, ?_, ?_, ?_, ?_, ?_⟩, zk1, fun q h => (gq q (by omega) (by omega) (by omega)).trans ((f6 q (by omega) (by omega) (by omega) (by omega)).trans ((uD q (by omega)).trans ((y1 q (by omega) (by omega)).trans (t0 q (by omega)))))⟩
                      · rw [g78]; exact (kF 2 (by omega)).trans d2
                      · rw [g78]; exact (kF 4 (by omega)).trans d4
                      · rw [g78]; exact (kF 5 (by omega)).trans d5
                      · rw [g78]; exact (kF 6 (by omega)).trans d6
                      · rw [g78]; exact (kF 8 (by omega)).trans sD4
                      · rw [g78]; exact b21
                      · rw [g78]; exact b22
                      · rw [g78]; exact b23
                      · rw [g78]; exact b24
                      · rw [g78]; exact sF5
                      · exact z_ar_fr zTr ((gq 79 (by omega) (by omega) (by omega)).trans ((f6 79 (by omega) (by omega) (by omega) (by omega)).trans (uD 79 (by omega))))
                      · exact z_ar_eq (z_ar_fr hz ((gq 80 (by omega) (by omega) (by omega)).trans (hfr 80 (by omega) (by omega) (by omega)))) (f_mfw_eq hRb)
                      · exact z_ar_fr hW (gq 81 (by omega) (by omega) (by omega))
                      · exact z_ar_fr hU (gq 82 (by omega) (by omega) (by omega))
                      · exact z_ar_fr hK (gq 83 (by omega) (by omega) (by omega))
                      · exact z_ar_eq (z_ar_fr zE2 ((f7 88 (by omega)).trans (uF 88 (by omega)))) (fun z a b => by
                          unfold f_beg
                          rw [if_neg (by omega), if_pos (by omega)]
                          rcases (show z = 0 ∨ z = 1 by omega) with rfl | rfl
                          · rw [zup_n (by omega), zup_s]
                          · rw [zup_s])
                      · exact z_ar_eq (z_ar_fr zN0 ((gq 89 (by omega) (by omega) (by omega)).trans ((f6 89 (by omega) (by omega) (by omega) (by omega)).trans ((uD 89 (by omega)).trans (y1 89 (by omega) (by omega)))))) (fun z a b => by
                          unfold f_beg
                          rw [if_neg (by omega), if_neg (by omega)])
                    · refine r_aload_n hV dX12_day_169 rfl rfl ?_
                      refine r_getR hV dX12_day_170 fl_X12_20 (by first | decide | omega) (by first | rfl | assumption) o9 ?_
                      refine r_iload_n hV dX12_day_173 rfl ?_
                      refine r_aload_n hV dX12_day_174 rfl rfl ?_
                      refine r_getR hV dX12_day_175 fl_X12_32 (by first | decide | omega) (by first | rfl | assumption) o17 ?_
                      refine r_iload_n hV dX12_day_178 rfl ?_
                      refine s_iaload hV dX12_day_179 (by first | decide | omega) (by first | rfl | assumption) (by decide) (by omega) (by omega) ((congrFun ((hfr 85 (by omega) (by omega) (by omega)).trans ((hfr0 85 (by omega)).trans (uD 85 (by omega)))) _).trans (zW2 (j : Int) (by omega) (by omega))) ?_
                      refine s_iastore hV dX12_day_180 (by first | decide | omega) (by first | rfl | assumption) (by decide) (by omega) (by omega) ?_
                      have zW7 := z_ar_push hW
                      generalize hI7 : zu I6 (81) (zu (I6 81) ((j : Int)).toNat (iI (W2 (j : Int)))) = I7
                      have hfI7 : ∀ q, q ≠ 81 → I7 q = I6 q := fun q h => by rw [← hI7]; exact zu_n _ _ h
                      rw [hI7] at zW7
                      clear hI7
                      refine r_aload_n hV dX12_day_181 rfl rfl ?_
                      refine r_getR hV dX12_day_182 fl_X12_23 (by first | decide | omega) (by first | rfl | assumption) o10 ?_
                      refine r_iload_n hV dX12_day_185 rfl ?_
                      refine r_aload_n hV dX12_day_186 rfl rfl ?_
                      refine r_getR hV dX12_day_187 fl_X12_35 (by first | decide | omega) (by first | rfl | assumption) o18 ?_
                      refine r_iload_n hV dX12_day_190 rfl ?_
                      refine s_iaload hV dX12_day_191 (by first | decide | omega) (by first | rfl | assumption) (by decide) (by omega) (by omega) ((congrFun ((hfI7 86 (by omega)).trans ((hfr 86 (by omega) (by omega) (by omega)).trans ((hfr0 86 (by omega)).trans (uD 86 (by omega))))) _).trans (zU2 (j : Int) (by omega) (by omega))) ?_
                      refine s_iastore hV dX12_day_192 (by first | decide | omega) (by first | rfl | assumption) (by decide) (by omega) (by omega) ?_
                      have hU7 := z_ar_fr hU (hfI7 82 (by omega))
                      have zU8 := z_ar_push hU7
                      generalize hI8 : zu I7 (82) (zu (I7 82) ((j : Int)).toNat (iI (U2 (j : Int)))) = I8
                      have hfI8 : ∀ q, q ≠ 82 → I8 q = I7 q := fun q h => by rw [← hI8]; exact zu_n _ _ h
                      rw [hI8] at zU8
                      clear hI8
                      refine r_aload_n hV dX12_day_193 rfl rfl ?_
                      refine r_getR hV dX12_day_194 fl_X12_26 (by first | decide | omega) (by first | rfl | assumption) o11 ?_
                      refine r_iload_n hV dX12_day_197 rfl ?_
                      refine r_aload_n hV dX12_day_198 rfl rfl ?_
                      refine r_getR hV dX12_day_199 fl_X12_38 (by first | decide | omega) (by first | rfl | assumption) o19 ?_
                      refine r_iload_n hV dX12_day_202 rfl ?_
                      refine s_iaload hV dX12_day_203 (by first | decide | omega) (by first | rfl | assumption) (by decide) (by omega) (by omega) ((congrFun ((hfI8 87 (by omega)).trans ((hfI7 87 (by omega)).trans ((hfr 87 (by omega) (by omega) (by omega)).trans ((hfr0 87 (by omega)).trans (uD 87 (by omega)))))) _).trans (zK2 (j : Int) (by omega) (by omega))) ?_
                      refine s_iastore hV dX12_day_204 (by first | decide | omega) (by first | rfl | assumption) (by decide) (by omega) (by omega) ?_
                      have hK8 := z_ar_fr hK ((hfI8 83 (by omega)).trans (hfI7 83 (by omega)))
                      have zK9 := z_ar_push hK8
                      generalize hI9 : zu I8 (83) (zu (I8 83) ((j : Int)).toNat (iI (K2 (j : Int)))) = I9
                      have hfI9 : ∀ q, q ≠ 83 → I9 q = I8 q := fun q h => by rw [← hI9]; exact zu_n _ _ h
                      rw [hI9] at zK9
                      clear hI9
                      refine s_iinc hV dX12_day_205 rfl (z_st1_4_1 rfl) ?_
                      refine r_goto hV 161 dX12_day_208 (by decide) ?_
                      exact ih161 (j + 1) _ (by omega) (by omega) (z_ar_fr zW7 ((hfI9 81 (by omega)).trans (hfI8 81 (by omega)))) (z_ar_fr zU8 (hfI9 82 (by omega))) zK9 (fun q a b c => (hfI9 q c).trans ((hfI8 q b).trans ((hfI7 q a).trans (hfr q a b c))))
                exact L161 (en + 1) 0 I4 (by omega) (by omega) z_ar_0 z_ar_0 z_ar_0 (fun q a b c => rfl)
              · refine s_iconst hV dX12_day_83 (0) (by decide) ?_
                refine r_istore_n hV dX12_day_84 (Nat.le_of_ble_eq_true rfl) (z_st1_4_2 rfl) ?_
                have L85 : ∀ (k85 m : Nat) (I5 : zI), 36 - m < k85 → m ≤ 36 → (z_ar I5 80 36 (zit (f_mk j) m (zit f_mb j (mRf R)))) → (z_bd (zit (f_mk j) m (zit f_mb j (mRf R))) 36 0 99999) → (∀ q, q ≠ 80 → I5 q = D4 q) → V 108 I5 J P 85 [.ref 78, .int (iI (j : Int)), .int (iI (m : Int)), .null] [] := by
                  intro k85
                  induction k85 with
                  | zero => intro m I5  hk1 hk2; omega
                  | succ k85 ih85 =>
                    intro m I5  hk85 hl85 hz2 hzb2 hfr2
                    generalize hf0 : zit (f_mk j) m (zit f_mb j (mRf R)) = f0 at hz2 hzb2
                    refine r_iload_n hV dX12_day_85 rfl ?_
                    refine s_bipush hV dX12_day_86 (36) (by decide) ?_
                    refine s_icmp_ge hV 153 dX12_day_88 (by decide) (by unfold z_rg; first | omega | (split <;> omega)) (by unfold z_rg; first | omega | (split <;> omega)) (fun c88 => ?_) (fun c88 => ?_)
                    · refine s_iinc hV dX12_day_153 rfl (z_st1_4_1 rfl) ?_
                      refine r_goto hV 77 dX12_day_156 (by decide) ?_
                      refine r_kill hV 2 z_stk_4_2 ?_
                      refine r_kill hV 3 z_stk_4_3 ?_
                      rw [← hf0, show m = 36 by omega] at hz2
                      exact ih77 (j + 1) _ (by omega) (by omega) hz2 (f_mb_b hzb (by omega)) hfr2
                    · refine r_aload_n hV dX12_day_91 rfl rfl ?_
                      refine r_getR hV dX12_day_92 fl_X12_17 (by first | decide | omega) (by first | rfl | assumption) o7 ?_
                      refine r_iload_n hV dX12_day_95 rfl ?_
                      refine s_bipush hV dX12_day_96 (6) (by decide) ?_
                      refine s_idiv hV dX12_day_98 (by unfold z_rg; first | omega | (split <;> omega)) (by unfold z_rg; first | omega | (split <;> omega)) (by omega) (by omega) ?_
                      refine s_bipush hV dX12_day_99 (6) (by decide) ?_
                      refine s_imul hV dX12_day_101 ?_
                      refine r_iload_n hV dX12_day_102 rfl ?_
                      refine s_iadd hV dX12_day_103 ?_
                      refine s_iaload hV dX12_day_104 (by first | decide | omega) (by first | rfl | assumption) (by decide) (by omega) (by omega) (hz2 ((m : Int) / 6 * 6 + (j : Int)) (by omega) (by omega)) ?_
                      refine r_aload_n hV dX12_day_105 rfl rfl ?_
                      refine r_getR hV dX12_day_106 fl_X12_17 (by first | decide | omega) (by first | rfl | assumption) o7 ?_
                      refine s_bipush hV dX12_day_109 (6) (by decide) ?_
                      refine r_iload_n hV dX12_day_111 rfl ?_
                      refine s_imul hV dX12_day_112 ?_
                      refine r_iload_n hV dX12_day_113 rfl ?_
                      refine s_bipush hV dX12_day_114 (6) (by decide) ?_
                      refine s_irem hV dX12_day_116 (by unfold z_rg; first | omega | (split <;> omega)) (by unfold z_rg; first | omega | (split <;> omega)) (by omega) (by omega) ?_
                      refine s_iadd hV dX12_day_117 ?_
                      refine s_iaload hV dX12_day_118 (by first | decide | omega) (by first | rfl | assumption) (by decide) (by omega) (by omega) (hz2 (6 * (j : Int) + (m : Int) % 6) (by omega) (by omega)) ?_
                      have g1 := hzb2 ((m : Int) / 6 * 6 + (j : Int)) (by omega) (by omega)
                      have g2 := hzb2 (6 * (j : Int) + (m : Int) % 6) (by omega) (by omega)
                      have g3 := hzb2 (m : Int) (by omega) (by omega)
                      refine s_iadd hV dX12_day_119 ?_
                      refine r_istore_n hV dX12_day_120 (Nat.le_of_ble_eq_true rfl) (z_st1_4_3 rfl) ?_
                      refine r_aload_n hV dX12_day_121 rfl rfl ?_
                      refine r_getR hV dX12_day_122 fl_X12_17 (by first | decide | omega) (by first | rfl | assumption) o7 ?_
                      refine r_iload_n hV dX12_day_125 rfl ?_
                      refine r_iload_n hV dX12_day_126 rfl ?_
                      refine r_aload_n hV dX12_day_127 rfl rfl ?_
                      refine r_getR hV dX12_day_128 fl_X12_17 (by first | decide | omega) (by first | rfl | assumption) o7 ?_
                      refine r_iload_n hV dX12_day_131 rfl ?_
                      refine s_iaload hV dX12_day_132 (by first | decide | omega) (by first | rfl | assumption) (by decide) (by omega) (by omega) (hz2 (m : Int) (by omega) (by omega)) ?_
                      refine s_icmp_ge hV 140 dX12_day_133 (by decide) (by unfold z_rg; first | omega | (split <;> omega)) (by unfold z_rg; first | omega | (split <;> omega)) (fun c133 => ?_) (fun c133 => ?_)
                      · have hval : (if f0 ((m : Int) / 6 * 6 + (j : Int)) + f0 (6 * (j : Int) + (m : Int) % 6) < f0 (m : Int) then f0 ((m : Int) / 6 * 6 + (j : Int)) + f0 (6 * (j : Int) + (m : Int) % 6) else f0 (m : Int)) = f0 (m : Int) := if_neg (by omega)
                        refine r_aload_n hV dX12_day_140 rfl rfl ?_
                        refine r_getR hV dX12_day_141 fl_X12_17 (by first | decide | omega) (by first | rfl | assumption) o7 ?_
                        refine r_iload_n hV dX12_day_144 rfl ?_
                        refine s_iaload hV dX12_day_145 (by first | decide | omega) (by first | rfl | assumption) (by decide) (by omega) (by omega) (hz2 (m : Int) (by omega) (by omega)) ?_
                        rw [← hval]
                        refine s_iastore hV dX12_day_146 (by first | decide | omega) (by first | rfl | assumption) (by decide) (by omega) (by omega) ?_
                        have hz6 : z_ar (zu I5 80 (zu (I5 80) (m : Int).toNat (iI (if f0 ((m : Int) / 6 * 6 + (j : Int)) + f0 (6 * (j : Int) + (m : Int) % 6) < f0 (m : Int) then f0 ((m : Int) / 6 * 6 + (j : Int)) + f0 (6 * (j : Int) + (m : Int) % 6) else f0 (m : Int))))) 80 36 (zit (f_mk j) (m + 1) (zit f_mb j (mRf R))) := by rw [zit, hf0]; exact z_ar_set hz2 (by omega) _
                        generalize hI6 : zu I5 (80) (zu (I5 80) ((m : Int)).toNat (iI (if f0 ((m : Int) / 6 * 6 + (j : Int)) + f0 (6 * (j : Int) + (m : Int) % 6) < f0 (m : Int) then f0 ((m : Int) / 6 * 6 + (j : Int)) + f0 (6 * (j : Int) + (m : Int) % 6) else f0 (m : Int)))) = I6
                        have hfI6 : ∀ q, q ≠ 80 → I6 q = I5 q := fun q h => by rw [← hI6]; exact zu_n _ _ h
                        rw [hI6] at hz6
                        clear hI6
                        subst hf0
                        refine s_iinc hV dX12_day_147 rfl (z_st1_4_2 rfl) ?_
                        refine r_goto hV 85 dX12_day_150 (by decide) ?_
                        refine r_kill hV 3 z_stk_4_3 ?_
                        exact ih85 (m + 1) _ (by omega) (by omega) hz6 (f_mk_b hzb2 (by omega) (by omega)) (fun q a => (hfI6 q a).trans (hfr2 q a))
                      · have hval : (if f0 ((m : Int) / 6 * 6 + (j : Int)) + f0 (6 * (j : Int) + (m : Int) % 6) < f0 (m : Int) then f0 ((m : Int) / 6 * 6 + (j : Int)) + f0 (6 * (j : Int) + (m : Int) % 6) else f0 (m : Int)) = f0 ((m : Int) / 6 * 6 + (j : Int)) + f0 (6 * (j : Int) + (m : Int) % 6) := if_pos (by omega)
                        refine r_iload_n hV dX12_day_136 rfl ?_
                        refine r_goto hV 146 dX12_day_137 (by decide) ?_
                        rw [← hval]
                        refine s_iastore hV dX12_day_146 (by first | decide | omega) (by first | rfl | assumption) (by decide) (by omega) (by omega) ?_
                        have hz6 : z_ar (zu I5 80 (zu (I5 80) (m : Int).toNat (iI (if f0 ((m : Int) / 6 * 6 + (j : Int)) + f0 (6 * (j : Int) + (m : Int) % 6) < f0 (m : Int) then f0 ((m : Int) / 6 * 6 + (j : Int)) + f0 (6 * (j : Int) + (m : Int) % 6) else f0 (m : Int))))) 80 36 (zit (f_mk j) (m + 1) (zit f_mb j (mRf R))) := by rw [zit, hf0]; exact z_ar_set hz2 (by omega) _
                        generalize hI6 : zu I5 (80) (zu (I5 80) ((m : Int)).toNat (iI (if f0 ((m : Int) / 6 * 6 + (j : Int)) + f0 (6 * (j : Int) + (m : Int) % 6) < f0 (m : Int) then f0 ((m : Int) / 6 * 6 + (j : Int)) + f0 (6 * (j : Int) + (m : Int) % 6) else f0 (m : Int)))) = I6
                        have hfI6 : ∀ q, q ≠ 80 → I6 q = I5 q := fun q h => by rw [← hI6]; exact zu_n _ _ h
                        rw [hI6] at hz6
                        clear hI6
                        subst hf0
                        refine s_iinc hV dX12_day_147 rfl (z_st1_4_2 rfl) ?_
                        refine r_goto hV 85 dX12_day_150 (by decide) ?_
                        refine r_kill hV 3 z_stk_4_3 ?_
                        exact ih85 (m + 1) _ (by omega) (by omega) hz6 (f_mk_b hzb2 (by omega) (by omega)) (fun q a => (hfI6 q a).trans (hfr2 q a))
                exact L85 37 0 I4 (by omega) (by omega) hz hzb hfr
          exact L77 7 0 I3 (by omega) (by omega) hz (mRf_b hRb) hfr
        · refine r_aload_n hV dX12_day_57 rfl rfl ?_
          refine r_getR hV dX12_day_58 fl_X12_17 (by first | decide | omega) (by first | rfl | assumption) o7 ?_
          refine r_iload_n hV dX12_day_61 rfl ?_
          refine r_aload_n hV dX12_day_62 rfl rfl ?_
          refine r_getR hV dX12_day_63 fl_X12_29 (by first | decide | omega) (by first | rfl | assumption) o16 ?_
          refine r_iload_n hV dX12_day_66 rfl ?_
          refine s_iaload hV dX12_day_67 (by first | decide | omega) (by first | rfl | assumption) (by decide) (by omega) (by omega) ((congrFun ((hfr 84 (by omega)).trans (uD 84 (by omega))) _).trans (zR (j : Int) (by omega) (by omega))) ?_
          refine s_iastore hV dX12_day_68 (by first | decide | omega) (by first | rfl | assumption) (by decide) (by omega) (by omega) ?_
          refine s_iinc hV dX12_day_69 rfl (z_st1_4_1 rfl) ?_
          refine r_goto hV 51 dX12_day_72 (by decide) ?_
          exact ih51 (j + 1) _ (by omega) (by omega) (z_ar_push hz) (fun q h => by rw [zu_n _ _ h]; exact hfr q h)
    exact L51 37 0 D4 (by omega) (by omega) z_ar_0 (fun q h => rfl)
  · refine s_bipush hV dX12_day_14 (-3) (by decide) ?_
    refine r_iret hV dX12_day_16 rfl rfl ?_
    exact Or.inl ⟨by omega, rfl, rfl, rfl, fun q a b => (y1 q a b).trans (t0 q a), fun k z a b c g h => (y2 k a b c g h).trans (t1 k z)⟩

