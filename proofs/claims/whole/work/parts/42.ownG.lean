/-- the guess is laid out -/
def q_gs (I : zI) (J : zJ) (P : zP) (n e : Nat) (F W : Int → Int) (x : Int) (v : Option Value) (I1 : zI) (J1 : zJ) (P1 : zP) : Prop := v = none ∧ J1 = J ∧ P1 = P ∧ I1 62 2 = iI ((2 ^ e : Nat) : Int) ∧ I1 62 3 = iI (10 ^ e) ∧ z_ar I1 63 ((2 ^ e : Nat) : Int) (f_gC (f_tr F n 0 0 (fun _ => 0)).2 W e 0) ∧ z_ar I1 64 ((2 ^ e : Nat) : Int) (f_gW x e) ∧ z_bd (f_gC (f_tr F n 0 0 (fun _ => 0)).2 W e 0) ((2 ^ e : Nat) : Int) 0 1000000 ∧ z_bd (f_gW x e) ((2 ^ e : Nat) : Int) 0 1000000 ∧ ∀ q, (q < 46 ∨ (48 < q ∧ q < 62) ∨ 64 < q) → I1 q = I q
set_option maxRecDepth 20000 in
theorem m_prepGuess (I : zI) (J : zJ) (P : zP) (d d1 : Nat) (hK : cK P) (q10 : P 0 10 = some d) (q11 : P 0 11 = some d1) (hdd : (d = 66 ∧ d1 = 72) ∨ (d = 72 ∧ d1 = 66)) (n : Nat) (hn : I d 0 = iI (n : Int)) (hnb : 2 ≤ n ∧ n ≤ 6) (e : Nat) (he : I d 3 = iI (e : Int)) (he6 : e ≤ 6) (F : Int → Int) (hF : z_ar I (d + 2) 36 F) (hFb : z_bd F 36 0 1000000) (W : Int → Int) (hW : z_ar I (d + 3) 6 W) (hWb : z_bd W e 0 (n - 1)) (x : Int) (hx : 0 ≤ x ∧ x ≤ 10) : z_Sp 4 yX11_prepareGuess cX11_prepareGuess 2 none 108 108 I J P [.ref 0, .int (iI x)] (q_gs I J P n e F W x) := by
  obtain ⟨q0, q1, q2, q3, q4, q5, q6, q7, q8, q9, p1, h3, hA, hL, hTr0, hTr1, hTr2, hPn, hGs, hD66, hD72⟩ := id hK
  have hD : zDay P d := by rcases hdd with ⟨rfl, rfl⟩ | ⟨rfl, rfl⟩ <;> assumption
  obtain ⟨hd, p4, p5, p6, p7, p8⟩ := id hD
  have hD1 : zDay P d1 := by rcases hdd with ⟨rfl, rfl⟩ | ⟨rfl, rfl⟩ <;> assumption
  have hWb5 : z_bd W e 0 5 := fun z a b => by have := hWb z a b; omega
  refine z_met false (by decide +kernel) (fun h => by cases h) (Nat.le_of_ble_eq_true rfl) (by first | decide | omega) (fun V hV => ?_)
  show V 108 I J P 0 [.ref 0, .int (iI x)] []
  refine r_aload_n hV dX11_prepareGuess_0 rfl rfl ?_
  refine r_getR hV dX11_prepareGuess_1 fl_X11_40 (by first | decide | omega) (by first | rfl | assumption | exact h3.2.1 | (rcases hdd with ⟨rfl, rfl⟩ | ⟨rfl, rfl⟩ <;> rfl)) q4 ?_
  refine r_aload_n hV dX11_prepareGuess_4 rfl rfl ?_
  refine r_getR hV dX11_prepareGuess_5 fl_X11_79 (by first | decide | omega) (by first | rfl | assumption | exact h3.2.1 | (rcases hdd with ⟨rfl, rfl⟩ | ⟨rfl, rfl⟩ <;> rfl)) q10 ?_
  refine s_iconst hV dX11_prepareGuess_8 (0) (by decide) ?_
  refine s_iconst hV dX11_prepareGuess_9 (0) (by decide) ?_
  refine r_iv3 hV dX11_prepareGuess_10 mv_X11_220 (m_tbegin I J P 46 d hTr0 hD n hn (by omega) F hF hFb 0 0 (by omega) (by omega) (f_w0 I 48) (z_ar_any I 48 64)) (by first | decide | omega) (by first | rfl | assumption | exact h3.2.1 | (rcases hdd with ⟨rfl, rfl⟩ | ⟨rfl, rfl⟩ <;> rfl)) (by decide) (Nat.le_refl _) (Nat.le_of_ble_eq_true rfl) (fun v2 I2 J2 P2 hq => ?_)
  obtain ⟨rfl, ej, ep, t0, t2, tf⟩ := hq
  rw [ej, ep]
  show V 108 I2 J P _ _ []
  have tf2 : ∀ q, (q < 46 ∨ 48 < q) → I2 q = I q := fun q h => tf q (by omega) (by omega) (by omega)
  refine r_aload_n hV dX11_prepareGuess_13 rfl rfl ?_
  refine r_getR hV dX11_prepareGuess_14 fl_X11_68 (by first | decide | omega) (by first | rfl | assumption | exact h3.2.1 | (rcases hdd with ⟨rfl, rfl⟩ | ⟨rfl, rfl⟩ <;> rfl)) q8 ?_
  refine r_aload_n hV dX11_prepareGuess_17 rfl rfl ?_
  refine r_getR hV dX11_prepareGuess_18 fl_X11_79 (by first | decide | omega) (by first | rfl | assumption | exact h3.2.1 | (rcases hdd with ⟨rfl, rfl⟩ | ⟨rfl, rfl⟩ <;> rfl)) q10 ?_
  refine r_aload_n hV dX11_prepareGuess_21 rfl rfl ?_
  refine r_getR hV dX11_prepareGuess_22 fl_X11_40 (by first | decide | omega) (by first | rfl | assumption | exact h3.2.1 | (rcases hdd with ⟨rfl, rfl⟩ | ⟨rfl, rfl⟩ <;> rfl)) q4 ?_
  refine r_iload_n hV dX11_prepareGuess_25 rfl ?_
  refine r_iv3 hV dX11_prepareGuess_26 mv_X11_308 (m_prepare I2 J P hGs 46 d hTr0 hD e ((congrFun (tf2 _ (by omega)) 3).trans he) he6 W (z_ar_fr hW (tf2 _ (by omega))) hWb5 0 t0 (by omega) (f_tr F n 0 0 (f_w0 I 48)).2 t2 x hx) (by first | decide | omega) (by first | rfl | assumption | exact h3.2.1 | (rcases hdd with ⟨rfl, rfl⟩ | ⟨rfl, rfl⟩ <;> rfl)) (by decide) (Nat.le_refl _) (Nat.le_of_ble_eq_true rfl) (fun v3 I3 J3 P3 hq => ?_)
  obtain ⟨rfl, ej, ep, u2, u3, u4, u5, uf⟩ := hq
  rw [ej, ep]
  show V 108 I3 J P _ _ []
  refine r_vret hV dX11_prepareGuess_29 rfl rfl ?_
  have hz : ∀ s : Nat, ((zpl s W e ||| 2 ^ 0 : Nat) : Int) < ((2 ^ n : Nat) : Int) := fun s => by exact_mod_cast Nat.or_lt_two_pow (zpl_n hnb.2 hWb) (Nat.pow_lt_pow_right (by omega) (by omega))
  refine ⟨rfl, rfl, rfl, u2, u3, z_ar_eq u4 (fun z a b => (f_tr_g).2 _ (by omega) (hz _)), u5, fun z a b => f_tr_b hFb hnb.2 (by omega) (by omega) _ (by omega) (hz _), fun z a b => ?_, fun q h => (uf q (by omega) (by omega) (by omega)).trans (tf2 q (by omega))⟩
  have h1 := f_wg_b (s := z.toNat) hx e
  have h2 := z_p10 he6
  unfold f_gW
  omega

def f_cd : Nat → Int → Int → Int
  | 0, a, _ => a
  | k + 1, a, b => if 0 < b then f_cd k b (a % b) else a
theorem f_cd_b : ∀ k (a b : Int), 0 ≤ a → 0 ≤ b → a ≤ 100000000 → b ≤ 100000000 → 0 ≤ f_cd k a b ∧ f_cd k a b ≤ 100000000 := by
  intro k
  induction k with
  | zero => intro a b h1 h2 h3 h4; exact ⟨h1, h3⟩
  | succ k ih =>
    intro a b h1 h2 h3 h4
    unfold f_cd
    split
    · have h5 := Int.emod_nonneg a (show b ≠ 0 by omega)
      have h6 := Int.emod_lt_of_pos a (show 0 < b by omega)
      exact ih _ _ h2 h5 h4 (by omega)
    · exact ⟨h1, h3⟩
set_option maxRecDepth 20000 in
theorem m_commonDivisor (I : zI) (J : zJ) (P : zP) (a b : Int) (h1 : 0 ≤ a) (h2 : 0 ≤ b) (h3 : a ≤ 100000000) (h4 : b ≤ 100000000) : z_Fn 0 yX11_commonDivisor cX11_commonDivisor 11 (some .long) 108 108 I J P [.long (lI a), .long (lI b)] (some (.long (lI (f_cd 100 a b)))) (I) (J) (P) := by
  refine z_met false (by decide +kernel) (fun h => by cases h) (Nat.le_of_ble_eq_true rfl) (by first | decide | omega) (fun V hV => ?_)
  show V 108 I J P 0 [.long (lI a), .null, .long (lI b), .null, .null, .null, .null, .null, .null, .null, .null] []
  refine r_lload_n hV dX11_commonDivisor_0 rfl ?_
  refine r_lstore hV dX11_commonDivisor_1 (Nat.le_of_ble_eq_true rfl) (z_st2_11_4 rfl) ?_
  refine r_lload_n hV dX11_commonDivisor_3 rfl ?_
  refine r_lstore hV dX11_commonDivisor_4 (Nat.le_of_ble_eq_true rfl) (z_st2_11_6 rfl) ?_
  refine s_iconst hV dX11_commonDivisor_6 (0) (by decide) ?_
  refine r_istore hV dX11_commonDivisor_7 (Nat.le_of_ble_eq_true rfl) (z_st1_11_8 rfl) ?_
  have L9 : ∀ (k9 j : Nat) (x y : Int), 100 - j < k9 → j ≤ 100 → (0 ≤ x) → (0 ≤ y) → (x ≤ 100000000) → (y ≤ 100000000) → (f_cd 100 a b = f_cd (100 - j) x y) → V 108 I J P 9 [.long (lI a), .null, .long (lI b), .null, .long (lI x), .null, .long (lI y), .null, .int (iI (j : Int)), .null, .null] [] := by
    intro k9
    induction k9 with
    | zero => intro j x y  hk1 hk2; omega
    | succ k9 ih9 =>
      intro j x y  hk9 hl9 hx0 hy0 hx1 hy1 hB
      refine r_iload hV dX11_commonDivisor_9 rfl ?_
      refine s_bipush hV dX11_commonDivisor_11 (100) (by decide) ?_
      refine s_icmp_ge hV 44 dX11_commonDivisor_13 (by decide) (by unfold z_rg; first | omega | (split <;> omega)) (by unfold z_rg; first | omega | (split <;> omega)) (fun c13 => ?_) (fun c13 => ?_)
      · refine r_lload hV dX11_commonDivisor_44 rfl ?_
        refine r_lret hV dX11_commonDivisor_46 rfl rfl ?_
        refine ⟨?_, rfl, rfl, rfl⟩
        rw [hB]
        first
          | (rw [show 100 - j = 0 by omega]; rfl)
          | (rw [show 100 - j = (99 - j) + 1 by omega, f_cd, if_neg (by omega)])
      · refine r_lload hV dX11_commonDivisor_16 rfl ?_
        refine s_lconst hV dX11_commonDivisor_18 (0) (by decide) ?_
        refine s_lcmp hV dX11_commonDivisor_19 (by unfold z_rgL; omega) (by unfold z_rgL; omega) ?_
        refine s_if_le hV 44 dX11_commonDivisor_20 (by decide) (by have := z_cmp3 y 0; unfold z_rg; omega) (fun c20 => ?_) (fun c20 => ?_)
        · have hy := z_cmp_le.mp c20
          refine r_lload hV dX11_commonDivisor_44 rfl ?_
          refine r_lret hV dX11_commonDivisor_46 rfl rfl ?_
          refine ⟨?_, rfl, rfl, rfl⟩
          rw [hB]
          first
            | (rw [show 100 - j = 0 by omega]; rfl)
            | (rw [show 100 - j = (99 - j) + 1 by omega, f_cd, if_neg (by omega)])
        · have hy : ¬ y ≤ 0 := fun h => c20 (z_cmp_le.mpr h)
          have h5 := Int.emod_nonneg x (show y ≠ 0 by omega)
          have h6 := Int.emod_lt_of_pos x (show 0 < y by omega)
          refine r_lload hV dX11_commonDivisor_23 rfl ?_
          refine r_lload hV dX11_commonDivisor_25 rfl ?_
          refine s_lrem hV dX11_commonDivisor_27 (by unfold z_rgL; omega) (by unfold z_rgL; omega) (by omega) (by omega) ?_
          refine r_lstore hV dX11_commonDivisor_28 (Nat.le_of_ble_eq_true rfl) (z_st2_11_9 rfl) ?_
          refine r_lload hV dX11_commonDivisor_30 rfl ?_
          refine r_lstore hV dX11_commonDivisor_32 (Nat.le_of_ble_eq_true rfl) (z_st2_11_4 rfl) ?_
          refine r_lload hV dX11_commonDivisor_34 rfl ?_
          refine r_lstore hV dX11_commonDivisor_36 (Nat.le_of_ble_eq_true rfl) (z_st2_11_6 rfl) ?_
          refine s_iinc hV dX11_commonDivisor_38 rfl (z_st1_11_8 rfl) ?_
          refine r_goto hV 9 dX11_commonDivisor_41 (by decide) ?_
          refine r_kill hV 9 z_stk_11_9 ?_
          exact ih9 (j + 1) y (x % y) (by omega) (by omega) (by omega) (by omega) (by omega) (by omega) (by rw [hB, show 100 - j = (100 - (j + 1)) + 1 by omega, f_cd, if_pos (by omega)])
  exact L9 101 0 a b (by omega) (by omega) h1 h2 h3 h4 rfl

def f_wthn (n e : Nat) (F W : Int → Int) (x t : Int) : Int := f_ww (f_gC (f_tr F n 0 0 (fun _ => 0)).2 W e 0) (f_gW x e) t (2 ^ e)
def f_chance (n e : Nat) (F W : Int → Int) (x t u : Int) : Int := if x < 0 ∨ 10 < x ∨ t < 0 ∨ 999 < t then -2 else if f_cd 100 (f_wthn n e F W x t) (10 ^ e) < 1 then 0 else if u = 0 then (10 ^ e) / f_cd 100 (f_wthn n e F W x t) (10 ^ e) else f_wthn n e F W x t / f_cd 100 (f_wthn n e F W x t) (10 ^ e)
def f_spare (n e : Nat) (F W : Int → Int) (x y : Int) : Int := if x < 0 ∨ 10 < x ∨ y < 0 ∨ 100 < y then -2 else zit (f_lst (f_gC (f_tr F n 0 0 (fun _ => 0)).2 W e 0) (f_gW x e) (2 ^ e) (10 ^ e) y) (2 ^ e) (-9)
def q_gss (I : zI) (J : zJ) (P : zP) (a : Value) (v : Option Value) (I1 : zI) (J1 : zJ) (P1 : zP) : Prop := v = some a ∧ J1 = J ∧ P1 = P ∧ ∀ q, (q < 46 ∨ (48 < q ∧ q < 62) ∨ 64 < q) → I1 q = I q
set_option maxRecDepth 20000 in
theorem m_spare (I : zI) (J : zJ) (P : zP) (d d1 : Nat) (hK : cK P) (q10 : P 0 10 = some d) (q11 : P 0 11 = some d1) (hdd : (d = 66 ∧ d1 = 72) ∨ (d = 72 ∧ d1 = 66)) (n : Nat) (hn : I d 0 = iI (n : Int)) (hnb : 2 ≤ n ∧ n ≤ 6) (e : Nat) (he : I d 3 = iI (e : Int)) (he6 : e ≤ 6) (F : Int → Int) (hF : z_ar I (d + 2) 36 F) (hFb : z_bd F 36 0 1000000) (W : Int → Int) (hW : z_ar I (d + 3) 6 W) (hWb : z_bd W e 0 (n - 1)) (x : Int) (hx : z_rg x) (y : Int) (hy : z_rg y) : z_Sp 5 yX11_spare cX11_spare 3 (some .int) 108 108 I J P [.ref 0, .int (iI x), .int (iI y)] (q_gss I J P (.int (iI (f_spare n e F W x y)))) := by
  obtain ⟨q0, q1, q2, q3, q4, q5, q6, q7, q8, q9, p1, h3, hA, hL, hTr0, hTr1, hTr2, hPn, hGs, hD66, hD72⟩ := id hK
  have hD : zDay P d := by rcases hdd with ⟨rfl, rfl⟩ | ⟨rfl, rfl⟩ <;> assumption
  obtain ⟨hd, p4, p5, p6, p7, p8⟩ := id hD
  have hD1 : zDay P d1 := by rcases hdd with ⟨rfl, rfl⟩ | ⟨rfl, rfl⟩ <;> assumption
  have hx1 := hx.1
  have hx2 := hx.2
  have hy1 := hy.1
  have hy2 := hy.2
  refine z_met false (by decide +kernel) (fun h => by cases h) (Nat.le_of_ble_eq_true rfl) (by first | decide | omega) (fun V hV => ?_)
  show V 108 I J P 0 [.ref 0, .int (iI x), .int (iI y)] []
  refine r_iload_n hV dX11_spare_0 rfl ?_
  refine s_if_lt hV 20 dX11_spare_1 (by decide) (by unfold z_rg; first | omega | (split <;> omega)) (fun c1 => ?_) (fun c1 => ?_)
  · refine s_bipush hV dX11_spare_20 (-2) (by decide) ?_
    refine r_iret hV dX11_spare_22 rfl rfl ?_
    refine ⟨?_, rfl, rfl, fun _ _ => rfl⟩
    unfold f_spare
    rw [if_pos (by omega)]
  · refine r_iload_n hV dX11_spare_4 rfl ?_
    refine s_bipush hV dX11_spare_5 (10) (by decide) ?_
    refine s_icmp_gt hV 20 dX11_spare_7 (by decide) (by unfold z_rg; first | omega | (split <;> omega)) (by unfold z_rg; first | omega | (split <;> omega)) (fun c7 => ?_) (fun c7 => ?_)
    · refine s_bipush hV dX11_spare_20 (-2) (by decide) ?_
      refine r_iret hV dX11_spare_22 rfl rfl ?_
      refine ⟨?_, rfl, rfl, fun _ _ => rfl⟩
      unfold f_spare
      rw [if_pos (by omega)]
    · refine r_iload_n hV dX11_spare_10 rfl ?_
      refine s_if_lt hV 20 dX11_spare_11 (by decide) (by unfold z_rg; first | omega | (split <;> omega)) (fun c11 => ?_) (fun c11 => ?_)
      · refine s_bipush hV dX11_spare_20 (-2) (by decide) ?_
        refine r_iret hV dX11_spare_22 rfl rfl ?_
        refine ⟨?_, rfl, rfl, fun _ _ => rfl⟩
        unfold f_spare
        rw [if_pos (by omega)]
      · refine r_iload_n hV dX11_spare_14 rfl ?_
        refine s_bipush hV dX11_spare_15 (100) (by decide) ?_
        refine s_icmp_le hV 23 dX11_spare_17 (by decide) (by unfold z_rg; first | omega | (split <;> omega)) (by unfold z_rg; first | omega | (split <;> omega)) (fun c17 => ?_) (fun c17 => ?_)
        · refine r_aload_n hV dX11_spare_23 rfl rfl ?_
          refine r_iload_n hV dX11_spare_24 rfl ?_
          refine r_iv1 hV dX11_spare_25 mv_X11_281 (m_prepGuess I J P d d1 hK q10 q11 hdd n hn hnb e he he6 F hF hFb W hW hWb x (by omega)) (by first | decide | omega) (by first | rfl | assumption | exact h3.2.1 | (rcases hdd with ⟨rfl, rfl⟩ | ⟨rfl, rfl⟩ <;> rfl)) (by decide) (Nat.le_refl _) (Nat.le_of_ble_eq_true rfl) (fun v2 I2 J2 P2 hq => ?_)
          obtain ⟨rfl, ej, ep, u2, u3, u4, u5, u6, u7, uf⟩ := hq
          rw [ej, ep]
          show V 108 I2 J P _ _ []
          have h2e := z_pn he6
          have h10 := z_p10 he6
          refine r_aload_n hV dX11_spare_28 rfl rfl ?_
          refine r_getR hV dX11_spare_29 fl_X11_68 (by first | decide | omega) (by first | rfl | assumption | exact h3.2.1 | (rcases hdd with ⟨rfl, rfl⟩ | ⟨rfl, rfl⟩ <;> rfl)) q8 ?_
          refine r_iload_n hV dX11_spare_32 rfl ?_
          refine q_iv1v hV dX11_spare_33 mv_X11_294 (m_leastSteps I2 J P hGs (2 ^ e) u2 (by omega) (f_gC (f_tr F n 0 0 (fun _ => 0)).2 W e 0) (f_gW x e) u4 u6 u5 u7 (10 ^ e) u3 h10 y (by omega)) (by first | decide | omega) (by first | rfl | assumption | exact h3.2.1 | (rcases hdd with ⟨rfl, rfl⟩ | ⟨rfl, rfl⟩ <;> rfl)) (by decide) (Nat.le_refl _) (Nat.le_of_ble_eq_true rfl) ?_
          refine r_iret hV dX11_spare_36 rfl rfl ?_
          refine ⟨?_, rfl, rfl, uf⟩
          unfold f_spare
          rw [if_neg (by omega)]
        · refine s_bipush hV dX11_spare_20 (-2) (by decide) ?_
          refine r_iret hV dX11_spare_22 rfl rfl ?_
          refine ⟨?_, rfl, rfl, fun _ _ => rfl⟩
          unfold f_spare
          rw [if_pos (by omega)]

set_option maxRecDepth 20000 in
theorem m_chance (I : zI) (J : zJ) (P : zP) (d d1 : Nat) (hK : cK P) (q10 : P 0 10 = some d) (q11 : P 0 11 = some d1) (hdd : (d = 66 ∧ d1 = 72) ∨ (d = 72 ∧ d1 = 66)) (n : Nat) (hn : I d 0 = iI (n : Int)) (hnb : 2 ≤ n ∧ n ≤ 6) (e : Nat) (he : I d 3 = iI (e : Int)) (he6 : e ≤ 6) (F : Int → Int) (hF : z_ar I (d + 2) 36 F) (hFb : z_bd F 36 0 1000000) (W : Int → Int) (hW : z_ar I (d + 3) 6 W) (hWb : z_bd W e 0 (n - 1)) (x : Int) (hx : z_rg x) (t : Int) (ht : z_rg t) (u : Int) (hu : z_rg u) : z_Sp 5 yX11_chance cX11_chance 10 (some .long) 108 108 I J P [.ref 0, .int (iI x), .int (iI t), .int (iI u)] (q_gss I J P (.long (lI (f_chance n e F W x t u)))) := by
  obtain ⟨q0, q1, q2, q3, q4, q5, q6, q7, q8, q9, p1, h3, hA, hL, hTr0, hTr1, hTr2, hPn, hGs, hD66, hD72⟩ := id hK
  have hD : zDay P d := by rcases hdd with ⟨rfl, rfl⟩ | ⟨rfl, rfl⟩ <;> assumption
  obtain ⟨hd, p4, p5, p6, p7, p8⟩ := id hD
  have hD1 : zDay P d1 := by rcases hdd with ⟨rfl, rfl⟩ | ⟨rfl, rfl⟩ <;> assumption
  have hx1 := hx.1
  have hx2 := hx.2
  have ht1 := ht.1
  have ht2 := ht.2
  have hu1 := hu.1
  have hu2 := hu.2
  refine z_met false (by decide +kernel) (fun h => by cases h) (Nat.le_of_ble_eq_true rfl) (by first | decide | omega) (fun V hV => ?_)
  show V 108 I J P 0 [.ref 0, .int (iI x), .int (iI t), .int (iI u), .null, .null, .null, .null, .null, .null] []
  refine r_iload_n hV dX11_chance_0 rfl ?_
  refine s_if_lt hV 21 dX11_chance_1 (by decide) (by unfold z_rg; first | omega | (split <;> omega)) (fun c1 => ?_) (fun c1 => ?_)
  · refine s_ldc2_w hV dX11_chance_21 cl_X11_273 (-2) (by decide) ?_
    refine r_lret hV dX11_chance_24 rfl rfl ?_
    refine ⟨?_, rfl, rfl, fun _ _ => rfl⟩
    unfold f_chance
    rw [if_pos (by omega)]
  · refine r_iload_n hV dX11_chance_4 rfl ?_
    refine s_bipush hV dX11_chance_5 (10) (by decide) ?_
    refine s_icmp_gt hV 21 dX11_chance_7 (by decide) (by unfold z_rg; first | omega | (split <;> omega)) (by unfold z_rg; first | omega | (split <;> omega)) (fun c7 => ?_) (fun c7 => ?_)
    · refine s_ldc2_w hV dX11_chance_21 cl_X11_273 (-2) (by decide) ?_
      refine r_lret hV dX11_chance_24 rfl rfl ?_
      refine ⟨?_, rfl, rfl, fun _ _ => rfl⟩
      unfold f_chance
      rw [if_pos (by omega)]
    · refine r_iload_n hV dX11_chance_10 rfl ?_
      refine s_if_lt hV 21 dX11_chance_11 (by decide) (by unfold z_rg; first | omega | (split <;> omega)) (fun c11 => ?_) (fun c11 => ?_)
      · refine s_ldc2_w hV dX11_chance_21 cl_X11_273 (-2) (by decide) ?_
        refine r_lret hV dX11_chance_24 rfl rfl ?_
        refine ⟨?_, rfl, rfl, fun _ _ => rfl⟩
        unfold f_chance
        rw [if_pos (by omega)]
      · refine r_iload_n hV dX11_chance_14 rfl ?_
        refine s_sipush hV dX11_chance_15 (999) (by decide) ?_
        refine s_icmp_le hV 25 dX11_chance_18 (by decide) (by unfold z_rg; first | omega | (split <;> omega)) (by unfold z_rg; first | omega | (split <;> omega)) (fun c18 => ?_) (fun c18 => ?_)
        · refine r_aload_n hV dX11_chance_25 rfl rfl ?_
          refine r_iload_n hV dX11_chance_26 rfl ?_
          refine r_iv1 hV dX11_chance_27 mv_X11_281 (m_prepGuess I J P d d1 hK q10 q11 hdd n hn hnb e he he6 F hF hFb W hW hWb x (by omega)) (by first | decide | omega) (by first | rfl | assumption | exact h3.2.1 | (rcases hdd with ⟨rfl, rfl⟩ | ⟨rfl, rfl⟩ <;> rfl)) (by decide) (Nat.le_refl _) (Nat.le_of_ble_eq_true rfl) (fun v2 I2 J2 P2 hq => ?_)
          obtain ⟨rfl, ej, ep, u2, u3, u4, u5, u6, u7, uf⟩ := hq
          rw [ej, ep]
          show V 108 I2 J P _ _ []
          have h2e := z_pn he6
          have h10 := z_p10 he6
          refine r_aload_n hV dX11_chance_30 rfl rfl ?_
          refine r_getR hV dX11_chance_31 fl_X11_68 (by first | decide | omega) (by first | rfl | assumption | exact h3.2.1 | (rcases hdd with ⟨rfl, rfl⟩ | ⟨rfl, rfl⟩ <;> rfl)) q8 ?_
          refine r_iload_n hV dX11_chance_34 rfl ?_
          refine q_iv1v hV dX11_chance_35 mv_X11_284 (m_weightWithin I2 J P hGs (2 ^ e) u2 (by omega) (f_gC (f_tr F n 0 0 (fun _ => 0)).2 W e 0) (f_gW x e) u4 u6 u5 u7 t ht) (by first | decide | omega) (by first | rfl | assumption | exact h3.2.1 | (rcases hdd with ⟨rfl, rfl⟩ | ⟨rfl, rfl⟩ <;> rfl)) (by decide) (Nat.le_refl _) (Nat.le_of_ble_eq_true rfl) ?_
          have hwb := f_ww_b (C := f_gC (f_tr F n 0 0 (fun _ => 0)).2 W e 0) (t := t) u7 (2 ^ e) (Nat.le_refl _)
          rw [show f_ww (f_gC (f_tr F n 0 0 (fun _ => 0)).2 W e 0) (f_gW x e) t (2 ^ e) = f_wthn n e F W x t from rfl] at hwb ⊢
          have hwe : f_wthn n e F W x t ≤ 64000000 := by omega
          refine s_i2l hV dX11_chance_38 (by unfold z_rg; first | omega | (split <;> omega)) ?_
          refine r_lstore hV dX11_chance_39 (Nat.le_of_ble_eq_true rfl) (z_st2_10_4 rfl) ?_
          refine r_aload_n hV dX11_chance_41 rfl rfl ?_
          refine r_getR hV dX11_chance_42 fl_X11_68 (by first | decide | omega) (by first | rfl | assumption | exact h3.2.1 | (rcases hdd with ⟨rfl, rfl⟩ | ⟨rfl, rfl⟩ <;> rfl)) q8 ?_
          refine r_getI hV dX11_chance_45 fl_X11_287 (by first | decide | omega) (by first | rfl | assumption | exact h3.2.1 | (rcases hdd with ⟨rfl, rfl⟩ | ⟨rfl, rfl⟩ <;> rfl)) u3 ?_
          refine s_i2l hV dX11_chance_48 (by unfold z_rg; first | omega | (split <;> omega)) ?_
          refine r_lstore hV dX11_chance_49 (Nat.le_of_ble_eq_true rfl) (z_st2_10_6 rfl) ?_
          refine r_lload hV dX11_chance_51 rfl ?_
          refine r_lload hV dX11_chance_53 rfl ?_
          refine q_is2v hV dX11_chance_55 ms_X11_290 (m_commonDivisor I2 J P (f_wthn n e F W x t) (10 ^ e) hwb.1 (by omega) (by omega) (by omega)) (by decide) (Nat.le_refl _) (Nat.le_of_ble_eq_true rfl) ?_
          have hcb := f_cd_b 100 (f_wthn n e F W x t) (10 ^ e) hwb.1 (by omega) (by omega) (by omega)
          refine r_lstore hV dX11_chance_58 (Nat.le_of_ble_eq_true rfl) (z_st2_10_8 rfl) ?_
          refine r_lload hV dX11_chance_60 rfl ?_
          refine s_lconst hV dX11_chance_62 (1) (by decide) ?_
          refine s_lcmp hV dX11_chance_63 (by unfold z_rgL; omega) (by unfold z_rgL; omega) ?_
          refine s_if_ge hV 69 dX11_chance_64 (by decide) (by have := z_cmp3 (f_cd 100 (f_wthn n e F W x t) (10 ^ e)) 1; unfold z_rg; omega) (fun c64 => ?_) (fun c64 => ?_)
          · have hcm := z_cmp3 (f_cd 100 (f_wthn n e F W x t) (10 ^ e)) 1
            refine r_iload_n hV dX11_chance_69 rfl ?_
            refine s_if_eq hV 81 dX11_chance_70 (by decide) (by unfold z_rg; first | omega | (split <;> omega)) (fun c70 => ?_) (fun c70 => ?_)
            · refine r_lload hV dX11_chance_81 rfl ?_
              refine r_lload hV dX11_chance_83 rfl ?_
              refine s_ldiv hV dX11_chance_85 (by unfold z_rgL; omega) (by unfold z_rgL; omega) (by omega) (by omega) ?_
              refine r_lret hV dX11_chance_86 rfl rfl ?_
              refine ⟨?_, rfl, rfl, uf⟩
              unfold f_chance
              rw [if_neg (by omega), if_neg (by omega)]
              first | rw [if_pos (by omega)] | rw [if_neg (by omega)]
            · refine r_lload hV dX11_chance_73 rfl ?_
              refine r_lload hV dX11_chance_75 rfl ?_
              refine s_ldiv hV dX11_chance_77 (by unfold z_rgL; omega) (by unfold z_rgL; omega) (by omega) (by omega) ?_
              refine r_goto hV 86 dX11_chance_78 (by decide) ?_
              refine r_lret hV dX11_chance_86 rfl rfl ?_
              refine ⟨?_, rfl, rfl, uf⟩
              unfold f_chance
              rw [if_neg (by omega), if_neg (by omega)]
              first | rw [if_pos (by omega)] | rw [if_neg (by omega)]
          · have hcm := z_cmp3 (f_cd 100 (f_wthn n e F W x t) (10 ^ e)) 1
            refine s_lconst hV dX11_chance_67 (0) (by decide) ?_
            refine r_lret hV dX11_chance_68 rfl rfl ?_
            refine ⟨?_, rfl, rfl, uf⟩
            unfold f_chance
            rw [if_neg (by omega), if_pos (by omega)]
        · refine s_ldc2_w hV dX11_chance_21 cl_X11_273 (-2) (by decide) ?_
          refine r_lret hV dX11_chance_24 rfl rfl ?_
          refine ⟨?_, rfl, rfl, fun _ _ => rfl⟩
          unfold f_chance
          rw [if_pos (by omega)]

