/-- what the object at 0 keeps for good, and its members' -/
def cK (P : zP) : Prop := P 0 0 = some 1 ∧ P 0 1 = some 3 ∧ P 0 2 = some 5 ∧ P 0 3 = some 39 ∧ P 0 4 = some 46 ∧ P 0 5 = some 49 ∧ P 0 6 = some 58 ∧ P 0 7 = some 59 ∧ P 0 8 = some 62 ∧ P 0 9 = some 65 ∧ P 1 0 = some 2 ∧ zStn P 3 ∧ zAc P ∧ zSl P ∧ zTr P 46 ∧ zTr P 50 ∧ zTr P 53 ∧ zPn P ∧ zGs P ∧ zDay P 66 ∧ zDay P 72
theorem zStn_fr {P P1 : zP} {s : Nat} (h : zStn P s) (e : P1 s = P s) : zStn P1 s := ⟨h.1, h.2.1, h.2.2.1, by rw [e]; exact h.2.2.2⟩
theorem zTr_fr {P P1 : zP} {s : Nat} (h : zTr P s) (e : P1 s = P s) : zTr P1 s := by unfold zTr at *; rw [e]; exact h
theorem cK_fr {P P1 : zP} (h : cK P) (h0 : ∀ k, k < 10 → P1 0 k = P 0 k) (hq : ∀ q, q ≠ 0 → q ≠ 58 → q ≠ 59 → P1 q = P q) : cK P1 := by
  obtain ⟨q0, q1, q2, q3, q4, q5, q6, q7, q8, q9, p1, h3, hA, hL, hTa, hTb, hTc, hPn, hGs, hD66, hD72⟩ := h
  refine ⟨(h0 _ (by omega)).trans q0, (h0 _ (by omega)).trans q1, (h0 _ (by omega)).trans q2, (h0 _ (by omega)).trans q3, (h0 _ (by omega)).trans q4, (h0 _ (by omega)).trans q5, (h0 _ (by omega)).trans q6, (h0 _ (by omega)).trans q7, (h0 _ (by omega)).trans q8, (h0 _ (by omega)).trans q9, ?_, zStn_fr h3 (hq _ (by omega) (by omega) (by omega)), ?_, ?_, zTr_fr hTa (hq _ (by omega) (by omega) (by omega)), zTr_fr hTb (hq _ (by omega) (by omega) (by omega)), zTr_fr hTc (hq _ (by omega) (by omega) (by omega)), ?_, ?_, zDay_fr hD66 (hq _ (by omega) (by omega) (by omega)), zDay_fr hD72 (hq _ (by omega) (by omega) (by omega))⟩
  · rw [hq _ (by omega) (by omega) (by omega)]; exact p1
  · refine ⟨?_, fun z a b => ?_, fun z a b => zStn_fr (hA.2.2 z a b) (hq _ (by omega) (by omega) (by omega))⟩
    · rw [hq _ (by omega) (by omega) (by omega)]; exact hA.1
    · rw [hq _ (by omega) (by omega) (by omega)]; exact hA.2.1 z a b
  · refine ⟨?_, ?_, fun z a b => ?_, fun z a b => zStn_fr (hL.2.2.2 z a b) (hq _ (by omega) (by omega) (by omega))⟩
    · rw [hq _ (by omega) (by omega) (by omega)]; exact hL.1
    · rw [hq _ (by omega) (by omega) (by omega)]; exact hL.2.1
    · rw [hq _ (by omega) (by omega) (by omega)]; exact hL.2.2.1 z a b
  · unfold zPn at *; rw [hq _ (by omega) (by omega) (by omega)]; exact hPn
  · unfold zGs at *; rw [hq _ (by omega) (by omega) (by omega)]; exact hGs
/-- a Standing that is none but such as acts make -/
def cG (n : Nat) (S : Int → Int) (dn dh : Nat) : Prop := (0 ≤ S 0 ∧ S 0 < n) ∧ (0 ≤ S 1 ∧ S 1 < n) ∧ (0 ≤ S 2 ∧ S 2 ≤ 90000) ∧ S 3 = (dn : Int) ∧ dn < 64 ∧ S 4 = (dh : Int) ∧ dh < 64 ∧ (0 ≤ S 5 ∧ S 5 ≤ 8) ∧ ∀ z, 0 ≤ z → z < 8 → -99 ≤ S (6 + z) ∧ S (6 + z) ≤ 99
def q_no (I : zI) (J : zJ) (P : zP) (a : Int) (v : Option Value) (I1 : zI) (J1 : zJ) (P1 : zP) : Prop := v = some (.int (iI a)) ∧ I1 = I ∧ J1 = J ∧ P1 = P
/-- an act: the standing S is noted, S2 stands, a is answered -/
def q_act (I : zI) (J : zJ) (P : zP) (c nx : Int) (S S2 : Int → Int) (a : Int) (v : Option Value) (I1 : zI) (J1 : zJ) (P1 : zP) : Prop := v = some (.int (iI a)) ∧ J1 = J ∧ P1 = P ∧ I1 5 1 = iI (if c < 16 then c + 1 else c) ∧ I1 5 2 = iI ((nx + 1) % 16) ∧ cSt I1 (7 + 2 * nx.toNat) S ∧ cSt I1 3 S2 ∧ ∀ q, q ≠ 3 → q ≠ 4 → q ≠ 5 → q ≠ 7 + 2 * nx.toNat → q ≠ 8 + 2 * nx.toNat → I1 q = I q
set_option maxRecDepth 20000 in
theorem m_isWalker (I : zI) (J : zJ) (P : zP) (w : Int) (hw : z_rg w) : z_Fn 0 yX11_isWalker cX11_isWalker 1 (some .boolean) 108 108 I J P [.int (iI w)] (some (.int (iI (if 0 ≤ w ∧ w < 2 then 1 else 0)))) (I) (J) (P) := by
  have hw1 := hw.1
  have hw2 := hw.2
  refine z_met false (by decide +kernel) (fun h => by cases h) (Nat.le_of_ble_eq_true rfl) (by first | decide | omega) (fun V hV => ?_)
  show V 108 I J P 0 [.int (iI w)] []
  refine r_iload_n hV dX11_isWalker_0 rfl ?_
  refine s_if_lt hV 13 dX11_isWalker_1 (by decide) (by unfold z_rg; first | omega | (split <;> omega)) (fun c1 => ?_) (fun c1 => ?_)
  · refine s_iconst hV dX11_isWalker_13 (0) (by decide) ?_
    refine s_zret hV dX11_isWalker_14 rfl (by omega) rfl ?_
    refine ⟨?_, rfl, rfl, rfl⟩
    (repeat' split) <;> first | rfl | (exfalso; omega)
  · refine r_iload_n hV dX11_isWalker_4 rfl ?_
    refine s_iconst hV dX11_isWalker_5 (2) (by decide) ?_
    refine s_icmp_ge hV 13 dX11_isWalker_6 (by decide) (by unfold z_rg; first | omega | (split <;> omega)) (by unfold z_rg; first | omega | (split <;> omega)) (fun c6 => ?_) (fun c6 => ?_)
    · refine s_iconst hV dX11_isWalker_13 (0) (by decide) ?_
      refine s_zret hV dX11_isWalker_14 rfl (by omega) rfl ?_
      refine ⟨?_, rfl, rfl, rfl⟩
      (repeat' split) <;> first | rfl | (exfalso; omega)
    · refine s_iconst hV dX11_isWalker_9 (1) (by decide) ?_
      refine r_goto hV 14 dX11_isWalker_10 (by decide) ?_
      refine s_zret hV dX11_isWalker_14 rfl (by omega) rfl ?_
      refine ⟨?_, rfl, rfl, rfl⟩
      (repeat' split) <;> first | rfl | (exfalso; omega)

set_option maxRecDepth 20000 in
theorem m_toldSteps (I : zI) (J : zJ) (P : zP) (x : Int) (hx : z_rg x) : z_Fn 0 yX11_toldSteps cX11_toldSteps 1 (some .int) 108 108 I J P [.int (iI x)] (some (.int (iI (if x < 1000000 then x else -9)))) (I) (J) (P) := by
  have hx1 := hx.1
  have hx2 := hx.2
  refine z_met false (by decide +kernel) (fun h => by cases h) (Nat.le_of_ble_eq_true rfl) (by first | decide | omega) (fun V hV => ?_)
  show V 108 I J P 0 [.int (iI x)] []
  refine r_iload_n hV dX11_toldSteps_0 rfl ?_
  refine s_ldc_w hV dX11_toldSteps_1 ct_X11_307 (1000000) (by decide) ?_
  refine s_icmp_lt hV 12 dX11_toldSteps_4 (by decide) (by unfold z_rg; first | omega | (split <;> omega)) (by unfold z_rg; first | omega | (split <;> omega)) (fun c4 => ?_) (fun c4 => ?_)
  · refine r_iload_n hV dX11_toldSteps_12 rfl ?_
    refine r_iret hV dX11_toldSteps_13 rfl rfl ?_
    refine ⟨?_, rfl, rfl, rfl⟩
    (repeat' split) <;> first | rfl | (exfalso; omega)
  · refine s_bipush hV dX11_toldSteps_7 (-9) (by decide) ?_
    refine r_goto hV 13 dX11_toldSteps_9 (by decide) ?_
    refine r_iret hV dX11_toldSteps_13 rfl rfl ?_
    refine ⟨?_, rfl, rfl, rfl⟩
    (repeat' split) <;> first | rfl | (exfalso; omega)

def f_wc (n : Int) (F : Int → Int) (a b : Int) : Int := if a = b then 1000000 else if (0 ≤ a ∧ a < n) ∧ (0 ≤ b ∧ b < n) then F (a * 6 + b) else 1000000
set_option maxRecDepth 20000 in
theorem m_walkCost (I : zI) (J : zJ) (P : zP) (d d1 : Nat) (hK : cK P) (q10 : P 0 10 = some d) (q11 : P 0 11 = some d1) (hdd : (d = 66 ∧ d1 = 72) ∨ (d = 72 ∧ d1 = 66)) (n : Nat) (hn : I d 0 = iI (n : Int)) (hnb : 2 ≤ n ∧ n ≤ 6) (F : Int → Int) (hF : z_ar I (d + 2) 36 F) (hFb : z_bd F 36 0 1000000) (a : Int) (ha : z_rg a) (b : Int) (hb : z_rg b) : z_Fn 2 yX11_walkCost cX11_walkCost 3 (some .int) 108 108 I J P [.ref 0, .int (iI a), .int (iI b)] (some (.int (iI (f_wc n F a b)))) (I) (J) (P) := by
  obtain ⟨q0, q1, q2, q3, q4, q5, q6, q7, q8, q9, p1, h3, hA, hL, hTr0, hTr1, hTr2, hPn, hGs, hD66, hD72⟩ := id hK
  have hD : zDay P d := by rcases hdd with ⟨rfl, rfl⟩ | ⟨rfl, rfl⟩ <;> assumption
  obtain ⟨hd, p4, p5, p6, p7, p8⟩ := id hD
  have hD1 : zDay P d1 := by rcases hdd with ⟨rfl, rfl⟩ | ⟨rfl, rfl⟩ <;> assumption
  have ha1 := ha.1
  have ha2 := ha.2
  have hb1 := hb.1
  have hb2 := hb.2
  refine z_met false (by decide +kernel) (fun h => by cases h) (Nat.le_of_ble_eq_true rfl) (by first | decide | omega) (fun V hV => ?_)
  show V 108 I J P 0 [.ref 0, .int (iI a), .int (iI b)] []
  refine r_iload_n hV dX11_walkCost_0 rfl ?_
  refine r_iload_n hV dX11_walkCost_1 rfl ?_
  refine s_icmp_ne hV 11 dX11_walkCost_2 (by decide) (by unfold z_rg; first | omega | (split <;> omega)) (by unfold z_rg; first | omega | (split <;> omega)) (fun c2 => ?_) (fun c2 => ?_)
  · refine r_aload_n hV dX11_walkCost_11 rfl rfl ?_
    refine r_getR hV dX11_walkCost_12 fl_X11_79 (by first | decide | omega) (by first | rfl | assumption | exact h3.2.1 | (rcases hdd with ⟨rfl, rfl⟩ | ⟨rfl, rfl⟩ <;> rfl)) q10 ?_
    refine r_iload_n hV dX11_walkCost_15 rfl ?_
    refine r_iload_n hV dX11_walkCost_16 rfl ?_
    refine q_iv2v hV dX11_walkCost_17 mv_X11_156 (m_between I J P d hD (n : Int) hn (by omega) (a) (by unfold z_rg; omega) (b) (by unfold z_rg; omega) F hF) (by first | decide | omega) (by first | rfl | assumption | exact h3.2.1 | (rcases hdd with ⟨rfl, rfl⟩ | ⟨rfl, rfl⟩ <;> rfl)) (by decide) (Nat.le_refl _) (Nat.le_of_ble_eq_true rfl) ?_
    refine r_iret hV dX11_walkCost_20 rfl rfl ?_
    unfold f_wc
    refine ⟨?_, rfl, rfl, rfl⟩
    (repeat' split) <;> first | rfl | (exfalso; omega)
  · refine s_ldc_w hV dX11_walkCost_5 ct_X11_307 (1000000) (by decide) ?_
    refine r_goto hV 20 dX11_walkCost_8 (by decide) ?_
    refine r_iret hV dX11_walkCost_20 rfl rfl ?_
    unfold f_wc
    refine ⟨?_, rfl, rfl, rfl⟩
    (repeat' split) <;> first | rfl | (exfalso; omega)

set_option maxRecDepth 20000 in
theorem m_openTo (I : zI) (J : zJ) (P : zP) (d d1 : Nat) (hK : cK P) (q10 : P 0 10 = some d) (q11 : P 0 11 = some d1) (hdd : (d = 66 ∧ d1 = 72) ∨ (d = 72 ∧ d1 = 66)) (n : Nat) (hn : I d 0 = iI (n : Int)) (hnb : 2 ≤ n ∧ n ≤ 6) (e : Nat) (he : I d 3 = iI (e : Int)) (he6 : e ≤ 6) (K : Int → Int) (hKk : z_ar I (d + 5) 6 K) (hKb : z_bd K 6 0 2) (S : Int → Int) (hS : cSt I 3 S) (dn dh : Nat) (hg : cG n S dn dh) (w : Int) (hw : z_rg w) : z_Fn 3 yX11_openTo cX11_openTo 2 (some .int) 108 108 I J P [.ref 0, .int (iI w)] (some (.int (iI ((zdf (zset (f_can K w) e) dn : Nat))))) (I) (J) (P) := by
  obtain ⟨q0, q1, q2, q3, q4, q5, q6, q7, q8, q9, p1, h3, hA, hL, hTr0, hTr1, hTr2, hPn, hGs, hD66, hD72⟩ := id hK
  have hD : zDay P d := by rcases hdd with ⟨rfl, rfl⟩ | ⟨rfl, rfl⟩ <;> assumption
  obtain ⟨hd, p4, p5, p6, p7, p8⟩ := id hD
  have hD1 : zDay P d1 := by rcases hdd with ⟨rfl, rfl⟩ | ⟨rfl, rfl⟩ <;> assumption
  obtain ⟨g0, g1, g2, g3, g4, g5, g6, g7, g8⟩ := id hg
  have hw1 := hw.1
  have hw2 := hw.2
  refine z_met false (by decide +kernel) (fun h => by cases h) (Nat.le_of_ble_eq_true rfl) (by first | decide | omega) (fun V hV => ?_)
  show V 108 I J P 0 [.ref 0, .int (iI w)] []
  refine r_aload_n hV dX11_openTo_0 rfl rfl ?_
  refine r_getR hV dX11_openTo_1 fl_X11_79 (by first | decide | omega) (by first | rfl | assumption | exact h3.2.1 | (rcases hdd with ⟨rfl, rfl⟩ | ⟨rfl, rfl⟩ <;> rfl)) q10 ?_
  refine r_iload_n hV dX11_openTo_4 rfl ?_
  refine q_iv1v hV dX11_openTo_5 mv_X11_250 (m_allFor I J P d hD (e : Int) he (by omega) w hw K hKk hKb) (by first | decide | omega) (by first | rfl | assumption | exact h3.2.1 | (rcases hdd with ⟨rfl, rfl⟩ | ⟨rfl, rfl⟩ <;> rfl)) (by decide) (Nat.le_refl _) (Nat.le_of_ble_eq_true rfl) ?_
  rw [show ((e : Int)).toNat = e by omega]
  have hlt : zset (f_can K w) e < 64 := Nat.lt_of_lt_of_le zset_lt (Nat.pow_le_pow_right (n := 2) (by omega) he6)
  refine r_aload_n hV dX11_openTo_8 rfl rfl ?_
  refine r_getR hV dX11_openTo_9 fl_X11_19 (by first | decide | omega) (by first | rfl | assumption | exact h3.2.1 | (rcases hdd with ⟨rfl, rfl⟩ | ⟨rfl, rfl⟩ <;> rfl)) q1 ?_
  refine r_getI hV dX11_openTo_12 fl_X11_130 (by first | decide | omega) (by first | rfl | assumption | exact h3.2.1 | (rcases hdd with ⟨rfl, rfl⟩ | ⟨rfl, rfl⟩ <;> rfl)) (hS.1 3 (by omega) (by omega)) ?_
  rw [g3]
  refine s_iconst hV dX11_openTo_15 (-1) (by decide) ?_
  refine s_ixor hV dX11_openTo_16 (zb_not g4) ?_
  refine s_iand hV dX11_openTo_17 (zb_df' hlt g4) ?_
  refine r_iret hV dX11_openTo_18 rfl rfl ?_
  exact ⟨rfl, rfl, rfl, rfl⟩

def f_sh (R j : Nat) : Nat := R / 10 ^ j
theorem f_sh_0 {R : Nat} : f_sh R 0 = R := by simp [f_sh]
theorem f_sh_s {R j : Nat} : f_sh R (j + 1) = f_sh R j / 10 := by rw [f_sh, Nat.pow_succ, ← Nat.div_div_eq_div_mul]; rfl
theorem f_sh_le {R j : Nat} : f_sh R j ≤ R := Nat.div_le_self _ _
def f_dg10 (n R : Nat) (z : Int) : Int := ((f_sh R (n - 1 - z.toNat) % 10 : Nat) : Int)
def q_spl (I : zI) (J : zJ) (P : zP) (n R : Nat) (v : Option Value) (I1 : zI) (J1 : zJ) (P1 : zP) : Prop := v = some (.int (iI (if f_sh R n = 0 then 1 else 0))) ∧ J1 = J ∧ P1 = P ∧ z_ar I1 65 n (f_dg10 n R) ∧ ∀ q, q ≠ 65 → I1 q = I q
set_option maxRecDepth 20000 in
theorem m_splitRow (I : zI) (J : zJ) (P : zP) (d d1 : Nat) (hK : cK P) (q10 : P 0 10 = some d) (q11 : P 0 11 = some d1) (hdd : (d = 66 ∧ d1 = 72) ∨ (d = 72 ∧ d1 = 66)) (n : Nat) (hnb : 1 ≤ n ∧ n ≤ 8) (R : Nat) (hR : R < 2147483648) : z_Sp 0 yX11_splitRow cX11_splitRow 5 (some .boolean) 108 108 I J P [.ref 0, .int (iI (R : Int)), .int (iI (n : Int))] (q_spl I J P n R) := by
  obtain ⟨q0, q1, q2, q3, q4, q5, q6, q7, q8, q9, p1, h3, hA, hL, hTr0, hTr1, hTr2, hPn, hGs, hD66, hD72⟩ := id hK
  have hD : zDay P d := by rcases hdd with ⟨rfl, rfl⟩ | ⟨rfl, rfl⟩ <;> assumption
  obtain ⟨hd, p4, p5, p6, p7, p8⟩ := id hD
  have hD1 : zDay P d1 := by rcases hdd with ⟨rfl, rfl⟩ | ⟨rfl, rfl⟩ <;> assumption
  refine z_met false (by decide +kernel) (fun h => by cases h) (Nat.le_of_ble_eq_true rfl) (by first | decide | omega) (fun V hV => ?_)
  show V 108 I J P 0 [.ref 0, .int (iI (R : Int)), .int (iI (n : Int)), .null, .null] []
  refine r_iload_n hV dX11_splitRow_0 rfl ?_
  refine r_istore_n hV dX11_splitRow_1 (Nat.le_of_ble_eq_true rfl) (z_st1_5_3 rfl) ?_
  refine r_iload_n hV dX11_splitRow_2 rfl ?_
  refine s_iconst hV dX11_splitRow_3 (1) (by decide) ?_
  refine s_isub hV dX11_splitRow_4 ?_
  refine r_istore hV dX11_splitRow_5 (Nat.le_of_ble_eq_true rfl) (z_st1_5_4 rfl) ?_
  have L7 : ∀ (k7 j : Nat) (I1 : zI), n - j < k7 → j ≤ n → (∀ q, q ≠ 65 → I1 q = I q) → (∀ z : Int, (n : Int) - j ≤ z → z < n → I1 65 z.toNat = iI (f_dg10 n R z)) → V 108 I1 J P 7 [.ref 0, .int (iI (R : Int)), .int (iI (n : Int)), .int (iI ((f_sh R j : Nat) : Int)), .int (iI ((n : Int) - 1 - j))] [] := by
    intro k7
    induction k7 with
    | zero => intro j I1  hk1 hk2; omega
    | succ k7 ih7 =>
      intro j I1  hk7 hl7 hf hz0
      have hlt : f_sh R j ≤ R := f_sh_le
      refine r_iload hV dX11_splitRow_7 rfl ?_
      refine s_if_lt hV 34 dX11_splitRow_9 (by decide) (by unfold z_rg; first | omega | (split <;> omega)) (fun c9 => ?_) (fun c9 => ?_)
      · refine r_iload_n hV dX11_splitRow_34 rfl ?_
        have hjn : j = n := by omega
        subst hjn
        have hlt : f_sh R j ≤ R := f_sh_le
        refine s_if_ne hV 42 dX11_splitRow_35 (by decide) (by unfold z_rg; first | omega | (split <;> omega)) (fun c35 => ?_) (fun c35 => ?_)
        · refine s_iconst hV dX11_splitRow_42 (0) (by decide) ?_
          refine s_zret hV dX11_splitRow_43 rfl (by omega) rfl ?_
          refine ⟨?_, rfl, rfl, fun z a b => hz0 z (by omega) b, hf⟩
          first | rw [if_pos (by omega)] | rw [if_neg (by omega)]
        · refine s_iconst hV dX11_splitRow_38 (1) (by decide) ?_
          refine r_goto hV 43 dX11_splitRow_39 (by decide) ?_
          refine s_zret hV dX11_splitRow_43 rfl (by omega) rfl ?_
          refine ⟨?_, rfl, rfl, fun z a b => hz0 z (by omega) b, hf⟩
          first | rw [if_pos (by omega)] | rw [if_neg (by omega)]
      · refine r_aload_n hV dX11_splitRow_12 rfl rfl ?_
        refine r_getR hV dX11_splitRow_13 fl_X11_72 (by first | decide | omega) (by first | rfl | assumption | exact h3.2.1 | (rcases hdd with ⟨rfl, rfl⟩ | ⟨rfl, rfl⟩ <;> rfl)) q9 ?_
        refine r_iload hV dX11_splitRow_16 rfl ?_
        refine r_iload_n hV dX11_splitRow_18 rfl ?_
        refine s_bipush hV dX11_splitRow_19 (10) (by decide) ?_
        refine s_irem hV dX11_splitRow_21 (by unfold z_rg; first | omega | (split <;> omega)) (by unfold z_rg; first | omega | (split <;> omega)) (by omega) (by omega) ?_
        refine s_iastore hV dX11_splitRow_22 (by first | decide | omega) (by first | rfl | assumption | exact h3.2.1 | (rcases hdd with ⟨rfl, rfl⟩ | ⟨rfl, rfl⟩ <;> rfl)) (by decide) (by omega) (by omega) ?_
        generalize hI2 : zu I1 (65) (zu (I1 65) ((n : Int) - 1 - (j : Int)).toNat (iI (((f_sh R j : Nat) : Int) % 10))) = I2
        have hfI2 : ∀ q, q ≠ 65 → I2 q = I1 q := fun q h => by rw [← hI2]; exact zu_n _ _ h
        refine r_iload_n hV dX11_splitRow_23 rfl ?_
        refine s_bipush hV dX11_splitRow_24 (10) (by decide) ?_
        refine s_idiv hV dX11_splitRow_26 (by unfold z_rg; first | omega | (split <;> omega)) (by unfold z_rg; first | omega | (split <;> omega)) (by omega) (by omega) ?_
        refine r_istore_n hV dX11_splitRow_27 (Nat.le_of_ble_eq_true rfl) (z_st1_5_3 rfl) ?_
        refine s_iinc hV dX11_splitRow_28 rfl (z_st1_5_4 rfl) ?_
        refine r_goto hV 7 dX11_splitRow_31 (by decide) ?_
        rw [show (n : Int) - 1 - (j : Int) + -1 = (n : Int) - 1 - ((j + 1 : Nat) : Int) by omega, show ((f_sh R j : Nat) : Int) / 10 = ((f_sh R (j + 1) : Nat) : Int) by rw [f_sh_s]; omega]
        exact ih7 (j + 1) _ (by omega) (by omega) (fun q hq => by rw [hfI2 q hq]; exact hf q hq) (fun z a b => by
          rcases (show z = (n : Int) - 1 - j ∨ (n : Int) - j ≤ z by omega) with rfl | hz
          · rw [← hI2]
            simp only [zu_s]
            unfold f_dg10
            rw [show n - 1 - ((n : Int) - 1 - (j : Int)).toNat = j by omega]
            exact congrArg iI (by omega)
          · rw [← hI2]
            rw [zu_s, zu_n _ _ (by omega)]
            exact hz0 z hz b)
  have hL := L7 (n + 1) 0 I (by omega) (by omega) (fun _ _ => rfl) (fun z a b => absurd a (by omega))
  rw [f_sh_0, show (n : Int) - 1 - ((0 : Nat) : Int) = (n : Int) - 1 by omega] at hL
  exact hL

/-- the text becomes T of length tl, a is answered -/
def q_txt (I : zI) (J : zJ) (P : zP) (tl : Int) (T : Int → Int) (a : Int) (v : Option Value) (I1 : zI) (J1 : zJ) (P1 : zP) : Prop := v = some (.int (iI a)) ∧ J1 = J ∧ P1 = P ∧ I1 1 1 = iI tl ∧ z_ar I1 2 80 T ∧ z_bd T 80 0 255 ∧ ∀ q, q ≠ 1 → q ≠ 2 → I1 q = I q
set_option maxRecDepth 20000 in
theorem m_write (I : zI) (J : zJ) (P : zP) (d d1 : Nat) (hK : cK P) (q10 : P 0 10 = some d) (q11 : P 0 11 = some d1) (hdd : (d = 66 ∧ d1 = 72) ∨ (d = 72 ∧ d1 = 66)) (tl : Int) (htl : I 1 1 = iI tl) (htb : 0 ≤ tl ∧ tl ≤ 80) (T : Int → Int) (hT : z_ar I 2 80 T) (hTb : z_bd T 80 0 255) (n : Int) (hn : z_rg n) (x : Int64) : z_Sp 1 yX11_write cX11_write 4 (some .int) 108 108 I J P [.ref 0, .int (iI n), .long x] (fun v I1 J1 P1 => if n < 1 ∨ 8 < n then q_no I J P (-2) v I1 J1 P1 else if 80 < tl + n then q_no I J P (-4) v I1 J1 P1 else q_txt I J P (tl + n) (zit (f_app x n tl) n.toNat T) (tl + n) v I1 J1 P1) := by
  obtain ⟨q0, q1, q2, q3, q4, q5, q6, q7, q8, q9, p1, h3, hA, hL, hTr0, hTr1, hTr2, hPn, hGs, hD66, hD72⟩ := id hK
  have hD : zDay P d := by rcases hdd with ⟨rfl, rfl⟩ | ⟨rfl, rfl⟩ <;> assumption
  obtain ⟨hd, p4, p5, p6, p7, p8⟩ := id hD
  have hD1 : zDay P d1 := by rcases hdd with ⟨rfl, rfl⟩ | ⟨rfl, rfl⟩ <;> assumption
  have hn1 := hn.1
  have hn2 := hn.2
  refine z_met false (by decide +kernel) (fun h => by cases h) (Nat.le_of_ble_eq_true rfl) (by first | decide | omega) (fun V hV => ?_)
  show V 108 I J P 0 [.ref 0, .int (iI n), .long x, .null] []
  refine r_iload_n hV dX11_write_0 rfl ?_
  refine s_iconst hV dX11_write_1 (1) (by decide) ?_
  refine s_icmp_lt hV 11 dX11_write_2 (by decide) (by unfold z_rg; first | omega | (split <;> omega)) (by unfold z_rg; first | omega | (split <;> omega)) (fun c2 => ?_) (fun c2 => ?_)
  · refine s_bipush hV dX11_write_11 (-2) (by decide) ?_
    refine r_iret hV dX11_write_13 rfl rfl ?_
    show ite _ _ _
    rw [if_pos (by omega)]
    exact ⟨rfl, rfl, rfl, rfl⟩
  · refine r_iload_n hV dX11_write_5 rfl ?_
    refine s_bipush hV dX11_write_6 (8) (by decide) ?_
    refine s_icmp_le hV 14 dX11_write_8 (by decide) (by unfold z_rg; first | omega | (split <;> omega)) (by unfold z_rg; first | omega | (split <;> omega)) (fun c8 => ?_) (fun c8 => ?_)
    · refine r_aload_n hV dX11_write_14 rfl rfl ?_
      refine r_getR hV dX11_write_15 fl_X11_10 (by first | decide | omega) (by first | rfl | assumption | exact h3.2.1 | (rcases hdd with ⟨rfl, rfl⟩ | ⟨rfl, rfl⟩ <;> rfl)) q0 ?_
      refine q_iv0v hV dX11_write_18 mv_X11_86 (m_size I J P tl htl htb) (by first | decide | omega) (by first | rfl | assumption | exact h3.2.1 | (rcases hdd with ⟨rfl, rfl⟩ | ⟨rfl, rfl⟩ <;> rfl)) (by decide) (Nat.le_refl _) (Nat.le_of_ble_eq_true rfl) ?_
      refine r_iload_n hV dX11_write_21 rfl ?_
      refine s_iadd hV dX11_write_22 ?_
      refine s_bipush hV dX11_write_23 (80) (by decide) ?_
      refine s_icmp_le hV 31 dX11_write_25 (by decide) (by unfold z_rg; first | omega | (split <;> omega)) (by unfold z_rg; first | omega | (split <;> omega)) (fun c25 => ?_) (fun c25 => ?_)
      · refine r_aload_n hV dX11_write_31 rfl rfl ?_
        refine r_getR hV dX11_write_32 fl_X11_10 (by first | decide | omega) (by first | rfl | assumption | exact h3.2.1 | (rcases hdd with ⟨rfl, rfl⟩ | ⟨rfl, rfl⟩ <;> rfl)) q0 ?_
        refine r_iload_n hV dX11_write_35 rfl ?_
        refine r_lload_n hV dX11_write_36 rfl ?_
        refine r_iv2 hV dX11_write_37 mv_X11_90 (m_append I J P p1 tl htl htb T hT hTb n (by omega) (by omega) x) (by first | decide | omega) (by first | rfl | assumption | exact h3.2.1 | (rcases hdd with ⟨rfl, rfl⟩ | ⟨rfl, rfl⟩ <;> rfl)) (by decide) (Nat.le_refl _) (Nat.le_of_ble_eq_true rfl) (fun w I2 J2 P2 hq => ?_)
        obtain ⟨rfl, ej, ep, t1, t2, t3, tf⟩ := hq
        rw [ej, ep]
        show V 108 I2 J P _ _ []
        refine r_aload_n hV dX11_write_40 rfl rfl ?_
        refine r_getR hV dX11_write_41 fl_X11_10 (by first | decide | omega) (by first | rfl | assumption | exact h3.2.1 | (rcases hdd with ⟨rfl, rfl⟩ | ⟨rfl, rfl⟩ <;> rfl)) q0 ?_
        refine q_iv0v hV dX11_write_44 mv_X11_86 (m_size I2 J P (tl + n) t1 (by omega)) (by first | decide | omega) (by first | rfl | assumption | exact h3.2.1 | (rcases hdd with ⟨rfl, rfl⟩ | ⟨rfl, rfl⟩ <;> rfl)) (by decide) (Nat.le_refl _) (Nat.le_of_ble_eq_true rfl) ?_
        refine r_iret hV dX11_write_47 rfl rfl ?_
        show ite _ _ _
        rw [if_neg (by omega), if_neg (by omega)]
        exact ⟨rfl, rfl, rfl, t1, t2, t3, tf⟩
      · refine s_bipush hV dX11_write_28 (-4) (by decide) ?_
        refine r_iret hV dX11_write_30 rfl rfl ?_
        show ite _ _ _
        rw [if_neg (by omega), if_pos (by omega)]
        exact ⟨rfl, rfl, rfl, rfl⟩
    · refine s_bipush hV dX11_write_11 (-2) (by decide) ?_
      refine r_iret hV dX11_write_13 rfl rfl ?_
      show ite _ _ _
      rw [if_pos (by omega)]
      exact ⟨rfl, rfl, rfl, rfl⟩

set_option maxRecDepth 20000 in
theorem m_wipe (I : zI) (J : zJ) (P : zP) (d d1 : Nat) (hK : cK P) (q10 : P 0 10 = some d) (q11 : P 0 11 = some d1) (hdd : (d = 66 ∧ d1 = 72) ∨ (d = 72 ∧ d1 = 66)) (tl : Int) (htl : I 1 1 = iI tl) (htb : 0 ≤ tl ∧ tl ≤ 80) (T : Int → Int) (hT : z_ar I 2 80 T) (hTb : z_bd T 80 0 255) : z_Sp 1 yX11_wipe cX11_wipe 2 (some .int) 108 108 I J P [.ref 0] (q_txt I J P 0 T tl) := by
  obtain ⟨q0, q1, q2, q3, q4, q5, q6, q7, q8, q9, p1, h3, hA, hL, hTr0, hTr1, hTr2, hPn, hGs, hD66, hD72⟩ := id hK
  have hD : zDay P d := by rcases hdd with ⟨rfl, rfl⟩ | ⟨rfl, rfl⟩ <;> assumption
  obtain ⟨hd, p4, p5, p6, p7, p8⟩ := id hD
  have hD1 : zDay P d1 := by rcases hdd with ⟨rfl, rfl⟩ | ⟨rfl, rfl⟩ <;> assumption
  refine z_met false (by decide +kernel) (fun h => by cases h) (Nat.le_of_ble_eq_true rfl) (by first | decide | omega) (fun V hV => ?_)
  show V 108 I J P 0 [.ref 0, .null] []
  refine r_aload_n hV dX11_wipe_0 rfl rfl ?_
  refine r_getR hV dX11_wipe_1 fl_X11_10 (by first | decide | omega) (by first | rfl | assumption | exact h3.2.1 | (rcases hdd with ⟨rfl, rfl⟩ | ⟨rfl, rfl⟩ <;> rfl)) q0 ?_
  refine q_iv0v hV dX11_wipe_4 mv_X11_86 (m_size I J P tl htl htb) (by first | decide | omega) (by first | rfl | assumption | exact h3.2.1 | (rcases hdd with ⟨rfl, rfl⟩ | ⟨rfl, rfl⟩ <;> rfl)) (by decide) (Nat.le_refl _) (Nat.le_of_ble_eq_true rfl) ?_
  refine r_istore_n hV dX11_wipe_7 (Nat.le_of_ble_eq_true rfl) (z_st1_2_1 rfl) ?_
  refine r_aload_n hV dX11_wipe_8 rfl rfl ?_
  refine r_getR hV dX11_wipe_9 fl_X11_10 (by first | decide | omega) (by first | rfl | assumption | exact h3.2.1 | (rcases hdd with ⟨rfl, rfl⟩ | ⟨rfl, rfl⟩ <;> rfl)) q0 ?_
  refine q_iv0u hV dX11_wipe_12 mv_X11_94 (m_empty I J P) (by first | decide | omega) (by first | rfl | assumption | exact h3.2.1 | (rcases hdd with ⟨rfl, rfl⟩ | ⟨rfl, rfl⟩ <;> rfl)) (by decide) (Nat.le_refl _) (Nat.le_of_ble_eq_true rfl) ?_
  refine r_iload_n hV dX11_wipe_15 rfl ?_
  refine r_iret hV dX11_wipe_16 rfl rfl ?_
  refine ⟨rfl, rfl, rfl, by rw [zu_s, zu_s], z_ar_fr hT (zu_n _ _ (by omega)), hTb, fun q a b => zu_n _ _ a⟩

theorem f_rdF_b {T : Int → Int} {tl n r : Int} {R : Int → Int} {p : Int} : f_rdF T tl n r R p = -9 ∨ (p ≤ f_rdF T tl n r R p ∧ f_rdF T tl n r R p ≤ p + 4) := by
  unfold f_rdF
  (repeat' split) <;> omega
theorem f_erF_b {T : Int → Int} {tl n e p : Int} : f_erF T tl n e p = -9 ∨ (p ≤ f_erF T tl n e p ∧ f_erF T tl n e p ≤ p + 3) := by
  unfold f_erF
  (repeat' split) <;> omega
theorem f_parse_b {T : Int → Int} {tl n : Int} : ∀ (k : Nat) (p r e : Int) (R W U K : Int → Int), 0 ≤ p → (f_parse T tl n k p r e R W U K).1 = -9 ∨ (0 ≤ (f_parse T tl n k p r e R W U K).1 ∧ (f_parse T tl n k p r e R W U K).1 ≤ tl + 4) := by
  intro k
  induction k with
  | zero => intro p r e R W U K _; left; rfl
  | succ k ih =>
    intro p r e R W U K hp
    unfold f_parse
    split
    · left; rfl
    · split
      · split
        · exact ih _ _ _ _ _ _ _ (by omega)
        · rcases f_rdF_b (T := T) (tl := tl) (n := n) (r := r) (R := R) (p := p) with h | h
          · contradiction
          · right; simp only; omega
      · split
        · exact ih _ _ _ _ _ _ _ (by omega)
        · rcases f_erF_b (T := T) (tl := tl) (n := n) (e := e) (p := p) with h | h
          · contradiction
          · right; simp only; omega
def f_flt (T : Int → Int) (tl : Int) (W U K : Int → Int) : Int := if f_hf T tl = -9 then (f_parse T tl (zfg T tl 4) 81 5 0 0 (fun _ => 0) W U K).1 else f_hf T tl
theorem f_hf_b {T : Int → Int} {tl : Int} : f_hf T tl = -9 ∨ (0 ≤ f_hf T tl ∧ f_hf T tl ≤ 4) := by
  unfold f_hf
  (repeat' split) <;> omega
theorem f_flt_b {T : Int → Int} {tl : Int} {W U K : Int → Int} (h : 0 ≤ tl ∧ tl ≤ 80) : f_flt T tl W U K = -9 ∨ (0 ≤ f_flt T tl W U K ∧ f_flt T tl W U K ≤ 84) := by
  unfold f_flt
  split
  · rcases f_parse_b (T := T) (tl := tl) (n := zfg T tl 4) 81 5 0 0 (fun _ => 0) W U K (by omega) with h | h
    · left; exact h
    · right; omega
  · rcases f_hf_b (T := T) (tl := tl) with h | h
    · contradiction
    · right; omega
/-- what fault leaves of the draft -/
def q_dft (I1 : zI) (d1 : Nat) : Prop := ∃ W0 U0 K0, z_ar I1 (d1 + 3) 6 W0 ∧ z_ar I1 (d1 + 4) 6 U0 ∧ z_ar I1 (d1 + 5) 6 K0 ∧ z_bd W0 6 0 5 ∧ z_bd U0 6 0 9 ∧ z_bd K0 6 0 2
/-- the fault F is told; without one the draft holds what was read -/
def q_flt (T : Int → Int) (tl : Int) (I : zI) (J : zJ) (P : zP) (d1 : Nat) (W U K : Int → Int) (v : Option Value) (I1 : zI) (J1 : zJ) (P1 : zP) : Prop := J1 = J ∧ P1 = P ∧ v = some (.int (iI (f_flt T tl W U K))) ∧ q_dft I1 d1 ∧ q_out I I1 d1 ∧ (f_flt T tl W U K = -9 → f_hf T tl = -9 ∧ (2 ≤ zfg T tl 4 ∧ zfg T tl 4 ≤ 6) ∧ ∃ r e R' W' U' K', f_parse T tl (zfg T tl 4) 81 5 0 0 (fun _ => 0) W U K = (-9, r, e, R', W', U', K') ∧ q_cells I1 d1 (zfg T tl 4) (f_st T tl) r e R' W' U' K' ∧ q_bds r e R' W' U' K')
theorem q_flt_of {T : Int → Int} {tl : Int} {I : zI} {J : zJ} {P : zP} {d1 : Nat} {W U K : Int → Int} {v : Option Value} {I1 : zI} {J1 : zJ} {P1 : zP} (h : q_ff T tl I J P d1 W U K v I1 J1 P1) (hW0 : z_ar I (d1 + 3) 6 W) (hU0 : z_ar I (d1 + 4) 6 U) (hK0 : z_ar I (d1 + 5) 6 K) (hW0b : z_bd W 6 0 5) (hU0b : z_bd U 6 0 9) (hK0b : z_bd K 6 0 2) : q_flt T tl I J P d1 W U K v I1 J1 P1 := by
  obtain ⟨h1, h2, ⟨a1, a2, a3⟩ | ⟨b1, b2, b3, F, r, e, R', W', U', K', c1, c2, c3, c4, c5⟩⟩ := h
  · refine ⟨h1, h2, ?_, ?_, ?_, ?_⟩
    · rw [a2, f_flt, if_neg a1]
    · rw [a3]; exact ⟨W, U, K, hW0, hU0, hK0, hW0b, hU0b, hK0b⟩
    · rw [a3]; exact fun _ _ => rfl
    · intro hf; rw [f_flt, if_neg a1] at hf; exact absurd hf a1
  · have e0 : f_flt T tl W U K = F := by rw [f_flt, if_pos b1, c1]
    refine ⟨h1, h2, ?_, ?_, c5, ?_⟩
    · rw [c2, e0]
    · exact ⟨W', U', K', c3.2.2.2.2.2.1, c3.2.2.2.2.2.2.1, c3.2.2.2.2.2.2.2, c4.2.2.2.1, c4.2.2.2.2.1, c4.2.2.2.2.2⟩
    · intro hf
      rw [e0] at hf
      subst hf
      exact ⟨b1, ⟨b2, b3⟩, r, e, R', W', U', K', c1, c3, c4⟩
set_option maxRecDepth 20000 in
theorem m_fault (I : zI) (J : zJ) (P : zP) (d d1 : Nat) (hK : cK P) (q10 : P 0 10 = some d) (q11 : P 0 11 = some d1) (hdd : (d = 66 ∧ d1 = 72) ∨ (d = 72 ∧ d1 = 66)) (tl : Int) (htl : I 1 1 = iI tl) (htb : 0 ≤ tl ∧ tl ≤ 80) (T : Int → Int) (hT : z_ar I 2 80 T) (hTb : z_bd T 80 0 255) (W0 U0 K0 : Int → Int) (hW0 : z_ar I (d1 + 3) 6 W0) (hU0 : z_ar I (d1 + 4) 6 U0) (hK0 : z_ar I (d1 + 5) 6 K0) (hW0b : z_bd W0 6 0 5) (hU0b : z_bd U0 6 0 9) (hK0b : z_bd K0 6 0 2) : z_Sp 6 yX11_fault cX11_fault 1 (some .int) 108 108 I J P [.ref 0] (q_flt T tl I J P d1 W0 U0 K0) := by
  obtain ⟨q0, q1, q2, q3, q4, q5, q6, q7, q8, q9, p1, h3, hA, hL, hTr0, hTr1, hTr2, hPn, hGs, hD66, hD72⟩ := id hK
  have hD : zDay P d := by rcases hdd with ⟨rfl, rfl⟩ | ⟨rfl, rfl⟩ <;> assumption
  obtain ⟨hd, p4, p5, p6, p7, p8⟩ := id hD
  have hD1 : zDay P d1 := by rcases hdd with ⟨rfl, rfl⟩ | ⟨rfl, rfl⟩ <;> assumption
  refine z_met false (by decide +kernel) (fun h => by cases h) (Nat.le_of_ble_eq_true rfl) (by first | decide | omega) (fun V hV => ?_)
  show V 108 I J P 0 [.ref 0] []
  refine r_aload_n hV dX11_fault_0 rfl rfl ?_
  refine r_getR hV dX11_fault_1 fl_X11_10 (by first | decide | omega) (by first | rfl | assumption | exact h3.2.1 | (rcases hdd with ⟨rfl, rfl⟩ | ⟨rfl, rfl⟩ <;> rfl)) q0 ?_
  refine r_aload_n hV dX11_fault_4 rfl rfl ?_
  refine r_getR hV dX11_fault_5 fl_X11_83 (by first | decide | omega) (by first | rfl | assumption | exact h3.2.1 | (rcases hdd with ⟨rfl, rfl⟩ | ⟨rfl, rfl⟩ <;> rfl)) q11 ?_
  refine r_is2 hV dX11_fault_8 ms_X11_97 (m_firstFault I J P d1 hD1 p1 tl htl htb T hT hTb W0 U0 K0 hW0 hU0 hK0 hW0b hU0b hK0b) (by decide) (Nat.le_refl _) (Nat.le_of_ble_eq_true rfl) (fun w I2 J2 P2 hq => ?_)
  have hq := q_flt_of hq hW0 hU0 hK0 hW0b hU0b hK0b
  obtain ⟨ej, ep, rfl, f1, f2, f3⟩ := id hq
  rw [ej, ep]
  show V 108 I2 J P _ _ [.int (iI (f_flt T tl W0 U0 K0))]
  have hfb := f_flt_b (T := T) (W := W0) (U := U0) (K := K0) htb
  refine r_iret hV dX11_fault_11 rfl rfl ?_
  rw [ej, ep] at hq
  exact hq

