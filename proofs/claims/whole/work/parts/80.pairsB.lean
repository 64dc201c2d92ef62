theorem f_st_b {T : Int → Int} {tl : Int} (h : f_hf T tl = -9) : 0 ≤ f_st T tl ∧ f_st T tl ≤ 999 := by
  unfold f_hf at h
  have k : ∀ p, zfg T tl p ≤ 9 := fun p => by unfold zfg; split <;> omega
  have k1 := k 1
  have k2 := k 2
  have k3 := k 3
  unfold f_st
  by_cases h0 : zsg T tl 0 = 86
  · rw [if_neg (fun q => q h0)] at h
    by_cases h1 : zfg T tl 1 < 0
    · rw [if_pos h1] at h; omega
    · rw [if_neg h1] at h
      by_cases h2 : zfg T tl 2 < 0
      · rw [if_pos h2] at h; omega
      · rw [if_neg h2] at h
        by_cases h3 : zfg T tl 3 < 0
        · rw [if_pos h3] at h; omega
        · omega
  · rw [if_pos h0] at h; omega
theorem mscr_M {I1 I2 : zI} {J1 J2 : zJ} {P1 P2 : zP} {v2 : Option Value} {n e : Nat} {tl st r c : Int} {T F W U K S : Int → Int} {H : Nat → Int → Int} {FU : Int → Int} {SL : Int → Int → Int} (hM1 : lM I1 P1 n e tl st r c T F W U K S H FU SL) {a : Value} (h : q_mscr I1 J1 P1 a v2 I2 J2 P2) : v2 = some a ∧ lM I2 P2 n e tl st r c T F W U K S H FU SL ∧ lKm I1 P1 I2 P2 := by
  obtain ⟨rfl, rfl, rfl, h1, h2, h3⟩ := h
  refine ⟨rfl, lM_fr hM1 rfl (fun q hq => ?_) (fun k hk => h3 k (by omega)), fun q hq => ⟨h1 q (by omega) (by omega) (by omega) (by omega), rfl⟩⟩
  rcases hq with hq | hq
  · exact h1 q (by omega) (by omega) (by omega) (by omega)
  · exact h2 q (by omega) (by omega)
theorem mpn_M {I1 I2 : zI} {J1 J2 : zJ} {P1 P2 : zP} {v2 : Option Value} {n e : Nat} {tl st r c : Int} {T F W U K S : Int → Int} {H : Nat → Int → Int} {FU : Int → Int} {SL : Int → Int → Int} (hM1 : lM I1 P1 n e tl st r c T F W U K S H FU SL) {a : Int} (h : q_mpn I1 J1 P1 a v2 I2 J2 P2) : v2 = some (.int (iI a)) ∧ lM I2 P2 n e tl st r c T F W U K S H FU SL ∧ lKm I1 P1 I2 P2 := by
  obtain ⟨rfl, rfl, rfl, h1, h2⟩ := h
  exact ⟨rfl, lM_fr hM1 rfl (fun q hq => h1 q (by omega) (by omega) (by omega)) (fun k hk => h2 k (by omega) (by omega)), fun q hq => ⟨h1 q (by omega) (by omega) (by omega), rfl⟩⟩
theorem mbt_M {I1 I2 : zI} {J1 J2 : zJ} {P1 P2 : zP} {v2 : Option Value} {n e : Nat} {tl st r c : Int} {T F W U K S : Int → Int} {H : Nat → Int → Int} {FU : Int → Int} {SL : Int → Int → Int} (hM1 : lM I1 P1 n e tl st r c T F W U K S H FU SL) {a : Int} (h : q_mbt I1 J1 P1 a v2 I2 J2 P2) : v2 = some (.int (iI a)) ∧ lM I2 P2 n e tl st r c T F W U K S H FU SL ∧ lKm I1 P1 I2 P2 := by
  obtain ⟨rfl, rfl, rfl, h1, h2⟩ := h
  exact ⟨rfl, lM_fr hM1 rfl (fun q hq => h1 q (by omega) (by omega)) (fun k hk => h2 k (by omega)), fun q hq => ⟨h1 q (by omega) (by omega), rfl⟩⟩
theorem mlg_M {I1 I2 : zI} {J2 : zJ} {P1 P2 : zP} {v2 : Option Value} {n e : Nat} {tl st r c : Int} {T F W U K S : Int → Int} {H : Nat → Int → Int} {FU : Int → Int} {SL : Int → Int → Int} (hM1 : lM I1 P1 n e tl st r c T F W U K S H FU SL) {a : Value} (h : q_mlg I1 P1 a v2 I2 J2 P2) : v2 = some a ∧ lM I2 P2 n e tl st r c T F W U K S H FU SL ∧ lKm I1 P1 I2 P2 := by
  obtain ⟨rfl, rfl, h1, h2⟩ := h
  exact ⟨rfl, lM_fr hM1 rfl (fun q hq => h1 q (by omega)) (fun k hk => h2 k (by omega)), fun q hq => ⟨h1 q (by omega), rfl⟩⟩
theorem mgs_M {I1 I2 : zI} {J1 J2 : zJ} {P1 P2 : zP} {v2 : Option Value} {n e : Nat} {tl st r c : Int} {T F W U K S : Int → Int} {H : Nat → Int → Int} {FU : Int → Int} {SL : Int → Int → Int} (hM1 : lM I1 P1 n e tl st r c T F W U K S H FU SL) {a : Value} (h : q_mgs I1 J1 P1 tl st r c n e T F W U K S a v2 I2 J2 P2) : v2 = some a ∧ lM I2 P2 n e tl st r c T F W U K S H FU SL ∧ lKm I1 P1 I2 P2 := by
  obtain ⟨rfl, rfl, rfl, h0, h1, h2⟩ := h
  exact ⟨rfl, ⟨hM1.1, h0, mB_fr hM1.2.2.1 (h1 _ (by omega) (by omega) (by omega) (by omega) (by omega)), mL_fr hM1.2.2.2 (h1 _ (by omega) (by omega) (by omega) (by omega) (by omega)) (h1 _ (by omega) (by omega) (by omega) (by omega) (by omega))⟩, fun q hq => ⟨h1 q (by omega) (by omega) (by omega) (by omega) (by omega), rfl⟩⟩
theorem mflt_M {I1 I2 : zI} {J1 J2 : zJ} {P1 P2 : zP} {v2 : Option Value} {n e : Nat} {tl st r c : Int} {T F W U K S : Int → Int} {H : Nat → Int → Int} {FU : Int → Int} {SL : Int → Int → Int} (hM1 : lM I1 P1 n e tl st r c T F W U K S H FU SL) {t2 : Int} {T2 W0 U0 K0 : Int → Int} (h : q_mflt T2 t2 W0 U0 K0 I1 J1 P1 v2 I2 J2 P2) : v2 = some (.int (iI (f_flt T2 t2 W0 U0 K0))) ∧ lM I2 P2 n e tl st r c T F W U K S H FU SL ∧ lKm I1 P1 I2 P2 := by
  obtain ⟨rfl, rfl, rfl, h1, h2⟩ := h
  exact ⟨rfl, lM_fr hM1 rfl (fun q hq => h1 q (by omega) (by omega)) (fun k hk => h2 k (by omega) (by omega) (by omega) (by omega) (by omega) (by omega)), fun q hq => ⟨h1 q (by omega) (by omega), rfl⟩⟩
theorem pr_tour {b : Int} (hb : 999 ≤ b ∧ b + 109 ≤ 90000) {I I1 I2 : zI} {J J1 J2 : zJ} {P P1 P2 : zP} {v v2 : Option Value} {d d1 n e : Nat} {tl st r c nx : Int} {T F W U K S : Int → Int} {H : Nat → Int → Int} {FU : Int → Int} {SL : Int → Int → Int} (hC : lC I P d d1 n e tl st r c nx T F W U K S H FU SL) (hB : lB b n e tl st c nx T F W U K S H FU SL) {dn dh : Nat} (hg : cG n S dn dh) (hS2 : S 2 ≤ b) {w x : Int} (hq : q_scr 46 48 I J P (.int (iI (f_tour n e F W K S (f_w0 I 48) dn w x))) v I1 J1 P1) (hM1 : lM I1 P1 n e tl st r c T F W U K S H FU SL) (hq2 : q_mscr I1 J1 P1 (.int (iI (f_mtour n e F W K S dn w x))) v2 I2 J2 P2) : v2 = v ∧ lInv (b + 109) I2 P2 := by
  obtain ⟨hnb, he6, htb, hTb, hsb, hcb, hxb, hFk, hFb, ⟨hWb, hWb5⟩, hUb, hKb, hFUb, hGS, hHg, hSg⟩ := id hB
  obtain ⟨h1, h2, h3⟩ := mscr_M hM1 hq2
  obtain ⟨rfl, rfl, rfl, h4⟩ := hq
  rw [← tour_eq (W0 := f_w0 I 48) hFk hFb hnb he6 hWb hg.1 hg.2.1] at h1
  exact pr_rd hB rfl (lC_fr hC rfl (fun _ _ _ _ => rfl) hC.2.2.2.2.1 (fun q hq => h4 q (by omega))) h1 h2 h3
theorem pr_plan {b : Int} (hb : 999 ≤ b ∧ b + 109 ≤ 90000) {I I1 I2 : zI} {J J1 J2 : zJ} {P P1 P2 : zP} {v v2 : Option Value} {d d1 n e : Nat} {tl st r c nx : Int} {T F W U K S : Int → Int} {H : Nat → Int → Int} {FU : Int → Int} {SL : Int → Int → Int} (hC : lC I P d d1 n e tl st r c nx T F W U K S H FU SL) (hB : lB b n e tl st c nx T F W U K S H FU SL) {dn dh : Nat} (hg : cG n S dn dh) (hS2 : S 2 ≤ b) {w : Int} (hq : q_scr 49 57 I J P (.int (iI (f_plan (f_stl n e F W U (zdf (zset (f_can K 0) e) dn) (zdf (zset (f_can K 1) e) dn) (S 0).toNat (S 1).toNat 0 (S 2)) w))) v I1 J1 P1) (hM1 : lM I1 P1 n e tl st r c T F W U K S H FU SL) (hq2 : q_mpn I1 J1 P1 (f_mplan (f_mpl (f_mt (mF F) W K 0 (S 0) 0 e) (f_mt (mF F) W K 1 (S 1) 0 e) U e dn (S 2)) w) v2 I2 J2 P2) : v2 = v ∧ lInv (b + 109) I2 P2 := by
  obtain ⟨hnb, he6, htb, hTb, hsb, hcb, hxb, hFk, hFb, ⟨hWb, hWb5⟩, hUb, hKb, hFUb, hGS, hHg, hSg⟩ := id hB
  obtain ⟨g0, g1, g2, g3, g4, g5, g6, g7, g8⟩ := id hg
  obtain ⟨h1, h2, h3⟩ := mpn_M hM1 hq2
  obtain ⟨rfl, rfl, rfl, h4⟩ := hq
  have hp := plan_eq (K := K) (dn := dn) (her := (S 0).toNat) (him := (S 1).toNat) (home := 0) hFk hFb hnb.2 he6 hWb hUb (by omega) (by omega) (by omega) g2
  rw [show (((S 0).toNat : Nat) : Int) = S 0 by omega, show (((S 1).toNat : Nat) : Int) = S 1 by omega, show ((0 : Nat) : Int) = 0 from rfl] at hp
  rw [← plan_ans hp w] at h1
  exact pr_rd hB rfl (lC_fr hC rfl (fun _ _ _ _ => rfl) hC.2.2.2.2.1 (fun q hq => h4 q (by omega))) h1 h2 h3
theorem pr_live {b : Int} (hb : 999 ≤ b ∧ b + 109 ≤ 90000) {I I1 I2 : zI} {J J1 J2 : zJ} {P P1 P2 : zP} {v v2 : Option Value} {d d1 n e : Nat} {tl st r c nx : Int} {T F W U K S : Int → Int} {H : Nat → Int → Int} {FU : Int → Int} {SL : Int → Int → Int} (hC : lC I P d d1 n e tl st r c nx T F W U K S H FU SL) (hB : lB b n e tl st c nx T F W U K S H FU SL)  (hq : q_scr 49 57 I J P (.int (iI (f_live n e F W U K st))) v I1 J1 P1) (hM1 : lM I1 P1 n e tl st r c T F W U K S H FU SL) (hq2 : q_mpn I1 J1 P1 (f_mlive n e F W U K st) v2 I2 J2 P2) : v2 = v ∧ lInv (b + 109) I2 P2 := by
  obtain ⟨hnb, he6, htb, hTb, hsb, hcb, hxb, hFk, hFb, ⟨hWb, hWb5⟩, hUb, hKb, hFUb, hGS, hHg, hSg⟩ := id hB
  obtain ⟨h1, h2, h3⟩ := mpn_M hM1 hq2
  obtain ⟨rfl, rfl, rfl, h4⟩ := hq
  rw [← live_eq hFk hFb hnb.2 he6 hWb hUb hsb] at h1
  exact pr_rd hB rfl (lC_fr hC rfl (fun _ _ _ _ => rfl) hC.2.2.2.2.1 (fun q hq => h4 q (by omega))) h1 h2 h3
theorem pr_byTurns {b : Int} (hb : 999 ≤ b ∧ b + 109 ≤ 90000) {I I1 I2 : zI} {J J1 J2 : zJ} {P P1 P2 : zP} {v v2 : Option Value} {d d1 n e : Nat} {tl st r c nx : Int} {T F W U K S : Int → Int} {H : Nat → Int → Int} {FU : Int → Int} {SL : Int → Int → Int} (hC : lC I P d d1 n e tl st r c nx T F W U K S H FU SL) (hB : lB b n e tl st c nx T F W U K S H FU SL) {dn dh : Nat} (hg : cG n S dn dh) (hS2 : S 2 ≤ b) {w : Int} (hq : q_btn I J P (f_byT e F W U K S dn w) v I1 J1 P1) (hM1 : lM I1 P1 n e tl st r c T F W U K S H FU SL) (hq2 : q_mbt I1 J1 P1 (f_byT e F W U K S dn w) v2 I2 J2 P2) : v2 = v ∧ lInv (b + 109) I2 P2 := by
  obtain ⟨h1, h2, h3⟩ := mbt_M hM1 hq2
  obtain ⟨rfl, rfl, rfl, h4⟩ := hq
  obtain ⟨a_, b_, hr_⟩ := hC.2.2.2.2.1
  exact pr_rd hB rfl (lC_fr hC (h4 0 (by omega)) (fun q _ h58 _ => h4 q h58) ⟨a_, b_, zRw_fr hr_ (h4 59 (by omega))⟩ (fun _ _ => rfl)) h1 h2 h3
theorem pr_ledger {b : Int} (hb : 999 ≤ b ∧ b + 109 ≤ 90000) {I I1 I2 : zI} {J J1 J2 : zJ} {P P1 P2 : zP} {v v2 : Option Value} {d d1 n e : Nat} {tl st r c nx : Int} {T F W U K S : Int → Int} {H : Nat → Int → Int} {FU : Int → Int} {SL : Int → Int → Int} (hC : lC I P d d1 n e tl st r c nx T F W U K S H FU SL) (hB : lB b n e tl st c nx T F W U K S H FU SL) {pl w t : Int} (hq : q_rows I J P (.long (lI (f_ledger n F pl w t))) v I1 J1 P1) (hM1 : lM I1 P1 n e tl st r c T F W U K S H FU SL) (hq2 : q_mlg I1 P1 (.long (lI (f_ledger n F pl w t))) v2 I2 J2 P2) : v2 = v ∧ lInv (b + 109) I2 P2 := by
  obtain ⟨h1, h2, h3⟩ := mlg_M hM1 hq2
  obtain ⟨rfl, rfl, h5, h6, h4⟩ := hq
  exact pr_rd hB rfl (lC_fr hC (h5 0 (by omega)) (fun q _ _ h59 => h5 q h59) h6 (fun q hq => h4 q (by omega))) h1 h2 h3
theorem pr_ends {b : Int} (hb : 999 ≤ b ∧ b + 109 ≤ 90000) {I I1 I2 : zI} {J J1 J2 : zJ} {P P1 P2 : zP} {v v2 : Option Value} {d d1 n e : Nat} {tl st r c nx : Int} {T F W U K S : Int → Int} {H : Nat → Int → Int} {FU : Int → Int} {SL : Int → Int → Int} (hC : lC I P d d1 n e tl st r c nx T F W U K S H FU SL) (hB : lB b n e tl st c nx T F W U K S H FU SL) {pl w t : Int} (hq : q_rows I J P (.int (iI (f_ends n F pl w t))) v I1 J1 P1) (hM1 : lM I1 P1 n e tl st r c T F W U K S H FU SL) (hq2 : q_mlg I1 P1 (.int (iI (f_ends n F pl w t))) v2 I2 J2 P2) : v2 = v ∧ lInv (b + 109) I2 P2 := by
  obtain ⟨h1, h2, h3⟩ := mlg_M hM1 hq2
  obtain ⟨rfl, rfl, h5, h6, h4⟩ := hq
  exact pr_rd hB rfl (lC_fr hC (h5 0 (by omega)) (fun q _ _ h59 => h5 q h59) h6 (fun q hq => h4 q (by omega))) h1 h2 h3
theorem pr_chance {b : Int} (hb : 999 ≤ b ∧ b + 109 ≤ 90000) {I I1 I2 : zI} {J J1 J2 : zJ} {P P1 P2 : zP} {v v2 : Option Value} {d d1 n e : Nat} {tl st r c nx : Int} {T F W U K S : Int → Int} {H : Nat → Int → Int} {FU : Int → Int} {SL : Int → Int → Int} (hC : lC I P d d1 n e tl st r c nx T F W U K S H FU SL) (hB : lB b n e tl st c nx T F W U K S H FU SL) {x t u : Int} (hq : q_gss I J P (.long (lI (f_chance n e F W x t u))) v I1 J1 P1) (hM1 : lM I1 P1 n e tl st r c T F W U K S H FU SL) (hq2 : q_mgs I1 J1 P1 tl st r c n e T F W U K S (.long (lI (f_mch e F W x t u))) v2 I2 J2 P2) : v2 = v ∧ lInv (b + 109) I2 P2 := by
  obtain ⟨hnb, he6, htb, hTb, hsb, hcb, hxb, hFk, hFb, ⟨hWb, hWb5⟩, hUb, hKb, hFUb, hGS, hHg, hSg⟩ := id hB
  obtain ⟨h1, h2, h3⟩ := mgs_M hM1 hq2
  obtain ⟨rfl, rfl, rfl, h4⟩ := hq
  rw [← chance_eq hFk hFb hnb he6 hWb] at h1
  exact pr_rd hB rfl (lC_fr hC rfl (fun _ _ _ _ => rfl) hC.2.2.2.2.1 (fun q hq => h4 q (by omega))) h1 h2 h3
theorem pr_spare {b : Int} (hb : 999 ≤ b ∧ b + 109 ≤ 90000) {I I1 I2 : zI} {J J1 J2 : zJ} {P P1 P2 : zP} {v v2 : Option Value} {d d1 n e : Nat} {tl st r c nx : Int} {T F W U K S : Int → Int} {H : Nat → Int → Int} {FU : Int → Int} {SL : Int → Int → Int} (hC : lC I P d d1 n e tl st r c nx T F W U K S H FU SL) (hB : lB b n e tl st c nx T F W U K S H FU SL) {x y : Int} (hq : q_gss I J P (.int (iI (f_spare n e F W x y))) v I1 J1 P1) (hM1 : lM I1 P1 n e tl st r c T F W U K S H FU SL) (hq2 : q_msp I1 J1 P1 tl st r c n e T F W U K S x y v2 I2 J2 P2) : v2 = v ∧ lInv (b + 109) I2 P2 := by
  obtain ⟨hnb, he6, htb, hTb, hsb, hcb, hxb, hFk, hFb, ⟨hWb, hWb5⟩, hUb, hKb, hFUb, hGS, hHg, hSg⟩ := id hB
  obtain ⟨a, hq3, ha⟩ := hq2
  obtain ⟨h1, h2, h3⟩ := mgs_M hM1 hq3
  obtain ⟨rfl, rfl, rfl, h4⟩ := hq
  rw [← spare_eq hFk hFb hnb he6 hWb ha] at h1
  exact pr_rd hB rfl (lC_fr hC rfl (fun _ _ _ _ => rfl) hC.2.2.2.2.1 (fun q hq => h4 q (by omega))) h1 h2 h3
theorem lC_dft {I I1 : zI} {P : zP} {d d1 n e : Nat} {tl st r c nx : Int} {T F W U K S : Int → Int} {H : Nat → Int → Int} {FU : Int → Int} {SL : Int → Int → Int} (hC : lC I P d d1 n e tl st r c nx T F W U K S H FU SL) (h1 : q_dft I1 d1) (h2 : q_out I I1 d1) : lC I1 P d d1 n e tl st r c nx T F W U K S H FU SL := by
  obtain ⟨hK, q10, q11, hdd, hRw, ⟨hn, hst, hr, he⟩, ⟨hF, hW, hU, hKk⟩, _, hS, ⟨hc, hnx⟩, hring, hFU, hSL, htl, hT⟩ := hC
  have hd : ∀ k, k < 6 → I1 (d + k) = I (d + k) := fun k hk => h2 _ (by omega)
  have hd0 : I1 d = I d := hd 0 (by omega)
  exact ⟨hK, q10, q11, hdd, hRw, ⟨by rw [hd0]; exact hn, by rw [hd0]; exact hst, by rw [hd0]; exact hr, by rw [hd0]; exact he⟩, ⟨z_ar_fr hF (hd 2 (by omega)), z_ar_fr hW (hd 3 (by omega)), z_ar_fr hU (hd 4 (by omega)), z_ar_fr hKk (hd 5 (by omega))⟩, h1, cSt_fr hS (h2 _ (by omega)) (h2 _ (by omega)), ⟨by rw [h2 5 (by omega)]; exact hc, by rw [h2 5 (by omega)]; exact hnx⟩, fun i hi => cSt_fr (hring i hi) (h2 _ (by omega)) (h2 _ (by omega)), z_ar_fr hFU (h2 _ (by omega)), fun k k0 k1 hk => cSt_fr (hSL k k0 k1 hk) (h2 _ (by omega)) (h2 _ (by omega)), by rw [h2 1 (by omega)]; exact htl, z_ar_fr hT (h2 _ (by omega))⟩
theorem pr_fault {b : Int} (hb : 999 ≤ b ∧ b + 109 ≤ 90000) {I I1 I2 : zI} {J J1 J2 : zJ} {P P1 P2 : zP} {v v2 : Option Value} {d d1 n e : Nat} {tl st r c nx : Int} {T F W U K S : Int → Int} {H : Nat → Int → Int} {FU : Int → Int} {SL : Int → Int → Int} (hC : lC I P d d1 n e tl st r c nx T F W U K S H FU SL) (hB : lB b n e tl st c nx T F W U K S H FU SL) {W0 U0 K0 : Int → Int} (hq : q_flt T tl I J P d1 W0 U0 K0 v I1 J1 P1) (hM1 : lM I1 P1 n e tl st r c T F W U K S H FU SL) (hq2 : q_mflt T tl (f_w0 I1 85) (f_w0 I1 86) (f_w0 I1 87) I1 J1 P1 v2 I2 J2 P2) : v2 = v ∧ lInv (b + 109) I2 P2 := by
  obtain ⟨h1, h2, h3⟩ := mflt_M hM1 hq2
  obtain ⟨rfl, rfl, rfl, h4, h5, _⟩ := hq
  rw [f_flt_g (W2 := W0) (U2 := U0) (K2 := K0)] at h1
  exact pr_rd hB rfl (lC_dft hC h4 h5) h1 h2 h3
theorem pr_keep {b : Int} (hb : 999 ≤ b ∧ b + 109 ≤ 90000) {I I1 I2 : zI} {J J1 J2 : zJ} {P P1 P2 : zP} {v v2 : Option Value} {d d1 n e : Nat} {tl st r c nx : Int} {T F W U K S : Int → Int} {H : Nat → Int → Int} {FU : Int → Int} {SL : Int → Int → Int} (hC : lC I P d d1 n e tl st r c nx T F W U K S H FU SL) (hB : lB b n e tl st c nx T F W U K S H FU SL) {k : Int} (hq : if ¬ (0 ≤ k ∧ k < 2) then q_no I J P (-1) v I1 J1 P1 else q_keep I J P k FU S v I1 J1 P1) (hM1 : lM I1 P1 n e tl st r c T F W U K S H FU SL) (hq2 : if ¬ (0 ≤ k ∧ k < 2) then q_mno I1 J1 P1 (-1) v2 I2 J2 P2 else q_mkeep I1 J1 P1 k FU S SL v2 I2 J2 P2) : v2 = v ∧ lInv (b + 109) I2 P2 := by
  refine sh_ite2 hq hq2 (fun _ hq hq2 => pr_no hC hB hM1 hq hq2) (fun c1 hq hq2 => ?_)
  obtain ⟨hnb, he6, htb, hTb, hsb, hcb, hxb, hFk, hFb, ⟨hWb, hWb5⟩, hUb, hKb, hFUb, hGS, hHg, hSg⟩ := id hB
  obtain ⟨hK, q10, q11, hdd, hRw, ⟨hn, hst, hr, he⟩, ⟨hF, hW, hU, hKk⟩, hdf, hS, ⟨hc, hnx⟩, hring, hFU, hSL, htl, hT⟩ := id hC
  obtain ⟨mK1, mI1, mB1, mL1⟩ := hM1
  obtain ⟨rfl, rfl, eP, h1, h2, h3⟩ := hq
  obtain ⟨rfl, rfl, eP2, m1, m2, m3⟩ := hq2
  subst eP2 eP
  refine ⟨rfl, d, d1, n, e, tl, st, r, c, nx, T, F, W, U, K, S, H, zup FU k 1, (fun j => if j = k then S else SL j), ?_, ⟨mK1, mI_fr3 mI1 (fun q hq => m2 q (by omega) (by omega) (by omega)) (fun j hj => m3 j (by omega)), mB_fr mB1 (m2 _ (by omega) (by omega) (by omega)), m1⟩, ?_⟩
  · have hd : ∀ k, k < 6 → I1 (d + k) = I (d + k) := fun k hk => h3 _ (by omega) (by omega) (by omega)
    have hd0 : I1 d = I d := hd 0 (by omega)
    obtain ⟨W0, U0, K0, w1, w2, w3, w4, w5, w6⟩ := hdf
    have hd1 : ∀ k, k < 6 → I1 (d1 + k) = I (d1 + k) := fun k hk => h3 _ (by omega) (by omega) (by omega)
    refine lC_km (I := I1) (P := P2) ⟨hK, q10, q11, hdd, hRw, ⟨by rw [hd0]; exact hn, by rw [hd0]; exact hst, by rw [hd0]; exact hr, by rw [hd0]; exact he⟩, ⟨z_ar_fr hF (hd 2 (by omega)), z_ar_fr hW (hd 3 (by omega)), z_ar_fr hU (hd 4 (by omega)), z_ar_fr hKk (hd 5 (by omega))⟩, ⟨W0, U0, K0, z_ar_fr w1 (hd1 3 (by omega)), z_ar_fr w2 (hd1 4 (by omega)), z_ar_fr w3 (hd1 5 (by omega)), w4, w5, w6⟩, cSt_fr hS (h3 _ (by omega) (by omega) (by omega)) (h3 _ (by omega) (by omega) (by omega)), ⟨by rw [h3 5 (by omega) (by omega) (by omega)]; exact hc, by rw [h3 5 (by omega) (by omega) (by omega)]; exact hnx⟩, fun i hi => cSt_fr (hring i hi) (h3 _ (by omega) (by omega) (by omega)) (h3 _ (by omega) (by omega) (by omega)), h1, fun j j0 j1 hj => ?_, by rw [h3 1 (by omega) (by omega) (by omega)]; exact htl, z_ar_fr hT (h3 _ (by omega) (by omega) (by omega))⟩ (fun q hq => ⟨m2 q (by omega) (by omega) (by omega), rfl⟩)
    show cSt I1 (42 + 2 * j.toNat) (if j = k then S else SL j)
    by_cases hjk : j = k
    · rw [if_pos hjk, hjk]; exact h2
    · rw [if_neg hjk]
      rw [zup_n hjk] at hj
      exact cSt_fr (hSL j j0 j1 hj) (h3 _ (by omega) (by omega) (by omega)) (h3 _ (by omega) (by omega) (by omega))
  · obtain ⟨a1, a2, a3, a4, a5, a6, a7, a8, a9, a10, a11, a12, a13, a14, a15, a16⟩ := lB_le hB (show b ≤ b + 109 by omega)
    refine ⟨a1, a2, a3, a4, a5, a6, a7, a8, a9, a10, a11, a12, z_bd_up a13 (by omega) (by omega), a14, a15, fun j j0 j1 hj => ?_⟩
    by_cases hjk : j = k
    · rw [hjk]; simp only [if_pos]; exact a14
    · simp only [if_neg hjk]
      rw [zup_n hjk] at hj
      exact a16 j j0 j1 hj
/-- the class after undo, again -/
theorem lC_back {I I1 : zI} {P : zP} {c2 nx2 : Int} {S2 : Int → Int} {H2 : Nat → Int → Int} {d d1 n e : Nat} {tl st r c nx : Int} {T F W U K S : Int → Int} {H : Nat → Int → Int} {FU : Int → Int} {SL : Int → Int → Int} (hC : lC I P d d1 n e tl st r c nx T F W U K S H FU SL) (h0 : I1 5 1 = iI c2 ∧ I1 5 2 = iI nx2) (h1 : cSt I1 3 S2) (h2 : ∀ q, q ≠ 3 → q ≠ 4 → q ≠ 5 → I1 q = I q) (h3 : ∀ i : Nat, (i : Int) < c2 → cSt I (7 + 2 * ((nx2 - 1 - (i : Int)) % 16).toNat) (H2 i)) : lC I1 P d d1 n e tl st r c2 nx2 T F W U K S2 H2 FU SL := by
  obtain ⟨hK, q10, q11, hdd, hRw, ⟨hn, hst, hr, he⟩, ⟨hF, hW, hU, hKk⟩, ⟨W0, U0, K0, w1, w2, w3, w4, w5, w6⟩, hS, ⟨hc, hnx⟩, hring, hFU, hSL, htl, hT⟩ := hC
  have hd : ∀ k, k < 6 → I1 (d + k) = I (d + k) := fun k hk => h2 _ (by omega) (by omega) (by omega)
  have hd0 : I1 d = I d := hd 0 (by omega)
  have hd1 : ∀ k, k < 6 → I1 (d1 + k) = I (d1 + k) := fun k hk => h2 _ (by omega) (by omega) (by omega)
  exact ⟨hK, q10, q11, hdd, hRw, ⟨by rw [hd0]; exact hn, by rw [hd0]; exact hst, by rw [hd0]; exact hr, by rw [hd0]; exact he⟩, ⟨z_ar_fr hF (hd 2 (by omega)), z_ar_fr hW (hd 3 (by omega)), z_ar_fr hU (hd 4 (by omega)), z_ar_fr hKk (hd 5 (by omega))⟩, ⟨W0, U0, K0, z_ar_fr w1 (hd1 3 (by omega)), z_ar_fr w2 (hd1 4 (by omega)), z_ar_fr w3 (hd1 5 (by omega)), w4, w5, w6⟩, h1, h0, fun i hi => cSt_fr (h3 i hi) (h2 _ (by omega) (by omega) (by omega)) (h2 _ (by omega) (by omega) (by omega)), z_ar_fr hFU (h2 _ (by omega) (by omega) (by omega)), fun k k0 k1 hk => cSt_fr (hSL k k0 k1 hk) (h2 _ (by omega) (by omega) (by omega)) (h2 _ (by omega) (by omega) (by omega)), by rw [h2 1 (by omega) (by omega) (by omega)]; exact htl, z_ar_fr hT (h2 _ (by omega) (by omega) (by omega))⟩
theorem pr_undo {b : Int} (hb : 999 ≤ b ∧ b + 109 ≤ 90000) {I I1 I2 : zI} {J J1 J2 : zJ} {P P1 P2 : zP} {v v2 : Option Value} {d d1 n e : Nat} {tl st r c nx : Int} {T F W U K S : Int → Int} {H : Nat → Int → Int} {FU : Int → Int} {SL : Int → Int → Int} (hC : lC I P d d1 n e tl st r c nx T F W U K S H FU SL) (hB : lB b n e tl st c nx T F W U K S H FU SL)  (hq : if c < 1 then q_no I J P (-3) v I1 J1 P1 else q_undo I J P c nx (H 0) v I1 J1 P1) (hM1 : lM I1 P1 n e tl st r c T F W U K S H FU SL) (hq2 : if c < 1 then q_mno I1 J1 P1 (-3) v2 I2 J2 P2 else q_mact I1 J1 P1 tl st r (c - 1) n e T F W U K (H 0) (fun i => H (i + 1)) (c - 1) v2 I2 J2 P2) : v2 = v ∧ lInv (b + 109) I2 P2 := by
  refine sh_ite2 hq hq2 (fun _ hq hq2 => pr_no hC hB hM1 hq hq2) (fun c1 hq hq2 => ?_)
  obtain ⟨hnb, he6, htb, hTb, hsb, hcb, hxb, hFk, hFb, ⟨hWb, hWb5⟩, hUb, hKb, hFUb, hGS, hHg, hSg⟩ := id hB
  obtain ⟨mK1, mI1, mB1, mL1⟩ := hM1
  obtain ⟨rfl, rfl, eP, h1, h2, h3, h4⟩ := hq
  obtain ⟨rfl, rfl, eP2, m1, m2, m3, m4⟩ := hq2
  subst eP2 eP
  obtain ⟨a1, a2, a3, a4, a5, a6, a7, a8, a9, a10, a11, a12, a13, a14, a15, a16⟩ := lB_le hB (show b ≤ b + 109 by omega)
  refine ⟨rfl, d, d1, n, e, tl, st, r, c - 1, (nx - 1) % 16, T, F, W, U, K, H 0, (fun i => H (i + 1)), FU, SL, lC_km (lC_back hC ⟨h1, h2⟩ h3 h4 (fun i hi => ?_)) (fun q hq => ⟨m3 q (by omega) (by omega) (by omega) (by omega), rfl⟩), ⟨mK1, m1, m2, mL_fr mL1 (m3 _ (by omega) (by omega) (by omega) (by omega)) (m3 _ (by omega) (by omega) (by omega) (by omega))⟩, a1, a2, a3, a4, a5, by omega, by omega, a8, a9, a10, a11, a12, a13, a15 0 (by omega), fun i hi => a15 (i + 1) (by omega), a16⟩
  rw [show (((nx - 1) % 16 - 1 - (i : Int)) % 16).toNat = ((nx - 1 - ((i + 1 : Nat) : Int)) % 16).toNat by omega]
  exact hC.2.2.2.2.2.2.2.2.2.2.1 (i + 1) (by omega)
theorem pr_again {b : Int} (hb : 999 ≤ b ∧ b + 109 ≤ 90000) {I I1 I2 : zI} {J J1 J2 : zJ} {P P1 P2 : zP} {v v2 : Option Value} {d d1 n e : Nat} {tl st r c nx : Int} {T F W U K S : Int → Int} {H : Nat → Int → Int} {FU : Int → Int} {SL : Int → Int → Int} (hC : lC I P d d1 n e tl st r c nx T F W U K S H FU SL) (hB : lB b n e tl st c nx T F W U K S H FU SL) {k : Int} (hq : if ¬ (0 ≤ k ∧ k < 2) then q_no I J P (-1) v I1 J1 P1 else if ¬ FU k = 1 then q_no I J P (-3) v I1 J1 P1 else q_again I J P (SL k) v I1 J1 P1) (hM1 : lM I1 P1 n e tl st r c T F W U K S H FU SL) (hq2 : if ¬ (0 ≤ k ∧ k < 2) then q_mno I1 J1 P1 (-1) v2 I2 J2 P2 else if ¬ FU k = 1 then q_mno I1 J1 P1 (-3) v2 I2 J2 P2 else q_mact I1 J1 P1 tl st r 0 n e T F W U K (SL k) H (SL k 2) v2 I2 J2 P2) : v2 = v ∧ lInv (b + 109) I2 P2 := by
  refine sh_ite2 hq hq2 (fun _ hq hq2 => pr_no hC hB hM1 hq hq2) (fun c1 hq hq2 => ?_)
  refine sh_ite2 hq hq2 (fun _ hq hq2 => pr_no hC hB hM1 hq hq2) (fun c2 hq hq2 => ?_)
  obtain ⟨hnb, he6, htb, hTb, hsb, hcb, hxb, hFk, hFb, ⟨hWb, hWb5⟩, hUb, hKb, hFUb, hGS, hHg, hSg⟩ := id hB
  obtain ⟨mK1, mI1, mB1, mL1⟩ := hM1
  obtain ⟨rfl, rfl, eP, h1, h2, h3, h4⟩ := hq
  obtain ⟨rfl, rfl, eP2, m1, m2, m3, m4⟩ := hq2
  subst eP2 eP
  have cf : FU k = 1 := Classical.not_not.mp c2
  obtain ⟨a1, a2, a3, a4, a5, a6, a7, a8, a9, a10, a11, a12, a13, a14, a15, a16⟩ := lB_le hB (show b ≤ b + 109 by omega)
  exact ⟨rfl, d, d1, n, e, tl, st, r, 0, 0, T, F, W, U, K, SL k, H, FU, SL, lC_km (lC_back hC ⟨h1, h2⟩ h3 h4 (fun i hi => absurd hi (by omega))) (fun q hq => ⟨m3 q (by omega) (by omega) (by omega) (by omega), rfl⟩), ⟨mK1, m1, m2, mL_fr mL1 (m3 _ (by omega) (by omega) (by omega) (by omega)) (m3 _ (by omega) (by omega) (by omega) (by omega))⟩, a1, a2, a3, a4, a5, by omega, by omega, a8, a9, a10, a11, a12, a13, a16 k (by omega) (by omega) cf, fun i hi => absurd hi (by omega), a16⟩
theorem pr_day {b : Int} (hb : 999 ≤ b ∧ b + 109 ≤ 90000) {I I1 I2 : zI} {J J1 J2 : zJ} {P P1 P2 : zP} {v v2 : Option Value} {d d1 n e : Nat} {tl st r c nx : Int} {T F W U K S : Int → Int} {H : Nat → Int → Int} {FU : Int → Int} {SL : Int → Int → Int} (hC : lC I P d d1 n e tl st r c nx T F W U K S H FU SL) (hB : lB b n e tl st c nx T F W U K S H FU SL) {W0 U0 K0 : Int → Int} (hq : q_day T tl S I J P d d1 W0 U0 K0 v I1 J1 P1) (hM1 : lM I1 P1 n e tl st r c T F W U K S H FU SL) (hq2 : q_mday I1 J1 P1 tl T S (f_w0 I1 85) (f_w0 I1 86) (f_w0 I1 87) v2 I2 J2 P2) : v2 = v ∧ lInv (b + 109) I2 P2 := by
  obtain ⟨hnb, he6, htb, hTb, hsb, hcb, hxb, hFk, hFb, ⟨hWb, hWb5⟩, hUb, hKb, hFUb, hGS, hHg, hSg⟩ := id hB
  obtain ⟨hK, q10, q11, hdd, hRw, ⟨hn, hst, hr, he⟩, ⟨hF, hW, hU, hKk⟩, hdf, hS, ⟨hc, hnx⟩, hring, hFU, hSL, htl, hT⟩ := id hC
  obtain ⟨mK1, mI1, mB1, mL1⟩ := hM1
  rcases hq with ⟨cn, rfl, rfl, rfl, h4, h5⟩ | ⟨cy, ehf, _, r1, e1, R1, W1, U1, K1, hps, ⟨hrb1, heb1, hRb1, hWb1, hUb1, hKb1⟩, rfl, eJ, ⟨p1, p2, p3, p4⟩, ⟨x1, x2, x3, x4, x5, x6, x7, x8, x9⟩, h3, h5, h41, hfr⟩
  · rcases hq2 with ⟨_, rfl, rfl, rfl, m1, m2⟩ | ⟨cy, _⟩
    · refine pr_rd hB rfl (lC_dft hC h4 h5) rfl (lM_fr ⟨mK1, mI1, mB1, mL1⟩ rfl (fun q hq => m1 q (by omega) (by omega)) (fun k hk => m2 k (by omega) (by omega) (by omega) (by omega) (by omega) (by omega))) (fun q hq => ⟨m1 q (by omega) (by omega), rfl⟩)
    · rw [f_flt_g (W2 := W0) (U2 := U0) (K2 := K0)] at cy
      exact absurd cy cn
  · rcases hq2 with ⟨cn, _⟩ | ⟨_, n2, e2, r2, R2, W2, U2, K2, hn2, hnb2, hps2, hRb2, he2, hrb2, rfl, eJ2, eP2, mI2, h92, m1⟩
    · rw [f_flt_g (W2 := W0) (U2 := U0) (K2 := K0)] at cn
      exact absurd cy cn
    · have hg := f_parse_g (T := T) (tl := tl) (n := zfg T tl 4) 81 5 0 0 (fun _ => 0) W0 U0 K0 (f_w0 I1 85) (f_w0 I1 86) (f_w0 I1 87) (fun z a b => absurd b (by omega))
      have hw := f_parse_W (T := T) (tl := tl) (n := zfg T tl 4) 81 5 0 0 (fun _ => 0) W0 U0 K0 (by omega) (fun z a b => absurd b (by omega))
      rw [hps, hps2] at hg
      rw [hps] at hw
      dsimp only at hg hw
      obtain ⟨_, rfl, rfl, rfl, hag⟩ := hg
      subst eP2
      have hfk := zFk_ms hRb1
      refine ⟨by rw [hn2], d1, d, n2, e2, tl, f_st T tl, r1, 0, 0, T, f_ms R1, W1, U1, K1, f_beg (f_st T tl) S, H, (fun _ => 0), SL, lC_km (I := I1) (P := P2) ⟨p1, p2, p3, by omega, ?_, ⟨by rw [← hn2]; exact x1, x2, x3, x4⟩, ⟨x5, x7, x8, x9⟩, ⟨W, U, K, z_ar_fr hW (hfr _ (by omega) (by omega) (by omega) (by omega) (by omega)), z_ar_fr hU (hfr _ (by omega) (by omega) (by omega) (by omega) (by omega)), z_ar_fr hKk (hfr _ (by omega) (by omega) (by omega) (by omega) (by omega)), hWb5, hUb, hKb⟩, h3, h5, fun i hi => absurd hi (by omega), h41, fun k k0 k1 hk => absurd (show (0 : Int) = 1 from hk) (by decide), by rw [hfr 1 (by omega) (by omega) (by omega) (by omega) (by omega)]; exact htl, z_ar_fr hT (hfr _ (by omega) (by omega) (by omega) (by omega) (by omega))⟩ (fun q hq => ⟨m1 q hq, rfl⟩), ⟨mK1, ?_, fun i z hi _ _ => absurd hi (by omega), ⟨h92, fun k z _ _ hk _ _ => absurd (show (0 : Int) = 1 from hk) (by decide)⟩⟩, hnb2, he2, htb, hTb, ?_, by omega, by omega, hfk, x6, ⟨?_, hWb1⟩, hUb1, hKb1, fun z a b => ⟨Int.le_refl 0, (by decide : (0 : Int) ≤ 1)⟩, ?_, fun i hi => absurd hi (by omega), fun k k0 k1 hk => absurd (show (0 : Int) = 1 from hk) (by decide)⟩
      · obtain ⟨a_, b_, hr_⟩ := hRw
        exact ⟨a_, b_, zRw_fr hr_ (p4 59 (by omega))⟩
      · obtain ⟨i0, zT, zF, zW, zU, zK, zA, zN⟩ := mI2
        exact ⟨i0, zT, zF, z_ar_eq zW (fun z a b => ((hag z a b).1).symm), z_ar_eq zU (fun z a b => ((hag z a b).2.1).symm), z_ar_eq zK (fun z a b => ((hag z a b).2.2).symm), zA, zN⟩
      · exact f_st_b ehf
      · rw [← hn2]; exact hw
      · obtain ⟨dn, dh, hg, hg2⟩ := hGS
        obtain ⟨g0, g1, g2, g3, g4, g5, g6, g7, g8⟩ := hg
        have hs := f_st_b ehf
        have b0 : f_beg (f_st T tl) S 0 = 0 := rfl
        have b1 : f_beg (f_st T tl) S 1 = 0 := rfl
        have b2 : f_beg (f_st T tl) S 2 = f_st T tl := rfl
        have b5 : f_beg (f_st T tl) S 5 = 0 := rfl
        refine ⟨0, 0, ⟨by omega, by omega, by omega, rfl, by omega, rfl, by omega, by omega, fun z a b => ?_⟩, by omega⟩
        unfold f_beg; rw [if_neg (by omega), if_neg (by omega)]; exact g8 z a b
