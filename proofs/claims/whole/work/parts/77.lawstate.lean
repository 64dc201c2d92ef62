/-! THE LAW: what stands between its calls, on both sides -/
def zGd (n : Nat) (b : Int) (S : Int → Int) : Prop := ∃ dn dh : Nat, cG n S dn dh ∧ S 2 ≤ b
/-- the class's object -/
def lC (I : zI) (P : zP) (d d1 n e : Nat) (tl st r c nx : Int) (T F W U K S : Int → Int) (H : Nat → Int → Int) (FU : Int → Int) (SL : Int → Int → Int) : Prop :=
  cK P ∧ P 0 10 = some d ∧ P 0 11 = some d1 ∧ ((d = 66 ∧ d1 = 72) ∨ (d = 72 ∧ d1 = 66)) ∧ (∃ a b, zRw P a b) ∧ (I d 0 = iI (n : Int) ∧ I d 1 = iI st ∧ I d 2 = iI r ∧ I d 3 = iI (e : Int)) ∧ (z_ar I (d + 2) 36 F ∧ z_ar I (d + 3) 6 W ∧ z_ar I (d + 4) 6 U ∧ z_ar I (d + 5) 6 K) ∧ q_dft I d1 ∧ cSt I 3 S ∧ (I 5 1 = iI c ∧ I 5 2 = iI nx) ∧ (∀ i : Nat, (i : Int) < c → cSt I (7 + 2 * ((nx - 1 - (i : Int)) % 16).toNat) (H i)) ∧ z_ar I 41 2 FU ∧ (∀ k : Int, 0 ≤ k → k < 2 → FU k = 1 → cSt I (42 + 2 * k.toNat) (SL k)) ∧ I 1 1 = iI tl ∧ z_ar I 2 80 T
/-- the other one's -/
def lM (I : zI) (P : zP) (n e : Nat) (tl st r c : Int) (T F W U K S : Int → Int) (H : Nat → Int → Int) (FU : Int → Int) (SL : Int → Int → Int) : Prop := mK P ∧ mI I tl st r c n e T F W U K S ∧ mB I c H ∧ mL I FU SL
/-- what is within bounds -/
def lB (b : Int) (n e : Nat) (tl st c nx : Int) (T F W U K S : Int → Int) (H : Nat → Int → Int) (FU : Int → Int) (SL : Int → Int → Int) : Prop :=
  (2 ≤ n ∧ n ≤ 6) ∧ e ≤ 6 ∧ (0 ≤ tl ∧ tl ≤ 80) ∧ z_bd T 80 0 255 ∧ (0 ≤ st ∧ st ≤ 999) ∧ (0 ≤ c ∧ c ≤ 16) ∧ (0 ≤ nx ∧ nx < 16) ∧ zFk F ∧ z_bd F 36 0 1000000 ∧ (z_bd W e 0 (n - 1) ∧ z_bd W 6 0 5) ∧ z_bd U 6 0 9 ∧ z_bd K 6 0 2 ∧ z_bd FU 2 0 1 ∧ zGd n b S ∧ (∀ i : Nat, (i : Int) < c → zGd n b (H i)) ∧ ∀ k : Int, 0 ≤ k → k < 2 → FU k = 1 → zGd n b (SL k)
def lInv (b : Int) (I : zI) (P : zP) : Prop := ∃ (d d1 n e : Nat) (tl st r c nx : Int) (T F W U K S : Int → Int) (H : Nat → Int → Int) (FU : Int → Int) (SL : Int → Int → Int), lC I P d d1 n e tl st r c nx T F W U K S H FU SL ∧ lM I P n e tl st r c T F W U K S H FU SL ∧ lB b n e tl st c nx T F W U K S H FU SL
theorem cK_fr2 {P P1 : zP} (h : cK P) (h0 : ∀ k, k < 10 → P1 0 k = P 0 k) (hq : ∀ q, q < 78 → q ≠ 0 → q ≠ 58 → q ≠ 59 → P1 q = P q) : cK P1 := by
  obtain ⟨q0, q1, q2, q3, q4, q5, q6, q7, q8, q9, p1, h3, hA, hL, hTa, hTb, hTc, hPn, hGs, hD66, hD72⟩ := h
  refine ⟨(h0 _ (by omega)).trans q0, (h0 _ (by omega)).trans q1, (h0 _ (by omega)).trans q2, (h0 _ (by omega)).trans q3, (h0 _ (by omega)).trans q4, (h0 _ (by omega)).trans q5, (h0 _ (by omega)).trans q6, (h0 _ (by omega)).trans q7, (h0 _ (by omega)).trans q8, (h0 _ (by omega)).trans q9, ?_, zStn_fr h3 (hq _ (by omega) (by omega) (by omega) (by omega)), ?_, ?_, zTr_fr hTa (hq _ (by omega) (by omega) (by omega) (by omega)), zTr_fr hTb (hq _ (by omega) (by omega) (by omega) (by omega)), zTr_fr hTc (hq _ (by omega) (by omega) (by omega) (by omega)), ?_, ?_, zDay_fr hD66 (hq _ (by omega) (by omega) (by omega) (by omega)), zDay_fr hD72 (hq _ (by omega) (by omega) (by omega) (by omega))⟩
  · rw [hq _ (by omega) (by omega) (by omega) (by omega)]; exact p1
  · refine ⟨?_, fun z a b => ?_, fun z a b => zStn_fr (hA.2.2 z a b) (hq _ (by omega) (by omega) (by omega) (by omega))⟩
    · rw [hq _ (by omega) (by omega) (by omega) (by omega)]; exact hA.1
    · rw [hq _ (by omega) (by omega) (by omega) (by omega)]; exact hA.2.1 z a b
  · refine ⟨?_, ?_, fun z a b => ?_, fun z a b => zStn_fr (hL.2.2.2 z a b) (hq _ (by omega) (by omega) (by omega) (by omega))⟩
    · rw [hq _ (by omega) (by omega) (by omega) (by omega)]; exact hL.1
    · rw [hq _ (by omega) (by omega) (by omega) (by omega)]; exact hL.2.1
    · rw [hq _ (by omega) (by omega) (by omega) (by omega)]; exact hL.2.2.1 z a b
  · unfold zPn at *; rw [hq _ (by omega) (by omega) (by omega) (by omega)]; exact hPn
  · unfold zGs at *; rw [hq _ (by omega) (by omega) (by omega) (by omega)]; exact hGs
theorem lC_fr {I I1 : zI} {P P1 : zP} {d d1 n e : Nat} {tl st r c nx : Int} {T F W U K S : Int → Int} {H : Nat → Int → Int} {FU : Int → Int} {SL : Int → Int → Int} (h : lC I P d d1 n e tl st r c nx T F W U K S H FU SL) (h0 : P1 0 = P 0) (hP : ∀ q, q < 78 → q ≠ 58 → q ≠ 59 → P1 q = P q) (hR : ∃ a b, zRw P1 a b) (hq : ∀ q, (0 < q ∧ q < 46) ∨ (65 < q ∧ q < 78) → I1 q = I q) : lC I1 P1 d d1 n e tl st r c nx T F W U K S H FU SL := by
  obtain ⟨a1, a2, a3, a4, a5, ⟨b1, b2, b3, b4⟩, ⟨b5, b6, b7, b8⟩, ⟨W0, U0, K0, w1, w2, w3, w4, w5, w6⟩, a6, ⟨c1, c2⟩, a7, a8, a9, a10, a11⟩ := h
  have hd : ∀ k, k < 6 → I1 (d + k) = I (d + k) := fun k hk => hq _ (by omega)
  have hd0 : I1 d = I d := hd 0 (by omega)
  have hd1 : ∀ k, k < 6 → I1 (d1 + k) = I (d1 + k) := fun k hk => hq _ (by omega)
  refine ⟨cK_fr2 a1 (fun k _ => by rw [h0]) (fun q hq78 _ h58 h59 => hP q hq78 h58 h59), by rw [h0]; exact a2, by rw [h0]; exact a3, a4, hR, ⟨by rw [hd0]; exact b1, by rw [hd0]; exact b2, by rw [hd0]; exact b3, by rw [hd0]; exact b4⟩, ⟨z_ar_fr b5 (hd 2 (by omega)), z_ar_fr b6 (hd 3 (by omega)), z_ar_fr b7 (hd 4 (by omega)), z_ar_fr b8 (hd 5 (by omega))⟩, ⟨W0, U0, K0, z_ar_fr w1 (hd1 3 (by omega)), z_ar_fr w2 (hd1 4 (by omega)), z_ar_fr w3 (hd1 5 (by omega)), w4, w5, w6⟩, cSt_fr a6 (hq _ (by omega)) (hq _ (by omega)), ⟨by rw [hq 5 (by omega)]; exact c1, by rw [hq 5 (by omega)]; exact c2⟩, fun i hi => cSt_fr (a7 i hi) (hq _ (by omega)) (hq _ (by omega)), z_ar_fr a8 (hq _ (by omega)), fun k k0 k1 hk => cSt_fr (a9 k k0 k1 hk) (hq _ (by omega)) (hq _ (by omega)), by rw [hq 1 (by omega)]; exact a10, z_ar_fr a11 (hq _ (by omega))⟩
theorem lM_fr {I I1 : zI} {P P1 : zP} {n e : Nat} {tl st r c : Int} {T F W U K S : Int → Int} {H : Nat → Int → Int} {FU : Int → Int} {SL : Int → Int → Int} (h : lM I P n e tl st r c T F W U K S H FU SL) (hP : P1 78 = P 78) (hq : ∀ q, (79 ≤ q ∧ q ≤ 83) ∨ (88 ≤ q ∧ q ≤ 92) → I1 q = I q) (hk : ∀ k, k = 2 ∨ (4 ≤ k ∧ k ≤ 6) ∨ k = 8 ∨ (21 ≤ k ∧ k ≤ 24) ∨ k = 27 → I1 78 k = I 78 k) : lM I1 P1 n e tl st r c T F W U K S H FU SL := by
  obtain ⟨a1, a2, a3, a4⟩ := h
  refine ⟨by unfold mK at *; rw [hP]; exact a1, mI_fr3 a2 (fun q h => hq q (by omega)) hk, mB_fr a3 (hq _ (by omega)), mL_fr a4 (hq _ (by omega)) (hq _ (by omega))⟩
/-- a call of the class leaves the other one alone, and back -/
def lKp (I : zI) (P : zP) (I1 : zI) (P1 : zP) : Prop := ∀ q, 78 ≤ q → I1 q = I q ∧ P1 q = P q
def lKm (I : zI) (P : zP) (I1 : zI) (P1 : zP) : Prop := ∀ q, q < 78 → I1 q = I q ∧ P1 q = P q
theorem lM_kp {I I1 : zI} {P P1 : zP} {n e : Nat} {tl st r c : Int} {T F W U K S : Int → Int} {H : Nat → Int → Int} {FU : Int → Int} {SL : Int → Int → Int} (h : lM I P n e tl st r c T F W U K S H FU SL) (k : lKp I P I1 P1) : lM I1 P1 n e tl st r c T F W U K S H FU SL :=
  lM_fr h (k 78 (by omega)).2 (fun q hq => (k q (by omega)).1) (fun j _ => by rw [(k 78 (by omega)).1])
theorem zRw_fr {P P1 : zP} {a b : Nat} (h : zRw P a b) (e : P1 59 = P 59) : zRw P1 a b := by
  unfold zRw at *; rw [e]; exact h
theorem lC_km {I I1 : zI} {P P1 : zP} {d d1 n e : Nat} {tl st r c nx : Int} {T F W U K S : Int → Int} {H : Nat → Int → Int} {FU : Int → Int} {SL : Int → Int → Int} (h : lC I P d d1 n e tl st r c nx T F W U K S H FU SL) (k : lKm I P I1 P1) : lC I1 P1 d d1 n e tl st r c nx T F W U K S H FU SL := by
  obtain ⟨a, b, hr⟩ := h.2.2.2.2.1
  exact lC_fr h (k 0 (by omega)).2 (fun q hq _ _ => (k q hq).2) ⟨a, b, zRw_fr hr (k 59 (by omega)).2⟩ (fun q hq => (k q (by omega)).1)
theorem zGd_le {n : Nat} {b b2 : Int} {S : Int → Int} (h : zGd n b S) (hb : b ≤ b2) : zGd n b2 S := by
  obtain ⟨dn, dh, h1, h2⟩ := h
  exact ⟨dn, dh, h1, by omega⟩
theorem lB_le {b b2 : Int} {n e : Nat} {tl st c nx : Int} {T F W U K S : Int → Int} {H : Nat → Int → Int} {FU : Int → Int} {SL : Int → Int → Int} (h : lB b n e tl st c nx T F W U K S H FU SL) (hb : b ≤ b2) : lB b2 n e tl st c nx T F W U K S H FU SL := by
  obtain ⟨a1, a2, a3, a4, a5, a6, a7, a8, a9, a10, a11, a12, a13, a14, a15, a16⟩ := h
  exact ⟨a1, a2, a3, a4, a5, a6, a7, a8, a9, a10, a11, a12, a13, zGd_le a14 hb, fun i hi => zGd_le (a15 i hi) hb, fun k k0 k1 hk => zGd_le (a16 k k0 k1 hk) hb⟩
