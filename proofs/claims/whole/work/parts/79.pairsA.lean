/-! THE LAW: what each pair of calls leaves: the same answer, the same state -/
theorem sh_ite2 {c : Prop} [Decidable c] {p q p2 q2 X : Prop} (h : if c then p else q) (h2 : if c then p2 else q2) (hp : c → p → p2 → X) (hq : ¬ c → q → q2 → X) : X := by
  by_cases hc : c
  · rw [if_pos hc] at h h2; exact hp hc h h2
  · rw [if_neg hc] at h h2; exact hq hc h h2
theorem f_wc_0 {n : Nat} {F : Int → Int} {a b : Int} (hF : z_bd F 36 0 1000000) (hn : n ≤ 6) : 0 ≤ f_wc n F a b := by
  unfold f_wc
  split
  · omega
  · split
    · exact (hF _ (by omega) (by omega)).1
    · omega
theorem zGd_walk {n dn dh : Nat} {b w x t : Int} {S : Int → Int} (hg : cG n S dn dh) (hb : S 2 ≤ b) (hw : 0 ≤ w ∧ w < 2) (hx : 0 ≤ x ∧ x < n) (ht : 0 ≤ t ∧ t ≤ S 2) : zGd n (b + 109) (zup (zup S w x) 2 (S 2 - t)) := by
  obtain ⟨g0, g1, g2, g3, g4, g5, g6, g7, g8⟩ := hg
  refine ⟨dn, dh, ⟨?_, ?_, ?_, ?_, g4, ?_, g6, ?_, fun z h0 h1 => ?_⟩, ?_⟩
  case refine_7 => have := g8 z h0 h1; simp only [zup]; rw [if_neg (by omega), if_neg (by omega)]; exact this
  all_goals (simp only [zup]; (repeat' split) <;> omega)
theorem zGd_carry {n dn dh : Nat} {b x t : Int} {S : Int → Int} (hg : cG n S dn dh) (hb : S 2 ≤ b) (hx : 0 ≤ x ∧ x < n) (ht : 0 ≤ t ∧ t ≤ S 2) : zGd n (b + 109) (zup (zup (zup S 0 x) 1 x) 2 (S 2 - t)) := by
  obtain ⟨g0, g1, g2, g3, g4, g5, g6, g7, g8⟩ := hg
  refine ⟨dn, dh, ⟨?_, ?_, ?_, ?_, g4, ?_, g6, ?_, fun z h0 h1 => ?_⟩, ?_⟩
  case refine_7 => have := g8 z h0 h1; simp only [zup]; rw [if_neg (by omega), if_neg (by omega), if_neg (by omega)]; exact this
  all_goals (simp only [zup]; (repeat' split) <;> omega)
theorem zGd_done {n dn dh k : Nat} {b w : Int} {S : Int → Int} (hg : cG n S dn dh) (hb : S 2 ≤ b) (hk : k < 6) : zGd n (b + 109) (zup (zup S 3 ((dn ||| 2 ^ k : Nat) : Int)) 4 (if w = 1 then ((dh ||| 2 ^ k : Nat) : Int) else dh)) := by
  obtain ⟨g0, g1, g2, g3, g4, g5, g6, g7, g8⟩ := hg
  have p1 := z_or_lt g4 (z_pw hk)
  have p2 := z_or_lt g6 (z_pw hk)
  by_cases hw : w = 1
  · rw [if_pos hw]
    refine ⟨dn ||| 2 ^ k, dh ||| 2 ^ k, ⟨?_, ?_, ?_, (by rw [zup_n (by omega), zup_s]), p1, zup_s .., p2, ?_, fun z h0 h1 => ?_⟩, ?_⟩
    case refine_5 => have := g8 z h0 h1; simp only [zup]; rw [if_neg (by omega), if_neg (by omega)]; exact this
    all_goals (simp only [zup]; (repeat' split) <;> omega)
  · rw [if_neg hw]
    refine ⟨dn ||| 2 ^ k, dh, ⟨?_, ?_, ?_, (by rw [zup_n (by omega), zup_s]), p1, zup_s .., g6, ?_, fun z h0 h1 => ?_⟩, ?_⟩
    case refine_5 => have := g8 z h0 h1; simp only [zup]; rw [if_neg (by omega), if_neg (by omega)]; exact this
    all_goals (simp only [zup]; (repeat' split) <;> omega)
theorem zGd_loan {n dn dh : Nat} {b y : Int} {S : Int → Int} (hg : cG n S dn dh) (hb : S 2 ≤ b) (h9 : b + 109 ≤ 90000) (h5 : ¬ 8 ≤ S 5) (hy : -99 ≤ y ∧ y ≤ 99) (hl : 0 ≤ S 2 - y) : zGd n (b + 109) (zup (zup (zup S (6 + S 5) y) 5 (S 5 + 1)) 2 (S 2 - y)) := by
  obtain ⟨g0, g1, g2, g3, g4, g5, g6, g7, g8⟩ := hg
  refine ⟨dn, dh, ⟨?_, ?_, ?_, ?_, g4, ?_, g6, ?_, fun z h0 h1 => ?_⟩, ?_⟩
  case refine_7 => have := g8 z h0 h1; simp only [zup]; rw [if_neg (by omega), if_neg (by omega)]; split <;> omega
  all_goals (simp only [zup]; (repeat' split) <;> omega)
theorem zGd_back {n dn dh : Nat} {b : Int} {S : Int → Int} (hg : cG n S dn dh) (hb : S 2 ≤ b) (h9 : b + 109 ≤ 90000) (h5 : ¬ (S 5 < 1 ∨ S 2 + zowed (S 6) < 0)) : zGd n (b + 109) (f_gb S) := by
  obtain ⟨g0, g1, g2, g3, g4, g5, g6, g7, g8⟩ := hg
  have k0 := g8 0 (by omega) (by omega)
  have hz : zowed (S 6) ≤ 109 := by
    have k0 : -99 ≤ S 6 ∧ S 6 ≤ 99 := k0
    unfold zowed zow
    (repeat' split) <;> omega
  refine ⟨dn, dh, ⟨?_, ?_, ?_, ?_, g4, ?_, g6, ?_, fun z h0 h1 => ?_⟩, ?_⟩
  case refine_7 =>
    unfold f_gb
    rw [if_neg (by omega), if_neg (by omega)]
    split
    · have := g8 (z + 1) (by omega) (by omega)
      rw [show 6 + z + 1 = 6 + (z + 1) by omega]
      exact this
    · exact g8 z h0 h1
  all_goals (unfold f_gb; (repeat' split) <;> omega)

theorem pr_txt {b : Int} {I I1 I2 : zI} {J J1 J2 : zJ} {P P1 P2 : zP} {v v2 : Option Value} {d d1 n e : Nat} {tl st r c nx : Int} {T F W U K S : Int → Int} {H : Nat → Int → Int} {FU : Int → Int} {SL : Int → Int → Int} (hC : lC I P d d1 n e tl st r c nx T F W U K S H FU SL) (hB : lB b n e tl st c nx T F W U K S H FU SL) (hM1 : lM I1 P1 n e tl st r c T F W U K S H FU SL) {tl2 a : Int} {T2 : Int → Int} (ht : 0 ≤ tl2 ∧ tl2 ≤ 80) (hq : q_txt I J P tl2 T2 a v I1 J1 P1) (hq2 : q_mtx I1 J1 P1 tl2 T2 a v2 I2 J2 P2) : v2 = v ∧ lInv (b + 109) I2 P2 := by
  obtain ⟨rfl, rfl, rfl, h1, h2, h3, h4⟩ := hq
  obtain ⟨rfl, rfl, rfl, k1, k2, k3, k4⟩ := hq2
  obtain ⟨hK, q10, q11, hdd, hRw, ⟨hn, hst, hr, he⟩, ⟨hF, hW, hU, hKk⟩, ⟨W0, U0, K0, w1, w2, w3, w4, w5, w6⟩, hS, ⟨hc, hnx⟩, hring, hFU, hSL, htl, hT⟩ := hC
  obtain ⟨mK1, ⟨⟨i2, i4, i5, i6, i8, i21, i22, i23, i24, i27⟩, zT, zF, zW, zU, zK, zA, zN⟩, mB1, mL1⟩ := hM1
  obtain ⟨a1, a2, a3, a4, a5, a6, a7, a8, a9, a10, a11, a12, a13, a14, a15, a16⟩ := lB_le hB (show b ≤ b + 109 by omega)
  have hd : ∀ k, k < 6 → I1 (d + k) = I (d + k) := fun k hk => h4 _ (by omega) (by omega)
  have hd0 : I1 d = I d := hd 0 (by omega)
  have hd1 : ∀ k, k < 6 → I1 (d1 + k) = I (d1 + k) := fun k hk => h4 _ (by omega) (by omega)
  have hC1 : lC I1 _ d d1 n e tl2 st r c nx T2 F W U K S H FU SL := ⟨hK, q10, q11, hdd, hRw, ⟨by rw [hd0]; exact hn, by rw [hd0]; exact hst, by rw [hd0]; exact hr, by rw [hd0]; exact he⟩, ⟨z_ar_fr hF (hd 2 (by omega)), z_ar_fr hW (hd 3 (by omega)), z_ar_fr hU (hd 4 (by omega)), z_ar_fr hKk (hd 5 (by omega))⟩, ⟨W0, U0, K0, z_ar_fr w1 (hd1 3 (by omega)), z_ar_fr w2 (hd1 4 (by omega)), z_ar_fr w3 (hd1 5 (by omega)), w4, w5, w6⟩, cSt_fr hS (h4 _ (by omega) (by omega)) (h4 _ (by omega) (by omega)), ⟨by rw [h4 5 (by omega) (by omega)]; exact hc, by rw [h4 5 (by omega) (by omega)]; exact hnx⟩, fun i hi => cSt_fr (hring i hi) (h4 _ (by omega) (by omega)) (h4 _ (by omega) (by omega)), z_ar_fr hFU (h4 _ (by omega) (by omega)), fun k k0 k1 hk => cSt_fr (hSL k k0 k1 hk) (h4 _ (by omega) (by omega)) (h4 _ (by omega) (by omega)), h1, h2⟩
  exact ⟨rfl, d, d1, n, e, tl2, st, r, c, nx, T2, F, W, U, K, S, H, FU, SL, lC_km hC1 (fun q hq => ⟨k3 q (by omega) (by omega), rfl⟩), ⟨mK1, ⟨⟨k1, (k4 _ (by omega) (by omega)).trans i4, (k4 _ (by omega) (by omega)).trans i5, (k4 _ (by omega) (by omega)).trans i6, (k4 _ (by omega) (by omega)).trans i8, (k4 _ (by omega) (by omega)).trans i21, (k4 _ (by omega) (by omega)).trans i22, (k4 _ (by omega) (by omega)).trans i23, (k4 _ (by omega) (by omega)).trans i24, (k4 _ (by omega) (by omega)).trans i27⟩, k2, z_ar_fr zF (k3 _ (by omega) (by omega)), z_ar_fr zW (k3 _ (by omega) (by omega)), z_ar_fr zU (k3 _ (by omega) (by omega)), z_ar_fr zK (k3 _ (by omega) (by omega)), z_ar_fr zA (k3 _ (by omega) (by omega)), z_ar_fr zN (k3 _ (by omega) (by omega))⟩, mB_fr mB1 (k3 _ (by omega) (by omega)), mL_fr mL1 (k3 _ (by omega) (by omega)) (k3 _ (by omega) (by omega))⟩, a1, a2, ht, h3, a5, a6, a7, a8, a9, a10, a11, a12, a13, a14, a15, a16⟩
theorem pr_write {b : Int} (hb : 999 ≤ b ∧ b + 109 ≤ 90000) {I I1 I2 : zI} {J J1 J2 : zJ} {P P1 P2 : zP} {v v2 : Option Value} {d d1 n e : Nat} {tl st r c nx : Int} {T F W U K S : Int → Int} {H : Nat → Int → Int} {FU : Int → Int} {SL : Int → Int → Int} (hC : lC I P d d1 n e tl st r c nx T F W U K S H FU SL) (hB : lB b n e tl st c nx T F W U K S H FU SL) {m : Int} {x : Int64} (hq : if m < 1 ∨ 8 < m then q_no I J P (-2) v I1 J1 P1 else if 80 < tl + m then q_no I J P (-4) v I1 J1 P1 else q_txt I J P (tl + m) (zit (f_app x m tl) m.toNat T) (tl + m) v I1 J1 P1) (hM1 : lM I1 P1 n e tl st r c T F W U K S H FU SL) (hq2 : if m < 1 ∨ 8 < m then q_mno I1 J1 P1 (-2) v2 I2 J2 P2 else if 80 < tl + m then q_mno I1 J1 P1 (-4) v2 I2 J2 P2 else q_mtx I1 J1 P1 (tl + m) (zit (f_app x m tl) m.toNat T) (tl + m) v2 I2 J2 P2) : v2 = v ∧ lInv (b + 109) I2 P2 := by
  refine sh_ite2 hq hq2 (fun _ hq hq2 => pr_no hC hB hM1 hq hq2) (fun c1 hq hq2 => ?_)
  refine sh_ite2 hq hq2 (fun _ hq hq2 => pr_no hC hB hM1 hq hq2) (fun c2 hq hq2 => ?_)
  have htb := hB.2.2.1
  exact pr_txt hC hB hM1 (by omega) hq hq2
theorem pr_wipe {b : Int} (hb : 999 ≤ b ∧ b + 109 ≤ 90000) {I I1 I2 : zI} {J J1 J2 : zJ} {P P1 P2 : zP} {v v2 : Option Value} {d d1 n e : Nat} {tl st r c nx : Int} {T F W U K S : Int → Int} {H : Nat → Int → Int} {FU : Int → Int} {SL : Int → Int → Int} (hC : lC I P d d1 n e tl st r c nx T F W U K S H FU SL) (hB : lB b n e tl st c nx T F W U K S H FU SL)  (hq : q_txt I J P 0 T tl v I1 J1 P1) (hM1 : lM I1 P1 n e tl st r c T F W U K S H FU SL) (hq2 : q_mtx I1 J1 P1 0 T tl v2 I2 J2 P2) : v2 = v ∧ lInv (b + 109) I2 P2 := by
  exact pr_txt hC hB hM1 (by omega) hq hq2
theorem pr_walk {b : Int} (hb : 999 ≤ b ∧ b + 109 ≤ 90000) {I I1 I2 : zI} {J J1 J2 : zJ} {P P1 P2 : zP} {v v2 : Option Value} {d d1 n e : Nat} {tl st r c nx : Int} {T F W U K S : Int → Int} {H : Nat → Int → Int} {FU : Int → Int} {SL : Int → Int → Int} (hC : lC I P d d1 n e tl st r c nx T F W U K S H FU SL) (hB : lB b n e tl st c nx T F W U K S H FU SL) {dn dh : Nat} (hg : cG n S dn dh) (hS2 : S 2 ≤ b) {w x : Int} (hq : if ¬ ((0 ≤ w ∧ w < 2) ∧ (0 ≤ x ∧ x < n)) then q_no I J P (-1) v I1 J1 P1 else if S 2 < f_wc n F (zpw S w) x then q_no I J P (-3) v I1 J1 P1 else q_act I J P c nx S (zup (zup S w x) 2 (S 2 - f_wc n F (zpw S w) x)) (S 2 - f_wc n F (zpw S w) x) v I1 J1 P1) (hM1 : lM I1 P1 n e tl st r c T F W U K S H FU SL) (hq2 : if ¬ ((0 ≤ w ∧ w < 2) ∧ (0 ≤ x ∧ x < n)) then q_mno I1 J1 P1 (-1) v2 I2 J2 P2 else if S 2 < f_wc n F (zpw S w) x then q_mno I1 J1 P1 (-3) v2 I2 J2 P2 else q_mact I1 J1 P1 tl st r (f_m16 c) n e T F W U K (zup (zup S w x) 2 (S 2 - f_wc n F (zpw S w) x)) (zpush S H) (S 2 - f_wc n F (zpw S w) x) v2 I2 J2 P2) : v2 = v ∧ lInv (b + 109) I2 P2 := by
  refine sh_ite2 hq hq2 (fun _ hq hq2 => pr_no hC hB hM1 hq hq2) (fun c1 hq hq2 => ?_)
  refine sh_ite2 hq hq2 (fun _ hq hq2 => pr_no hC hB hM1 hq hq2) (fun c2 hq hq2 => ?_)
  obtain ⟨hnb, he6, htb, hTb, hsb, hcb, hxb, hFk, hFb, ⟨hWb, hWb5⟩, hUb, hKb, hFUb, hGS, hHg, hSg⟩ := id hB
  exact pr_act hC hB hM1 hq hq2 (zGd_walk hg hS2 (by omega) (by omega) ⟨f_wc_0 hFb hnb.2, by omega⟩)
theorem pr_carry {b : Int} (hb : 999 ≤ b ∧ b + 109 ≤ 90000) {I I1 I2 : zI} {J J1 J2 : zJ} {P P1 P2 : zP} {v v2 : Option Value} {d d1 n e : Nat} {tl st r c nx : Int} {T F W U K S : Int → Int} {H : Nat → Int → Int} {FU : Int → Int} {SL : Int → Int → Int} (hC : lC I P d d1 n e tl st r c nx T F W U K S H FU SL) (hB : lB b n e tl st c nx T F W U K S H FU SL) {dn dh : Nat} (hg : cG n S dn dh) (hS2 : S 2 ≤ b) {w x : Int} (hq : if ¬ ((0 ≤ w ∧ w < 2) ∧ (0 ≤ x ∧ x < n)) then q_no I J P (-1) v I1 J1 P1 else if ¬ S 0 = S 1 ∨ S 2 < 2 * f_wc n F (zpw S w) x then q_no I J P (-3) v I1 J1 P1 else q_act I J P c nx S (zup (zup (zup S 0 x) 1 x) 2 (S 2 - 2 * f_wc n F (zpw S w) x)) (S 2 - 2 * f_wc n F (zpw S w) x) v I1 J1 P1) (hM1 : lM I1 P1 n e tl st r c T F W U K S H FU SL) (hq2 : if ¬ ((0 ≤ w ∧ w < 2) ∧ (0 ≤ x ∧ x < n)) then q_mno I1 J1 P1 (-1) v2 I2 J2 P2 else if ¬ S 0 = S 1 ∨ S 2 < 2 * f_wc n F (zpw S w) x then q_mno I1 J1 P1 (-3) v2 I2 J2 P2 else q_mact I1 J1 P1 tl st r (f_m16 c) n e T F W U K (zup (zup (zup S 0 x) 1 x) 2 (S 2 - 2 * f_wc n F (zpw S w) x)) (zpush S H) (S 2 - 2 * f_wc n F (zpw S w) x) v2 I2 J2 P2) : v2 = v ∧ lInv (b + 109) I2 P2 := by
  refine sh_ite2 hq hq2 (fun _ hq hq2 => pr_no hC hB hM1 hq hq2) (fun c1 hq hq2 => ?_)
  refine sh_ite2 hq hq2 (fun _ hq hq2 => pr_no hC hB hM1 hq hq2) (fun c2 hq hq2 => ?_)
  obtain ⟨hnb, he6, htb, hTb, hsb, hcb, hxb, hFk, hFb, ⟨hWb, hWb5⟩, hUb, hKb, hFUb, hGS, hHg, hSg⟩ := id hB
  have := f_wc_0 (n := n) (F := F) (a := zpw S w) (b := x) hFb hnb.2
  exact pr_act hC hB hM1 hq hq2 (zGd_carry hg hS2 (by omega) (by omega))
theorem pr_done {b : Int} (hb : 999 ≤ b ∧ b + 109 ≤ 90000) {I I1 I2 : zI} {J J1 J2 : zJ} {P P1 P2 : zP} {v v2 : Option Value} {d d1 n e : Nat} {tl st r c nx : Int} {T F W U K S : Int → Int} {H : Nat → Int → Int} {FU : Int → Int} {SL : Int → Int → Int} (hC : lC I P d d1 n e tl st r c nx T F W U K S H FU SL) (hB : lB b n e tl st c nx T F W U K S H FU SL) {dn dh : Nat} (hg : cG n S dn dh) (hS2 : S 2 ≤ b) {w x : Int} (hq : if ¬ ((0 ≤ w ∧ w < 2) ∧ (0 ≤ x ∧ x < e)) then q_no I J P (-1) v I1 J1 P1 else if ¬ (((K x = 2 ∨ K x = w) ∧ ¬ dn.testBit x.toNat = true) ∧ zpw S w = W x) then q_no I J P (-3) v I1 J1 P1 else q_act I J P c nx S (zup (zup S 3 ((dn ||| 2 ^ x.toNat : Nat) : Int)) 4 (if w = 1 then ((dh ||| 2 ^ x.toNat : Nat) : Int) else dh)) (U x) v I1 J1 P1) (hM1 : lM I1 P1 n e tl st r c T F W U K S H FU SL) (hq2 : if ¬ ((0 ≤ w ∧ w < 2) ∧ (0 ≤ x ∧ x < e)) then q_mno I1 J1 P1 (-1) v2 I2 J2 P2 else if ¬ (((K x = 2 ∨ K x = w) ∧ ¬ dn.testBit x.toNat = true) ∧ zpw S w = W x) then q_mno I1 J1 P1 (-3) v2 I2 J2 P2 else q_mact I1 J1 P1 tl st r (f_m16 c) n e T F W U K (zup (zup S 3 ((dn ||| 2 ^ x.toNat : Nat) : Int)) 4 (if w = 1 then ((dh ||| 2 ^ x.toNat : Nat) : Int) else dh)) (zpush S H) (U x) v2 I2 J2 P2) : v2 = v ∧ lInv (b + 109) I2 P2 := by
  refine sh_ite2 hq hq2 (fun _ hq hq2 => pr_no hC hB hM1 hq hq2) (fun c1 hq hq2 => ?_)
  refine sh_ite2 hq hq2 (fun _ hq hq2 => pr_no hC hB hM1 hq hq2) (fun c2 hq hq2 => ?_)
  obtain ⟨hnb, he6, htb, hTb, hsb, hcb, hxb, hFk, hFb, ⟨hWb, hWb5⟩, hUb, hKb, hFUb, hGS, hHg, hSg⟩ := id hB
  exact pr_act hC hB hM1 hq hq2 (zGd_done hg hS2 (by omega))
theorem pr_loan {b : Int} (hb : 999 ≤ b ∧ b + 109 ≤ 90000) {I I1 I2 : zI} {J J1 J2 : zJ} {P P1 P2 : zP} {v v2 : Option Value} {d d1 n e : Nat} {tl st r c nx : Int} {T F W U K S : Int → Int} {H : Nat → Int → Int} {FU : Int → Int} {SL : Int → Int → Int} (hC : lC I P d d1 n e tl st r c nx T F W U K S H FU SL) (hB : lB b n e tl st c nx T F W U K S H FU SL) {dn dh : Nat} (hg : cG n S dn dh) (hS2 : S 2 ≤ b) {x y : Int} (hy01 : y = 0 ∨ y = 1) (hq : if x < 1 ∨ 99 < x then q_no I J P (-2) v I1 J1 P1 else if y = 0 ∧ S 2 < x then q_no I J P (-3) v I1 J1 P1 else if 8 ≤ S 5 then q_no I J P (-4) v I1 J1 P1 else q_act I J P c nx S (zup (zup (zup S (6 + S 5) (if y = 0 then x else -x)) 5 (S 5 + 1)) 2 (S 2 - (if y = 0 then x else -x))) (S 2 - (if y = 0 then x else -x)) v I1 J1 P1) (hM1 : lM I1 P1 n e tl st r c T F W U K S H FU SL) (hq2 : if x < 1 ∨ 99 < x then q_mno I1 J1 P1 (-2) v2 I2 J2 P2 else if y = 0 ∧ S 2 < x then q_mno I1 J1 P1 (-3) v2 I2 J2 P2 else if 8 ≤ S 5 then q_mno I1 J1 P1 (-4) v2 I2 J2 P2 else q_mact I1 J1 P1 tl st r (f_m16 c) n e T F W U K (zup (zup (zup S (6 + S 5) (if y = 0 then x else -x)) 5 (S 5 + 1)) 2 (S 2 - (if y = 0 then x else -x))) (zpush S H) (S 2 - (if y = 0 then x else -x)) v2 I2 J2 P2) : v2 = v ∧ lInv (b + 109) I2 P2 := by
  refine sh_ite2 hq hq2 (fun _ hq hq2 => pr_no hC hB hM1 hq hq2) (fun c1 hq hq2 => ?_)
  refine sh_ite2 hq hq2 (fun _ hq hq2 => pr_no hC hB hM1 hq hq2) (fun c2 hq hq2 => ?_)
  refine sh_ite2 hq hq2 (fun _ hq hq2 => pr_no hC hB hM1 hq hq2) (fun c3 hq hq2 => ?_)
  obtain ⟨hnb, he6, htb, hTb, hsb, hcb, hxb, hFk, hFb, ⟨hWb, hWb5⟩, hUb, hKb, hFUb, hGS, hHg, hSg⟩ := id hB
  have g2 := hg.2.2.1
  exact pr_act hC hB hM1 hq hq2 (zGd_loan hg hS2 hb.2 c3 (by split <;> omega) (by split <;> omega))
theorem pr_back {b : Int} (hb : 999 ≤ b ∧ b + 109 ≤ 90000) {I I1 I2 : zI} {J J1 J2 : zJ} {P P1 P2 : zP} {v v2 : Option Value} {d d1 n e : Nat} {tl st r c nx : Int} {T F W U K S : Int → Int} {H : Nat → Int → Int} {FU : Int → Int} {SL : Int → Int → Int} (hC : lC I P d d1 n e tl st r c nx T F W U K S H FU SL) (hB : lB b n e tl st c nx T F W U K S H FU SL) {dn dh : Nat} (hg : cG n S dn dh) (hS2 : S 2 ≤ b) (hq : if S 5 < 1 ∨ S 2 + zowed (S 6) < 0 then q_no I J P (-3) v I1 J1 P1 else q_act I J P c nx S (f_gb S) (S 2 + zowed (S 6)) v I1 J1 P1) (hM1 : lM I1 P1 n e tl st r c T F W U K S H FU SL) (hq2 : if S 5 < 1 ∨ S 2 + zowed (S 6) < 0 then q_mno I1 J1 P1 (-3) v2 I2 J2 P2 else q_mact I1 J1 P1 tl st r (f_m16 c) n e T F W U K (f_gb S) (zpush S H) (S 2 + zowed (S 6)) v2 I2 J2 P2) : v2 = v ∧ lInv (b + 109) I2 P2 := by
  refine sh_ite2 hq hq2 (fun _ hq hq2 => pr_no hC hB hM1 hq hq2) (fun c1 hq hq2 => ?_)
  exact pr_act hC hB hM1 hq hq2 (zGd_back hg hS2 hb.2 c1)
theorem pr_judge {b : Int} (hb : 999 ≤ b ∧ b + 109 ≤ 90000) {I I1 I2 : zI} {J J1 J2 : zJ} {P P1 P2 : zP} {v v2 : Option Value} {d d1 n e : Nat} {tl st r c nx : Int} {T F W U K S : Int → Int} {H : Nat → Int → Int} {FU : Int → Int} {SL : Int → Int → Int} (hC : lC I P d d1 n e tl st r c nx T F W U K S H FU SL) (hB : lB b n e tl st c nx T F W U K S H FU SL) {dn dh : Nat} (hg : cG n S dn dh) (hS2 : S 2 ≤ b) {w N x : Int} (hq : q_told I J P (f_judge n F S w N x) v I1 J1 P1) (hM1 : lM I1 P1 n e tl st r c T F W U K S H FU SL) (hq2 : q_mno I1 J1 P1 (f_judge n F S w N x) v2 I2 J2 P2) : v2 = v ∧ lInv (b + 109) I2 P2 := by
  obtain ⟨h1, h2, h3⟩ := mno_M hM1 hq2
  obtain ⟨rfl, rfl, rfl, h4⟩ := hq
  exact pr_rd hB rfl (lC_fr hC rfl (fun _ _ _ _ => rfl) hC.2.2.2.2.1 (fun q hq => h4 q (by omega))) h1 h2 h3
