/-! THE LAW: the answers' shapes; what a pair of calls leaves -/
def lSh (I : zI) (P : zP) (v : Option Value) (I1 : zI) (P1 : zP) : Prop := (∃ x : Int32, v = some (.int x)) ∧ lKp I P I1 P1
def lShL (I : zI) (P : zP) (v : Option Value) (I1 : zI) (P1 : zP) : Prop := (∃ x : Int64, v = some (.long x)) ∧ lKp I P I1 P1
theorem sh_ite {c : Prop} [Decidable c] {p q X : Prop} (h : if c then p else q) (hp : c → p → X) (hq : ¬ c → q → X) : X := by
  by_cases hc : c
  · rw [if_pos hc] at h; exact hp hc h
  · rw [if_neg hc] at h; exact hq hc h
theorem sh_no {I I1 : zI} {J J1 : zJ} {P P1 : zP} {a : Int} {v : Option Value} (h : q_no I J P a v I1 J1 P1) : lSh I P v I1 P1 := by
  obtain ⟨rfl, rfl, rfl, rfl⟩ := h; exact ⟨⟨_, rfl⟩, fun q _ => ⟨rfl, rfl⟩⟩
theorem sh_act {I I1 : zI} {J J1 : zJ} {P P1 : zP} {c nx a : Int} {S S2 : Int → Int} {v : Option Value} (hx : 0 ≤ nx ∧ nx < 16) (h : q_act I J P c nx S S2 a v I1 J1 P1) : lSh I P v I1 P1 := by
  obtain ⟨rfl, rfl, rfl, _, _, _, _, h⟩ := h
  exact ⟨⟨_, rfl⟩, fun q hq => ⟨h q (by omega) (by omega) (by omega) (by omega) (by omega), rfl⟩⟩
theorem sh_txt {I I1 : zI} {J J1 : zJ} {P P1 : zP} {tl a : Int} {T : Int → Int} {v : Option Value} (h : q_txt I J P tl T a v I1 J1 P1) : lSh I P v I1 P1 := by
  obtain ⟨rfl, rfl, rfl, _, _, _, h⟩ := h
  exact ⟨⟨_, rfl⟩, fun q hq => ⟨h q (by omega) (by omega), rfl⟩⟩
theorem sh_flt {I I1 : zI} {J J1 : zJ} {P P1 : zP} {tl : Int} {T W U K : Int → Int} {d1 : Nat} {v : Option Value} (hd : d1 ≤ 72) (h : q_flt T tl I J P d1 W U K v I1 J1 P1) : lSh I P v I1 P1 := by
  obtain ⟨rfl, rfl, rfl, _, h, _⟩ := h
  exact ⟨⟨_, rfl⟩, fun q hq => ⟨h q (by omega), rfl⟩⟩
theorem sh_day {I I1 : zI} {J J1 : zJ} {P P1 : zP} {tl : Int} {T S W U K : Int → Int} {d d1 : Nat} {v : Option Value} (hd : d1 ≤ 72) (h : q_day T tl S I J P d d1 W U K v I1 J1 P1) : lSh I P v I1 P1 := by
  rcases h with ⟨_, rfl, rfl, rfl, _, h⟩ | ⟨_, _, _, r, e, R', W', U', K', _, _, rfl, rfl, ⟨_, _, _, h2⟩, _, _, _, _, h⟩
  · exact ⟨⟨_, rfl⟩, fun q hq => ⟨h q (by omega), rfl⟩⟩
  · exact ⟨⟨_, rfl⟩, fun q hq => ⟨h q (by omega) (by omega) (by omega) (by omega) (by omega), h2 q (by omega)⟩⟩
theorem sh_undo {I I1 : zI} {J J1 : zJ} {P P1 : zP} {c nx : Int} {S2 : Int → Int} {v : Option Value} (h : q_undo I J P c nx S2 v I1 J1 P1) : lSh I P v I1 P1 := by
  obtain ⟨rfl, rfl, rfl, _, _, _, h⟩ := h
  exact ⟨⟨_, rfl⟩, fun q hq => ⟨h q (by omega) (by omega) (by omega), rfl⟩⟩
theorem sh_told {I I1 : zI} {J J1 : zJ} {P P1 : zP} {a : Int} {v : Option Value} (h : q_told I J P a v I1 J1 P1) : lSh I P v I1 P1 := by
  obtain ⟨rfl, rfl, rfl, h⟩ := h
  exact ⟨⟨_, rfl⟩, fun q hq => ⟨h q (by omega), rfl⟩⟩
theorem sh_keep {I I1 : zI} {J J1 : zJ} {P P1 : zP} {k : Int} {FU S : Int → Int} {v : Option Value} (hk : 0 ≤ k ∧ k < 2) (h : q_keep I J P k FU S v I1 J1 P1) : lSh I P v I1 P1 := by
  obtain ⟨rfl, rfl, rfl, _, _, h⟩ := h
  exact ⟨⟨_, rfl⟩, fun q hq => ⟨h q (by omega) (by omega) (by omega), rfl⟩⟩
theorem sh_again {I I1 : zI} {J J1 : zJ} {P P1 : zP} {S : Int → Int} {v : Option Value} (h : q_again I J P S v I1 J1 P1) : lSh I P v I1 P1 := by
  obtain ⟨rfl, rfl, rfl, _, _, _, h⟩ := h
  exact ⟨⟨_, rfl⟩, fun q hq => ⟨h q (by omega) (by omega) (by omega), rfl⟩⟩
theorem sh_scr {I I1 : zI} {J J1 : zJ} {P P1 : zP} {lo hi : Nat} {x : Int32} {v : Option Value} (hh : hi < 78) (h : q_scr lo hi I J P (.int x) v I1 J1 P1) : lSh I P v I1 P1 := by
  obtain ⟨rfl, rfl, rfl, h⟩ := h
  exact ⟨⟨_, rfl⟩, fun q hq => ⟨h q (by omega), rfl⟩⟩
theorem sh_btn {I I1 : zI} {J J1 : zJ} {P P1 : zP} {a : Int} {v : Option Value} (h : q_btn I J P a v I1 J1 P1) : lSh I P v I1 P1 := by
  obtain ⟨rfl, rfl, rfl, h⟩ := h
  exact ⟨⟨_, rfl⟩, fun q hq => ⟨rfl, h q (by omega)⟩⟩
theorem kp_rows {I I1 : zI} {J J1 : zJ} {P P1 : zP} {a : Value} {v : Option Value} (h : q_rows I J P a v I1 J1 P1) : lKp I P I1 P1 := by
  obtain ⟨rfl, rfl, h1, _, h⟩ := h
  exact fun q hq => ⟨h q (by omega), h1 q (by omega)⟩
theorem kp_gss {I I1 : zI} {J J1 : zJ} {P P1 : zP} {a : Value} {v : Option Value} (h : q_gss I J P a v I1 J1 P1) : lKp I P I1 P1 := by
  obtain ⟨rfl, rfl, rfl, h⟩ := h
  exact fun q hq => ⟨h q (by omega), rfl⟩
theorem li_mk {b b2 : Int} {I1 I2 : zI} {P1 P2 : zP} {d d1 n e : Nat} {tl st r c nx : Int} {T F W U K S : Int → Int} {H : Nat → Int → Int} {FU : Int → Int} {SL : Int → Int → Int} (hC1 : lC I1 P1 d d1 n e tl st r c nx T F W U K S H FU SL) (hM2 : lM I2 P2 n e tl st r c T F W U K S H FU SL) (hk : lKm I1 P1 I2 P2) (hB : lB b n e tl st c nx T F W U K S H FU SL) (hb : b ≤ b2) : lInv b2 I2 P2 :=
  ⟨d, d1, n, e, tl, st, r, c, nx, T, F, W, U, K, S, H, FU, SL, lC_km hC1 hk, hM2, lB_le hB hb⟩
theorem mno_M {I1 I2 : zI} {J1 J2 : zJ} {P1 P2 : zP} {a : Int} {v2 : Option Value} {n e : Nat} {tl st r c : Int} {T F W U K S : Int → Int} {H : Nat → Int → Int} {FU : Int → Int} {SL : Int → Int → Int} (hM1 : lM I1 P1 n e tl st r c T F W U K S H FU SL) (h : q_mno I1 J1 P1 a v2 I2 J2 P2) : v2 = some (.int (iI a)) ∧ lM I2 P2 n e tl st r c T F W U K S H FU SL ∧ lKm I1 P1 I2 P2 := by
  obtain ⟨rfl, rfl, rfl, h1, h2⟩ := h
  exact ⟨rfl, lM_fr hM1 rfl (fun q hq => h1 q (by omega)) (fun k hk => h2 k (by omega)), fun q hq => ⟨h1 q (by omega), rfl⟩⟩
theorem pr_rd {b : Int} {I1 I2 : zI} {P1 P2 : zP} {v v2 : Option Value} {d d1 n e : Nat} {tl st r c nx : Int} {T F W U K S : Int → Int} {H : Nat → Int → Int} {FU : Int → Int} {SL : Int → Int → Int} (hB : lB b n e tl st c nx T F W U K S H FU SL) {u : Value} (hv : v = some u) (hC1 : lC I1 P1 d d1 n e tl st r c nx T F W U K S H FU SL) (hv2 : v2 = some u) (hM2 : lM I2 P2 n e tl st r c T F W U K S H FU SL) (hk : lKm I1 P1 I2 P2) : v2 = v ∧ lInv (b + 109) I2 P2 :=
  ⟨by rw [hv, hv2], li_mk hC1 hM2 hk hB (by omega)⟩
theorem pr_no {b : Int} {I I1 I2 : zI} {J J1 J2 : zJ} {P P1 P2 : zP} {v v2 : Option Value} {d d1 n e : Nat} {tl st r c nx : Int} {T F W U K S : Int → Int} {H : Nat → Int → Int} {FU : Int → Int} {SL : Int → Int → Int} (hC : lC I P d d1 n e tl st r c nx T F W U K S H FU SL) (hB : lB b n e tl st c nx T F W U K S H FU SL) (hM1 : lM I1 P1 n e tl st r c T F W U K S H FU SL) {a : Int} (hq : q_no I J P a v I1 J1 P1) (hq2 : q_mno I1 J1 P1 a v2 I2 J2 P2) : v2 = v ∧ lInv (b + 109) I2 P2 := by
  obtain ⟨rfl, rfl, rfl, rfl⟩ := hq
  obtain ⟨h1, h2, h3⟩ := mno_M hM1 hq2
  exact ⟨h1, li_mk hC h2 h3 hB (by omega)⟩
/-- the ring of what stood before the acts -/
theorem lC_act {I I1 : zI} {J J1 : zJ} {P P1 : zP} {a : Int} {v : Option Value} {S2 : Int → Int} {d d1 n e : Nat} {tl st r c nx : Int} {T F W U K S : Int → Int} {H : Nat → Int → Int} {FU : Int → Int} {SL : Int → Int → Int} (hC : lC I P d d1 n e tl st r c nx T F W U K S H FU SL) (hcb : 0 ≤ c ∧ c ≤ 16) (hxb : 0 ≤ nx ∧ nx < 16) (hq : q_act I J P c nx S S2 a v I1 J1 P1) : lC I1 P1 d d1 n e tl st r (f_m16 c) ((nx + 1) % 16) T F W U K S2 (zpush S H) FU SL := by
  obtain ⟨rfl, rfl, rfl, h1, h2, h3, h4, h5⟩ := hq
  obtain ⟨a1, a2, a3, a4, a5, ⟨b1, b2, b3, b4⟩, ⟨b5, b6, b7, b8⟩, ⟨W0, U0, K0, w1, w2, w3, w4, w5, w6⟩, a6, ⟨c1, c2⟩, a7, a8, a9, a10, a11⟩ := hC
  have hd : ∀ k, k < 6 → I1 (d + k) = I (d + k) := fun k hk => h5 _ (by omega) (by omega) (by omega) (by omega) (by omega)
  have hd0 : I1 d = I d := hd 0 (by omega)
  have hd1 : ∀ k, k < 6 → I1 (d1 + k) = I (d1 + k) := fun k hk => h5 _ (by omega) (by omega) (by omega) (by omega) (by omega)
  refine ⟨a1, a2, a3, a4, a5, ⟨by rw [hd0]; exact b1, by rw [hd0]; exact b2, by rw [hd0]; exact b3, by rw [hd0]; exact b4⟩, ⟨z_ar_fr b5 (hd 2 (by omega)), z_ar_fr b6 (hd 3 (by omega)), z_ar_fr b7 (hd 4 (by omega)), z_ar_fr b8 (hd 5 (by omega))⟩, ⟨W0, U0, K0, z_ar_fr w1 (hd1 3 (by omega)), z_ar_fr w2 (hd1 4 (by omega)), z_ar_fr w3 (hd1 5 (by omega)), w4, w5, w6⟩, h4, ⟨h1, h2⟩, fun i hi => ?_, z_ar_fr a8 (h5 _ (by omega) (by omega) (by omega) (by omega) (by omega)), fun k k0 k1 hk => cSt_fr (a9 k k0 k1 hk) (h5 _ (by omega) (by omega) (by omega) (by omega) (by omega)) (h5 _ (by omega) (by omega) (by omega) (by omega) (by omega)), by rw [h5 1 (by omega) (by omega) (by omega) (by omega) (by omega)]; exact a10, z_ar_fr a11 (h5 _ (by omega) (by omega) (by omega) (by omega) (by omega))⟩
  unfold f_m16 at hi
  cases i with
  | zero =>
    have e1 : (((nx + 1) % 16 - 1 - ((0 : Nat) : Int)) % 16).toNat = nx.toNat := by omega
    rw [e1]; exact h3
  | succ i =>
    have e1 : (((nx + 1) % 16 - 1 - ((i + 1 : Nat) : Int)) % 16).toNat = ((nx - 1 - (i : Int)) % 16).toNat := by omega
    have hi2 : (i : Int) < c ∧ i < 15 := by split at hi <;> omega
    rw [e1]
    exact cSt_fr (a7 i hi2.1) (h5 _ (by omega) (by omega) (by omega) (by omega) (by omega)) (h5 _ (by omega) (by omega) (by omega) (by omega) (by omega))
theorem lB_act {b : Int} {S2 : Int → Int} {n e : Nat} {tl st c nx : Int} {T F W U K S : Int → Int} {H : Nat → Int → Int} {FU : Int → Int} {SL : Int → Int → Int} (hB : lB b n e tl st c nx T F W U K S H FU SL) (h : zGd n (b + 109) S2) : lB (b + 109) n e tl st (f_m16 c) ((nx + 1) % 16) T F W U K S2 (zpush S H) FU SL := by
  obtain ⟨a1, a2, a3, a4, a5, a6, a7, a8, a9, a10, a11, a12, a13, a14, a15, a16⟩ := lB_le hB (show b ≤ b + 109 by omega)
  refine ⟨a1, a2, a3, a4, a5, by unfold f_m16; split <;> omega, by omega, a8, a9, a10, a11, a12, a13, h, fun i hi => ?_, a16⟩
  cases i with
  | zero => exact a14
  | succ i => exact a15 i (by unfold f_m16 at hi; split at hi <;> omega)
theorem pr_act {b : Int} {I I1 I2 : zI} {J J1 J2 : zJ} {P P1 P2 : zP} {v v2 : Option Value} {d d1 n e : Nat} {tl st r c nx : Int} {T F W U K S : Int → Int} {H : Nat → Int → Int} {FU : Int → Int} {SL : Int → Int → Int} (hC : lC I P d d1 n e tl st r c nx T F W U K S H FU SL) (hB : lB b n e tl st c nx T F W U K S H FU SL) (hM1 : lM I1 P1 n e tl st r c T F W U K S H FU SL) {a : Int} {S2 : Int → Int} (hq : q_act I J P c nx S S2 a v I1 J1 P1) (hq2 : q_mact I1 J1 P1 tl st r (f_m16 c) n e T F W U K S2 (zpush S H) a v2 I2 J2 P2) (hS2 : zGd n (b + 109) S2) : v2 = v ∧ lInv (b + 109) I2 P2 := by
  have hC1 := lC_act hC hB.2.2.2.2.2.1 hB.2.2.2.2.2.2.1 hq
  obtain ⟨rfl, rfl, rfl, h1, h2, h3, h4⟩ := hq2
  obtain ⟨rfl, _⟩ := hq
  exact ⟨rfl, d, d1, n, e, tl, st, r, f_m16 c, (nx + 1) % 16, T, F, W, U, K, S2, zpush S H, FU, SL, lC_km hC1 (fun q hq => ⟨h3 q (by omega) (by omega) (by omega) (by omega), rfl⟩), ⟨hM1.1, h1, h2, mL_fr hM1.2.2.2 (h3 _ (by omega) (by omega) (by omega) (by omega)) (h3 _ (by omega) (by omega) (by omega) (by omega))⟩, lB_act hB hS2⟩
