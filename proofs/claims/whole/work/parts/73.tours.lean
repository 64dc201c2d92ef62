/-! both tours are one -/
theorem zpl_bit {s : Nat} {W : Int → Int} {q : Nat} : ∀ m, (zpl s W m).testBit q = zany (fun i => s.testBit i && decide ((W i).toNat = q)) m := by
  intro m
  induction m with
  | zero => simp [zpl, zany]
  | succ m ih =>
    unfold zpl zany
    rw [← ih]
    by_cases h : s.testBit m = true
    · rw [if_pos h, zor_bit, h, Bool.true_and]
    · rw [if_neg h]; simp [h]
theorem zpl_in {s : Nat} {W : Int → Int} {q m : Nat} : (zpl s W m).testBit q = true ↔ ∃ i, i < m ∧ s.testBit i = true ∧ (W i).toNat = q := by
  rw [zpl_bit, zany_iff]
  constructor
  · rintro ⟨i, h1, h2⟩
    rw [Bool.and_eq_true, decide_eq_true_iff] at h2
    exact ⟨i, h1, h2.1, h2.2⟩
  · rintro ⟨i, h1, h2, h3⟩
    exact ⟨i, h1, by rw [Bool.and_eq_true, decide_eq_true_iff]; exact ⟨h2, h3⟩⟩
theorem zor_rc {a b c : Nat} : a ||| b ||| c = a ||| c ||| b := by rw [Nat.or_assoc, Nat.or_comm b c, Nat.or_assoc]
theorem zbeq {a b : Bool} (h : a = true ↔ b = true) : a = b := by cases a <;> cases b <;> simp_all
theorem zpl_or {s x e : Nat} {W : Int → Int} (hx : x < e) : zpl (s ||| 2 ^ x) W e = zpl s W e ||| 2 ^ (W x).toNat := by
  apply Nat.eq_of_testBit_eq
  intro q
  apply zbeq
  rw [zor_bit, zpl_in, Bool.or_eq_true, zpl_in, decide_eq_true_iff]
  constructor
  · rintro ⟨i, h1, h2, h3⟩
    rw [zor_bit, Bool.or_eq_true, decide_eq_true_iff] at h2
    rcases h2 with h2 | rfl
    · exact Or.inl ⟨i, h1, h2, h3⟩
    · exact Or.inr h3
  · rintro (⟨i, h1, h2, h3⟩ | h)
    · exact ⟨i, h1, by rw [zor_bit, h2]; rfl, h3⟩
    · exact ⟨x, hx, by rw [zor_bit]; simp, h⟩
/-- from an order of errands an order of places, no dearer -/
theorem zep_pp {F M W K : Int → Int} {w : Int} {fr e n : Nat} (hF : zFk F) (hn : n ≤ 6) (hf : fr < n) (hW : z_bd W e 0 (n - 1)) (he : e ≤ 6) : ∀ k s p c g, zep F M W K w fr e k s p c g → ∃ (j y : Nat) (c' : Int), zpp F n fr j (zpl s W e ||| 2 ^ fr) y c' ∧ y < n ∧ c' + F ((y : Int) * 6 + p) ≤ c := by
  intro k
  induction k with
  | zero =>
    rintro s p c g ⟨rfl, rfl, rfl, rfl⟩
    have h0 : zpl 0 W e = 0 := by
      apply Nat.eq_of_testBit_eq
      intro q
      rw [zpl_bit, zany_no (fun i _ => by simp)]
      simp
    refine ⟨0, fr, 0, ⟨by rw [h0]; simp, rfl, rfl⟩, hf, ?_⟩
    rw [hF.2.2.1 fr (by omega)]
    omega
  | succ k ih =>
    rintro s p c g ⟨s', p', c', g', x, h1, hx, h2, h3, rfl, rfl, rfl, rfl⟩
    obtain ⟨j, y, c2, i1, i2, i3⟩ := ih _ _ _ _ h1
    have hWx := hW x (by omega) (by omega)
    have hp' := (zep_b hW hf he k s' p' c' g' h1).1
    have ht := hF.2.2.2 y (W x).toNat p'.toNat (by omega) (by omega) (by omega)
    rw [show (((W x).toNat : Nat) : Int) = W x by omega, show ((p'.toNat : Nat) : Int) = p' by omega] at ht
    rw [zpl_or hx]
    by_cases hq : (zpl s' W e ||| 2 ^ fr).testBit (W x).toNat = true
    · refine ⟨j, y, c2, ?_, i2, by omega⟩
      rw [zor_rc, zor_eq hq]
      exact i1
    · refine ⟨j + 1, (W x).toNat, c2 + F ((y : Int) * 6 + (W x).toNat), ⟨_, y, c2, i1, by omega, by simpa using hq, zor_rc, rfl⟩, by omega, ?_⟩
      have hd := hF.2.2.1 (W x).toNat (by omega)
      rw [show (((W x).toNat : Nat) : Int) = W x by omega] at hd ⊢
      omega
/-- the errands of s at the place q, below j -/
def zat (s : Nat) (W : Int → Int) (q j : Nat) : Nat := zset (fun i => s.testBit i && decide ((W i).toNat = q)) j
theorem zat_bit {s : Nat} {W : Int → Int} {q j i : Nat} : (zat s W q j).testBit i = true ↔ i < j ∧ s.testBit i = true ∧ (W i).toNat = q := by
  unfold zat
  rw [zset_bit, Bool.and_eq_true, decide_eq_true_iff, Bool.and_eq_true, decide_eq_true_iff]
theorem zep_at {F M W K : Int → Int} {w : Int} {fr e n s q : Nat} (hF : zFk F) (hn : n ≤ 6) (hf : fr < n) (hW : z_bd W e 0 (n - 1)) (he : e ≤ 6) (hq : q < n) (hs : ∀ x, x < e → s.testBit x = true → K x = 2 ∨ K x = w) {k s0 : Nat} {p c g : Int} (h : zep F M W K w fr e k s0 p c g) (h0 : ∀ i, i < e → s.testBit i = true → (W i).toNat = q → s0.testBit i = false) : ∀ j, j ≤ e → (zat s W q j = 0) ∨ ∃ (k' : Nat) (g' : Int), zep F M W K w fr e k' (s0 ||| zat s W q j) q (c + F (p * 6 + q)) g' := by
  intro j
  induction j with
  | zero => intro _; exact Or.inl rfl
  | succ j ih =>
    intro hj
    have e1 : zat s W q (j + 1) = if (s.testBit j && decide ((W j).toNat = q)) = true then zat s W q j ||| 2 ^ j else zat s W q j := rfl
    have hWj := hW j (by omega) (by omega)
    by_cases hc : (s.testBit j && decide ((W j).toNat = q)) = true
    · rw [e1, if_pos hc]
      rw [Bool.and_eq_true, decide_eq_true_iff] at hc
      have eW : W j = (q : Int) := by omega
      have hb := h0 j (by omega) hc.1 hc.2
      refine Or.inr ?_
      rcases ih (by omega) with hz | ⟨k', g', hk⟩
      · rw [hz]
        refine ⟨k + 1, g + M (6 * p + W j), s0, p, c, g, j, h, by omega, hb, hs j (by omega) hc.1, by simp, by rw [eW], by rw [eW], rfl⟩
      · refine ⟨k' + 1, g' + M (6 * (q : Int) + W j), s0 ||| zat s W q j, q, c + F (p * 6 + q), g', j, hk, by omega, ?_, hs j (by omega) hc.1, (Nat.or_assoc ..).symm, by rw [eW], ?_, rfl⟩
        · rw [Nat.testBit_or, hb, Bool.false_or]
          cases hz : (zat s W q j).testBit j with
          | false => rfl
          | true => have := (zat_bit.mp hz).1; omega
        · rw [eW, hF.2.2.1 q (by omega)]; omega
    · rw [e1, if_neg hc]
      exact ih (by omega)
/-- the errands of s whose places are in Q -/
def zinp (s : Nat) (W : Int → Int) (Q e : Nat) : Nat := zset (fun i => s.testBit i && Q.testBit (W i).toNat) e
theorem zinp_bit {s : Nat} {W : Int → Int} {Q e i : Nat} : (zinp s W Q e).testBit i = true ↔ i < e ∧ s.testBit i = true ∧ Q.testBit (W i).toNat = true := by
  unfold zinp
  rw [zset_bit, Bool.and_eq_true, decide_eq_true_iff, Bool.and_eq_true]
theorem zinp_or {s : Nat} {W : Int → Int} {Q e y : Nat} : zinp s W (Q ||| 2 ^ y) e = zinp s W Q e ||| zat s W y e := by
  apply Nat.eq_of_testBit_eq
  intro i
  apply zbeq
  rw [zinp_bit, zor_bit, Bool.or_eq_true, decide_eq_true_iff, Nat.testBit_or, Bool.or_eq_true, zinp_bit, zat_bit]
  constructor
  · rintro ⟨h1, h2, h3 | h3⟩
    · exact Or.inl ⟨h1, h2, h3⟩
    · exact Or.inr ⟨h1, h2, h3.symm⟩
  · rintro (⟨h1, h2, h3⟩ | ⟨h1, h2, h3⟩)
    · exact ⟨h1, h2, Or.inl h3⟩
    · exact ⟨h1, h2, Or.inr h3.symm⟩
/-- from an order of places an order of errands that costs the same -/
theorem zpp_ep {F M W K : Int → Int} {w : Int} {fr e n s : Nat} (hF : zFk F) (hFb : z_bd F 36 0 1000000) (hn : n ≤ 6) (hf : fr < n) (hW : z_bd W e 0 (n - 1)) (he : e ≤ 6) (hs : ∀ x, x < e → s.testBit x = true → K x = 2 ∨ K x = w) : ∀ k Q y c, zpp F n fr k Q y c → (∀ q, Q.testBit q = true → q = fr ∨ (zpl s W e).testBit q = true) → ∃ (k' : Nat) (g : Int), zep F M W K w fr e k' (zinp s W Q e) y c g := by
  intro k
  induction k with
  | zero =>
    rintro Q y c ⟨rfl, rfl, rfl⟩ _
    have h0 : zep F M W K w y e 0 0 y 0 0 := ⟨rfl, rfl, rfl, rfl⟩
    have e1 : zinp s W (2 ^ y) e = 0 ||| zat s W y e := by
      apply Nat.eq_of_testBit_eq
      intro i
      apply zbeq
      rw [zinp_bit, Nat.zero_or, zat_bit, Nat.testBit_two_pow, decide_eq_true_iff]
      exact ⟨fun h => ⟨h.1, h.2.1, h.2.2.symm⟩, fun h => ⟨h.1, h.2.1, h.2.2.symm⟩⟩
    rw [e1]
    rcases zep_at hF hn hf hW he hf hs h0 (fun i _ _ _ => by simp) e (Nat.le_refl _) with hz | ⟨k', g', h⟩
    · rw [hz]; exact ⟨0, 0, by simpa using h0⟩
    · rw [hF.2.2.1 y (by omega)] at h
      exact ⟨k', g', h⟩
  | succ k ih =>
    rintro Q y c ⟨Q', y', c', h1, hy, hb, rfl, rfl⟩ hQ
    obtain ⟨k', g, i1⟩ := ih _ _ _ h1 (fun q hq => hQ q (by rw [zor_bit, hq]; rfl))
    have hfr : Q'.testBit fr = true := by
      clear ih i1 hQ hb
      induction k generalizing Q' y' c' with
      | zero => obtain ⟨rfl, _, _⟩ := h1; rw [Nat.testBit_two_pow]; simp
      | succ k ih =>
        obtain ⟨Q2, y2, c2, a1, _, _, rfl, _⟩ := h1
        rw [zor_bit, ih _ _ _ a1]; rfl
    have hyf : y ≠ fr := fun e => by rw [e, hfr] at hb; cases hb
    have hyp : (zpl s W e).testBit y = true := by
      rcases hQ y (by rw [zor_bit]; simp) with h | h
      · exact absurd h hyf
      · exact h
    rw [zinp_or]
    obtain ⟨x, hx1, hx2, hx3⟩ := zpl_in.mp hyp
    rcases zep_at hF hn hf hW he hy hs i1 (fun i hi hsi hwi => by
      cases hz : (zinp s W Q' e).testBit i with
      | false => rfl
      | true => have := (zinp_bit.mp hz).2.2; rw [hwi, hb] at this; cases this) e (Nat.le_refl _) with hz | ⟨k2, g', h⟩
    · have : (zat s W y e).testBit x = true := zat_bit.mpr ⟨hx1, hx2, hx3⟩
      rw [hz] at this
      simp at this
    · exact ⟨k2, g', h⟩
theorem zpop_or {s x : Nat} (hs : s < 64) (hx : x < 6) (h : s.testBit x = false) : zpop (s ||| 2 ^ x) = zpop s + 1 := by
  revert h; revert s; revert x; decide +kernel
theorem zpop_6 {s : Nat} : zpop s ≤ 6 := by
  have h : ∀ i, (if s.testBit i then 1 else 0) ≤ 1 := fun i => by split <;> omega
  unfold zpop
  have := h 0
  have := h 1
  have := h 2
  have := h 3
  have := h 4
  have := h 5
  omega
theorem zep_cg {F W K : Int → Int} {w : Int} {fr e n : Nat} (hD : zD F) (hn : n ≤ 6) (hf : fr < n) (hW : z_bd W e 0 (n - 1)) (he : e ≤ 6) : ∀ k s p c g, zep F (mF F) W K w fr e k s p c g → k = zpop s ∧ ((c = g ∧ 0 ≤ c ∧ c ≤ 6400 * k) ∨ (1000000 ≤ c ∧ 99999 ≤ g)) := by
  intro k
  induction k with
  | zero =>
    rintro s p c g ⟨rfl, rfl, rfl, rfl⟩
    exact ⟨rfl, Or.inl ⟨rfl, by omega, by omega⟩⟩
  | succ k ih =>
    rintro s p c g ⟨s', p', c', g', x, h1, hx, h2, h3, rfl, rfl, rfl, rfl⟩
    obtain ⟨i1, i2⟩ := ih _ _ _ _ h1
    obtain ⟨hp, hs, _⟩ := zep_b hW hf he k s' p' c' g' h1
    have hWx := hW x (by omega) (by omega)
    have hs6 : s' < 64 := Nat.lt_of_lt_of_le hs (z_pn he)
    have hd := hD (p' * 6 + W x) (by omega) (by omega)
    refine ⟨by rw [zpop_or hs6 (by omega) h2]; omega, ?_⟩
    rw [show 6 * p' + W x = p' * 6 + W x by omega]
    unfold mF
    have h6 := zpop_6 (s := s')
    split <;> omega
/-- THE TWO TOURS: of a set that can be done, alike; of another one none -/
theorem tours_eq {F W K W0 : Int → Int} {w : Int} {n fr home e s : Nat} (hF : zFk F) (hFb : z_bd F 36 0 1000000) (hn : n ≤ 6) (hf : fr < n) (hh : home < n) (hW : z_bd W e 0 (n - 1)) (he : e ≤ 6) (hs : s < 2 ^ e) (hcan : ∀ x, x < e → s.testBit x = true → K x = 2 ∨ K x = w) : ((f_tr F n home fr W0).2 ((zpl s W e ||| 2 ^ fr : Nat) : Int) = f_mt (mF F) W K w fr home e s ∧ 0 ≤ f_mt (mF F) W K w fr home e s ∧ f_mt (mF F) W K w fr home e s ≤ 44800) ∨ ((f_tr F n home fr W0).2 ((zpl s W e ||| 2 ^ fr : Nat) : Int) = 1000000 ∧ f_mt (mF F) W K w fr home e s = 99999) := by
  have hQ : zpl s W e ||| 2 ^ fr < 2 ^ n := Nat.or_lt_two_pow (zpl_n hn hW) (Nat.pow_lt_pow_right (by omega) hf)
  have hM : z_bd (mF F) 36 0 99999 := fun z a b => by have := hF.1 z a b; unfold mF; split <;> omega
  have hs6 : s < 64 := Nat.lt_of_lt_of_le hs (z_pn he)
  obtain ⟨a1, a2, a3⟩ := f_tr_ok (W0 := W0) hFb hn hf hh _ hQ
  obtain ⟨b1, b2, b3⟩ := f_mt_ok (D := F) (K := K) (w := w) hM hW hn he hf hh s hs6
  generalize (f_tr F n home fr W0).2 ((zpl s W e ||| 2 ^ fr : Nat) : Int) = A at *
  generalize f_mt (mF F) W K w fr home e s = B at *
  have h1 : A < 1000000 → B ≤ A ∧ B ≤ 44800 := fun h => by
    obtain ⟨k, y, c, hz, rfl⟩ := a3 h
    obtain ⟨hy, _, _, hc0⟩ := zpp_b hf hFb hn k _ _ _ hz
    have hd := hF.1 ((y : Int) * 6 + home) (by omega) (by omega)
    obtain ⟨k', g, hg⟩ := zpp_ep (M := mF F) hF hFb hn hf hW he hcan k _ y c hz (fun q hq => by
      rw [zor_bit, Bool.or_eq_true, decide_eq_true_iff] at hq
      rcases hq with hq | hq
      · exact Or.inr hq
      · exact Or.inl hq.symm)
    have e1 : zinp s W (zpl s W e ||| 2 ^ fr) e = s := by
      apply Nat.eq_of_testBit_eq
      intro i
      apply zbeq
      rw [zinp_bit]
      refine ⟨fun h => h.2.1, fun h => ?_⟩
      have hi : i < e := by
        apply Classical.byContradiction
        intro hi
        have hp : 2 ^ e ≤ 2 ^ i := Nat.pow_le_pow_right (by omega) (by omega)
        rw [Nat.testBit_lt_two_pow (by omega)] at h
        cases h
      exact ⟨hi, h, by rw [zor_bit, zpl_in.mpr ⟨i, hi, h, rfl⟩]; rfl⟩
    rw [e1] at hg
    have q := b2 k' y c g hg
    obtain ⟨q1, q2⟩ := zep_cg hF.1 hn hf hW he k' s y c g hg
    have h6 := zpop_6 (s := s)
    rw [show 6 * (y : Int) + home = (y : Int) * 6 + home by omega] at q
    unfold mF at q
    rw [if_pos (by omega)] at q
    omega
  have h2 : B < 99999 → A ≤ B := fun h => by
    obtain ⟨k, p, c, g, hz, rfl⟩ := b3 h
    obtain ⟨hp, _, _⟩ := zep_b hW hf he k s p c g hz
    obtain ⟨j, y, c', i1, i2, i3⟩ := zep_pp hF hn hf hW he k s p c g hz
    have q := a2 j y c' i2 i1
    have hd := hF.1 (p * 6 + home) (by omega) (by omega)
    obtain ⟨q1, q2⟩ := zep_cg hF.1 hn hf hW he k s p c g hz
    have ht := hF.2.2.2 y home p.toNat (by omega) (by omega) (by omega)
    rw [show ((p.toNat : Nat) : Int) = p by omega] at ht
    rw [show 6 * p + (home : Int) = p * 6 + home by omega] at h ⊢
    unfold mF at h ⊢
    split at h
    · rw [if_pos (by assumption)]; omega
    · omega
  by_cases hA : A < 1000000
  · have := h1 hA
    have := h2 (by omega)
    exact Or.inl ⟨by omega, by omega, by omega⟩
  · refine Or.inr ⟨by omega, ?_⟩
    apply Classical.byContradiction
    intro hB
    have := h2 (by omega)
    omega
theorem tours_no {F W K : Int → Int} {w : Int} {n fr home e s x : Nat} (hF : zFk F) (hn : n ≤ 6) (hf : fr < n) (hh : home < n) (hW : z_bd W e 0 (n - 1)) (he : e ≤ 6) (hs : s < 2 ^ e) (hx : x < e) (hb : s.testBit x = true) (hno : ¬ (K x = 2 ∨ K x = w)) : f_mt (mF F) W K w fr home e s = 99999 := by
  have hM : z_bd (mF F) 36 0 99999 := fun z a b => by have := hF.1 z a b; unfold mF; split <;> omega
  obtain ⟨b1, b2, b3⟩ := f_mt_ok (D := F) (K := K) (w := w) hM hW hn he hf hh s (Nat.lt_of_lt_of_le hs (z_pn he))
  apply Classical.byContradiction
  intro hB
  obtain ⟨k, p, c, g, hz, _⟩ := b3 (by omega)
  exact hno ((zep_b hW hf he k s p c g hz).2.2 x (by omega) hb)
