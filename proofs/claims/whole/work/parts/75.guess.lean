/-! CHANCE, SPARE: both sides answer alike -/
theorem zsum_eq {f g : Nat → Int} {n : Nat} (h : ∀ k, k < n → f k = g k) : zsum f n = zsum g n := by
  induction n with
  | zero => rfl
  | succ n ih =>
    unfold zsum
    rw [ih (fun k hk => h k (by omega)), h n (by omega)]
/-- what a set costs, on both sides -/
theorem guess_one {F W : Int → Int} {n e i : Nat} (hF : zFk F) (hFb : z_bd F 36 0 1000000) (hn : 2 ≤ n ∧ n ≤ 6) (he : e ≤ 6) (hW : z_bd W e 0 (n - 1)) (hi : i < 2 ^ e) : (f_gC (f_tr F n 0 0 (fun _ => 0)).2 W e 0 i = f_mt (mF F) W (fun _ => 2) 0 0 0 e i ∧ 0 ≤ f_mt (mF F) W (fun _ => 2) 0 0 0 e i ∧ f_mt (mF F) W (fun _ => 2) 0 0 0 e i ≤ 44800) ∨ (f_gC (f_tr F n 0 0 (fun _ => 0)).2 W e 0 i = 1000000 ∧ f_mt (mF F) W (fun _ => 2) 0 0 0 e i = 99999) := by
  have h := tours_eq (W0 := fun _ => 0) (K := fun _ => 2) (w := 0) (fr := 0) (home := 0) hF hFb hn.2 (by omega) (by omega) hW he hi (fun x _ _ => Or.inl rfl)
  unfold f_gC
  rw [Int.toNat_natCast]
  exact h
theorem wthn_eq {F W : Int → Int} {n e : Nat} {x t : Int} (hF : zFk F) (hFb : z_bd F 36 0 1000000) (hn : 2 ≤ n ∧ n ≤ 6) (he : e ≤ 6) (hW : z_bd W e 0 (n - 1)) (ht : t ≤ 999) : f_wthn n e F W x t = f_mwi e F W x t := by
  unfold f_wthn f_mwi f_ww f_mww
  refine zsum_eq (fun i hi => ?_)
  rcases guess_one hF hFb hn he hW hi with ⟨h1, h2, h3⟩ | ⟨h1, h2⟩
  · rw [h1]
  · rw [if_neg (by omega), if_neg (by omega)]
theorem f_cd_gcd : ∀ (m k a b : Nat), 2 * m ≤ k → b < 2 ^ m → f_cd k (a : Int) (b : Int) = ((Nat.gcd a b : Nat) : Int) := by
  intro m
  induction m with
  | zero =>
    intro k a b _ hb
    have hb0 : b = 0 := by omega
    subst hb0
    rw [Nat.gcd_zero_right]
    cases k with
    | zero => rfl
    | succ k => unfold f_cd; rw [if_neg (by omega)]
  | succ m ih =>
    intro k a b hk hb
    obtain ⟨k, rfl⟩ : ∃ q, k = q + 2 := ⟨k - 2, by omega⟩
    by_cases hb0 : b = 0
    · subst hb0
      rw [Nat.gcd_zero_right]
      unfold f_cd; rw [if_neg (by omega)]
    · have e1 : f_cd (k + 2) (a : Int) (b : Int) = f_cd (k + 1) (b : Int) ((a % b : Nat) : Int) := by
        show (if 0 < (b : Int) then f_cd (k + 1) (b : Int) ((a : Int) % (b : Int)) else (a : Int)) = _
        rw [if_pos (by omega)]
        rfl
      have hr := Nat.mod_lt a (show 0 < b by omega)
      have e3 : Nat.gcd a b = Nat.gcd b (a % b) := by rw [Nat.gcd_comm a b, Nat.gcd_rec b a, Nat.gcd_comm]
      rw [e1, e3]
      generalize a % b = r at *
      by_cases hr0 : r = 0
      · subst hr0
        rw [Nat.gcd_zero_right]
        unfold f_cd; rw [if_neg (by omega)]
      · have e2 : f_cd (k + 1) (b : Int) (r : Int) = f_cd k (r : Int) ((b % r : Nat) : Int) := by
          show (if 0 < (r : Int) then f_cd k (r : Int) ((b : Int) % (r : Int)) else (b : Int)) = _
          rw [if_pos (by omega)]
          rfl
        have h1 := Nat.mod_lt b (show 0 < r by omega)
        have h2 : b % r ≤ b - r := by rw [Nat.mod_eq_sub_mod (by omega)]; exact Nat.mod_le ..
        have hp : 2 ^ (m + 1) = 2 * 2 ^ m := by rw [Nat.pow_succ]; omega
        rw [e2, ih k r (b % r) (by omega) (by omega)]
        rw [Nat.gcd_comm b r, Nat.gcd_rec r b, Nat.gcd_comm (b % r) r]
theorem z_p10n (e : Nat) : ((10 ^ e : Nat) : Int) = 10 ^ e := by simp
theorem chance_eq {F W : Int → Int} {n e : Nat} {x t u : Int} (hF : zFk F) (hFb : z_bd F 36 0 1000000) (hn : 2 ≤ n ∧ n ≤ 6) (he : e ≤ 6) (hW : z_bd W e 0 (n - 1)) : f_chance n e F W x t u = f_mch e F W x t u := by
  unfold f_chance f_mch
  by_cases hc : x < 0 ∨ 10 < x ∨ t < 0 ∨ 999 < t
  · rw [if_pos hc, if_pos hc]
  rw [if_neg hc, if_neg hc, wthn_eq hF hFb hn he hW (by omega)]
  have hb := f_mww_b (H := f_mt (mF F) W (fun _ => 2) 0 0 0 e) (x := x) (t := t) (by omega) he (2 ^ e) (z_pn he)
  have hp := z_p10 he
  unfold f_mwi
  generalize hA : f_mww (f_mt (mF F) W (fun _ => 2) 0 0 0 e) x e t (2 ^ e) = A at *
  have hg := f_cd_gcd 27 100 A.toNat (10 ^ e) (by omega) (by have := z_p10n e; omega)
  rw [z_p10n, show ((A.toNat : Nat) : Int) = A by omega] at hg
  have hpos : 0 < Nat.gcd A.toNat (10 ^ e) := Nat.gcd_pos_of_pos_right _ (Nat.pow_pos (by omega))
  rw [hg, if_neg (by omega)]
theorem spare_eq {F W : Int → Int} {n e : Nat} {x y a : Int} (hF : zFk F) (hFb : z_bd F 36 0 1000000) (hn : 2 ≤ n ∧ n ≤ 6) (he : e ≤ 6) (hW : z_bd W e 0 (n - 1)) (h : if x < 0 ∨ 10 < x ∨ y < 0 ∨ 100 < y then a = -2 else ((0 ≤ a ∧ a < 1000 ∧ f_msok e F W x y a ∧ ∀ t, 0 ≤ t → t < a → ¬ f_msok e F W x y t) ∨ (a = -9 ∧ ∀ t, 0 ≤ t → t < 1000 → ¬ f_msok e F W x y t))) : f_spare n e F W x y = a := by
  unfold f_spare
  by_cases hc : x < 0 ∨ 10 < x ∨ y < 0 ∨ 100 < y
  · rw [if_pos hc] at h ⊢; exact h.symm
  rw [if_neg hc] at h ⊢
  have hw : ∀ t, t ≤ 999 → (y * 10 ^ e ≤ 100 * f_ww (f_gC (f_tr F n 0 0 (fun _ => 0)).2 W e 0) (f_gW x e) t (2 ^ e) ↔ f_msok e F W x y t) := fun t ht => by
    have := wthn_eq (x := x) hF hFb hn he hW ht
    unfold f_wthn at this
    unfold f_msok
    rw [this]
  have h1 := fun i hi => guess_one (i := i) hF hFb hn he hW hi
  -- the fold's answer
  have key : ((zit (f_lst (f_gC (f_tr F n 0 0 (fun _ => 0)).2 W e 0) (f_gW x e) (2 ^ e) (10 ^ e) y) (2 ^ e) (-9) = -9) ∨ (0 ≤ zit (f_lst (f_gC (f_tr F n 0 0 (fun _ => 0)).2 W e 0) (f_gW x e) (2 ^ e) (10 ^ e) y) (2 ^ e) (-9) ∧ zit (f_lst (f_gC (f_tr F n 0 0 (fun _ => 0)).2 W e 0) (f_gW x e) (2 ^ e) (10 ^ e) y) (2 ^ e) (-9) ≤ 999 ∧ f_msok e F W x y (zit (f_lst (f_gC (f_tr F n 0 0 (fun _ => 0)).2 W e 0) (f_gW x e) (2 ^ e) (10 ^ e) y) (2 ^ e) (-9)))) ∧ ∀ i : Nat, i < 2 ^ e → f_mt (mF F) W (fun _ => 2) 0 0 0 e i ≤ 999 → f_msok e F W x y (f_mt (mF F) W (fun _ => 2) 0 0 0 e i) → 0 ≤ zit (f_lst (f_gC (f_tr F n 0 0 (fun _ => 0)).2 W e 0) (f_gW x e) (2 ^ e) (10 ^ e) y) (2 ^ e) (-9) ∧ zit (f_lst (f_gC (f_tr F n 0 0 (fun _ => 0)).2 W e 0) (f_gW x e) (2 ^ e) (10 ^ e) y) (2 ^ e) (-9) ≤ f_mt (mF F) W (fun _ => 2) 0 0 0 e i := by
    refine zit_inv (p := fun j b => ((b = -9) ∨ (0 ≤ b ∧ b ≤ 999 ∧ f_msok e F W x y b)) ∧ ∀ i : Nat, i < j → f_mt (mF F) W (fun _ => 2) 0 0 0 e i ≤ 999 → f_msok e F W x y (f_mt (mF F) W (fun _ => 2) 0 0 0 e i) → 0 ≤ b ∧ b ≤ f_mt (mF F) W (fun _ => 2) 0 0 0 e i) (n := 2 ^ e) (fun j b hj hb => ?_) (2 ^ e) (Nat.le_refl _) (-9) ⟨Or.inl rfl, fun i h => absurd h (by omega)⟩
    obtain ⟨b1, b2⟩ := hb
    unfold f_lst
    by_cases hq : (f_gC (f_tr F n 0 0 (fun _ => 0)).2 W e 0 j ≤ 999 ∧ (b = -9 ∨ f_gC (f_tr F n 0 0 (fun _ => 0)).2 W e 0 j < b)) ∧ y * 10 ^ e ≤ 100 * f_ww (f_gC (f_tr F n 0 0 (fun _ => 0)).2 W e 0) (f_gW x e) (f_gC (f_tr F n 0 0 (fun _ => 0)).2 W e 0 j) (2 ^ e)
    · rw [if_pos hq]
      obtain ⟨⟨q1, q2⟩, q3⟩ := hq
      rw [hw _ q1] at q3
      rcases h1 j hj with ⟨g1, g2, g3⟩ | ⟨g1, g2⟩
      · rw [g1] at q1 q2 q3 ⊢
        refine ⟨Or.inr ⟨g2, q1, q3⟩, fun i hi hle hok => ⟨g2, ?_⟩⟩
        by_cases e1 : i = j
        · rw [e1]; exact Int.le_refl _
        · have := b2 i (by omega) hle hok
          rcases q2 with q2 | q2 <;> omega
      · omega
    · rw [if_neg hq]
      refine ⟨b1, fun i hi hle hok => ?_⟩
      by_cases e1 : i = j
      · subst e1
        rcases h1 i hj with ⟨g1, g2, g3⟩ | ⟨g1, g2⟩
        · rw [g1, hw _ hle] at hq
          have hb9 : ¬ (b = -9 ∨ f_mt (mF F) W (fun _ => 2) 0 0 0 e i < b) := fun h => hq ⟨⟨hle, h⟩, hok⟩
          rcases b1 with b1 | b1 <;> omega
        · omega
      · exact b2 i (by omega) hle hok
  generalize zit (f_lst (f_gC (f_tr F n 0 0 (fun _ => 0)).2 W e 0) (f_gW x e) (2 ^ e) (10 ^ e) y) (2 ^ e) (-9) = b at *
  obtain ⟨k1, k2⟩ := key
  rcases h with ⟨a1, a2, a3, a4⟩ | ⟨rfl, a2⟩
  · -- a is what some set costs
    have hex : ∃ i : Nat, i < 2 ^ e ∧ f_mt (mF F) W (fun _ => 2) 0 0 0 e i = a := by
      apply Classical.byContradiction
      intro hno
      have hne : ∀ i : Nat, i < 2 ^ e → f_mt (mF F) W (fun _ => 2) 0 0 0 e i ≠ a := fun i hi h => hno ⟨i, hi, h⟩
      by_cases ha : a = 0
      · have hM : z_bd (mF F) 36 0 99999 := fun z a b => by have := hF.1 z a b; unfold mF; split <;> omega
        obtain ⟨c1, c2, _⟩ := f_mt_ok (D := F) (K := fun _ => 2) (w := 0) (fr := 0) (to := 0) hM hW hn.2 he (by omega) (by omega) 0 (by omega)
        have c3 := c2 0 0 0 0 ⟨rfl, rfl, rfl, rfl⟩
        have c4 := hF.2.2.1 0 (by omega)
        have c5 : mF F (6 * 0 + ((0 : Nat) : Int)) = 0 := by
          have c4 : F 0 = 0 := c4
          show (if F 0 < 1000000 then F 0 else 99999) = 0
          rw [c4]; rfl
        rw [c5] at c3
        refine hne 0 (Nat.two_pow_pos e) ?_
        rw [ha]
        have c3 : f_mt (mF F) W (fun _ => 2) 0 0 0 e 0 ≤ 0 + 0 := c3
        have c1 : 0 ≤ f_mt (mF F) W (fun _ => 2) 0 0 0 e 0 := c1.1
        show f_mt (mF F) W (fun _ => 2) 0 0 0 e 0 = 0
        omega
      · refine a4 (a - 1) (by omega) (by omega) ?_
        unfold f_msok f_mwi f_mww at a3 ⊢
        rw [zsum_eq (g := fun i => if f_mt (mF F) W (fun _ => 2) 0 0 0 e i ≤ a then f_gW x e (i : Int) else 0) (fun i hi => ?_)]
        · exact a3
        · have := hne i hi
          by_cases hle : f_mt (mF F) W (fun _ => 2) 0 0 0 e i ≤ a
          · rw [if_pos hle, if_pos (by omega)]
          · rw [if_neg hle, if_neg (by omega)]
    obtain ⟨i, hi, rfl⟩ := hex
    have q := k2 i hi (by omega) a3
    apply Classical.byContradiction
    intro hne
    rcases k1 with k1 | ⟨_, _, k1⟩
    · omega
    · exact a4 b q.1 (by omega) k1
  · rcases k1 with k1 | ⟨c1, c2, k1⟩
    · exact k1
    · exact absurd k1 (a2 b c1 (by omega))
