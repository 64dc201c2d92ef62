/-- how many pairs have a ROAD -/
def zcg (R : Int → Int) (a b : Nat) : Int := if R ((a : Int) * 6 + b) = 0 then 0 else 1
def zcn (n : Nat) (R : Int → Int) : Int := zsum (fun a => zsum (zcg R a) a) n
def zRd (n : Nat) (r : Int) (R : Int → Int) : Prop := (∀ a b : Nat, a < 6 → b < 6 → R ((a : Int) * 6 + b) = R ((b : Int) * 6 + a)) ∧ zcn n R = r
theorem zsum_le {f g : Nat → Int} {n : Nat} (h : ∀ k, k < n → f k ≤ g k) : zsum f n ≤ zsum g n := by
  induction n with
  | zero => exact Int.le_refl _
  | succ n ih =>
    have h1 := ih (fun k hk => h k (by omega))
    have h2 := h n (by omega)
    rw [zsum, zsum]
    omega
theorem zsum_lt {f g : Nat → Int} {n j : Nat} (h : ∀ k, k < n → f k ≤ g k) (hj : j < n) (hs : f j < g j) : zsum f n < zsum g n := by
  induction n with
  | zero => omega
  | succ n ih =>
    have h2 := h n (by omega)
    rw [zsum, zsum]
    rcases (show j < n ∨ j = n by omega) with q | q
    · have h1 := ih (fun k hk => h k (by omega)) q
      omega
    · subst q
      have h1 := zsum_le (f := f) (g := g) (n := j) (fun k hk => h k (by omega))
      omega
theorem zsum_up {f g : Nat → Int} {n j : Nat} {x : Int} (hj : j < n) (hs : g j = f j + x) (h : ∀ k, k < n → k ≠ j → g k = f k) : zsum g n = zsum f n + x := by
  induction n with
  | zero => omega
  | succ n ih =>
    rw [zsum, zsum]
    rcases (show j < n ∨ j = n by omega) with q | q
    · rw [ih q (fun k hk hn => h k (by omega) hn), h n (by omega) (by omega)]
      omega
    · subst q
      rw [zsum_cg (fun k hk => h k (by omega) (by omega)), hs]
      omega
theorem zsum_one (m : Nat) : zsum (fun _ => 1) m = m := by
  induction m with
  | zero => rfl
  | succ m ih => rw [zsum, ih]; omega
theorem zcg_b (R : Int → Int) (a b : Nat) : 0 ≤ zcg R a b ∧ zcg R a b ≤ 1 := by unfold zcg; split <;> omega
theorem zcn_tri {n : Nat} (hn : n ≤ 6) : zsum (fun a => zsum (fun _ => 1) a) n = (n : Int) * ((n : Int) - 1) / 2 := by
  rcases (show n = 0 ∨ n = 1 ∨ n = 2 ∨ n = 3 ∨ n = 4 ∨ n = 5 ∨ n = 6 by omega) with rfl | rfl | rfl | rfl | rfl | rfl | rfl <;> decide
theorem zRd_pair {n : Nat} {r : Int} {R : Int → Int} (hn : n ≤ 6) (h : zRd n r R) : (∃ a b : Nat, a < n ∧ b < n ∧ a ≠ b ∧ R ((a : Int) * 6 + b) = 0) ↔ r < (n : Int) * ((n : Int) - 1) / 2 := by
  obtain ⟨hs, hc⟩ := h
  rw [← zcn_tri hn, ← hc]
  have hle : ∀ a, a < n → zsum (zcg R a) a ≤ zsum (fun _ => 1) a := fun a _ => zsum_le (fun b _ => (zcg_b R a b).2)
  constructor
  · rintro ⟨a, b, ha, hb, hab, h0⟩
    have key : ∀ a b : Nat, a < n → b < a → R ((a : Int) * 6 + b) = 0 → zcn n R < zsum (fun a => zsum (fun _ => 1) a) n := fun a b ha hb h0 =>
      zsum_lt hle ha (zsum_lt (fun k _ => (zcg_b R a k).2) hb (by unfold zcg; rw [if_pos h0]; decide))
    rcases (show b < a ∨ a < b by omega) with q | q
    · exact key a b ha q h0
    · exact key b a hb q (by rw [hs b a (by omega) (by omega)]; exact h0)
  · intro hlt
    refine Classical.byContradiction fun hno => ?_
    have : zcn n R = zsum (fun a => zsum (fun _ => 1) a) n := zsum_cg (fun a ha => zsum_cg (fun b hb => by
      unfold zcg
      rw [if_neg (fun h0 => hno ⟨a, b, ha, by omega, by omega, h0⟩)]))
    omega
theorem zRd_up {n : Nat} {r x : Int} {R : Int → Int} {a b : Nat} (hn : n ≤ 6) (h : zRd n r R) (ha : a < n) (hb : b < n) (hab : a ≠ b) (h0 : R ((a : Int) * 6 + b) = 0) (hx : x ≠ 0) : zRd n (r + 1) (zup (zup R ((a : Int) * 6 + b) x) ((b : Int) * 6 + a) x) := by
  obtain ⟨hs, hc⟩ := h
  have key : ∀ (p q : Nat), p < 6 → q < 6 → zup (zup R ((a : Int) * 6 + b) x) ((b : Int) * 6 + a) x ((p : Int) * 6 + q) = if (p = a ∧ q = b) ∨ (p = b ∧ q = a) then x else R ((p : Int) * 6 + q) := by
    intro p q hp hq
    unfold zup
    by_cases h1 : p = b ∧ q = a
    · rw [if_pos (by omega), if_pos (Or.inr h1)]
    · rw [if_neg (by omega)]
      by_cases h2 : p = a ∧ q = b
      · rw [if_pos (by omega), if_pos (Or.inl h2)]
      · rw [if_neg (by omega), if_neg (by omega)]
  refine ⟨fun p q hp hq => ?_, ?_⟩
  · rw [key p q hp hq, key q p hq hp]
    by_cases h1 : (p = a ∧ q = b) ∨ (p = b ∧ q = a)
    · rw [if_pos h1, if_pos (by omega)]
    · rw [if_neg h1, if_neg (by omega)]; exact hs p q hp hq
  · rw [← hc]
    have fin : ∀ (p q : Nat), p < n → q < p → ((p = a ∧ q = b) ∨ (p = b ∧ q = a)) → zcn n (zup (zup R ((a : Int) * 6 + b) x) ((b : Int) * 6 + a) x) = zcn n R + 1 := by
      intro p q hp hq hpq
      refine zsum_up hp ?_ (fun k hk hkp => zsum_cg (fun l hl => ?_))
      · refine zsum_up hq ?_ (fun l hl hlq => ?_)
        · unfold zcg
          rw [key p q (by omega) (by omega), if_pos hpq, if_neg hx, if_pos]
          · rfl
          · rcases hpq with ⟨rfl, rfl⟩ | ⟨rfl, rfl⟩
            · exact h0
            · rw [hs _ _ (by omega) (by omega)]; exact h0
        · unfold zcg
          rw [key p l (by omega) (by omega), if_neg (show ¬ ((p = a ∧ l = b) ∨ (p = b ∧ l = a)) by omega)]
      · unfold zcg
        rw [key k l (by omega) (by omega), if_neg (show ¬ ((k = a ∧ l = b) ∨ (k = b ∧ l = a)) by omega)]
    rcases (show b < a ∨ a < b by omega) with q | q
    · exact fin a b ha q (Or.inl ⟨rfl, rfl⟩)
    · exact fin b a hb q (Or.inr ⟨rfl, rfl⟩)
theorem zRd_0 (n : Nat) : zRd n 0 (fun _ => 0) := ⟨fun _ _ _ _ => rfl, zsum_0 (fun a _ => zsum_0 (fun b _ => by unfold zcg; rw [if_pos rfl]))⟩
