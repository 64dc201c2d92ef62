/-- in how many ways k walks from pl end at z: place z / 1000, steps z % 1000 -/
def f_wyt (F : Int → Int) (C : Int → Int) (z : Int) (fr : Nat) : Int := if ¬ (fr : Int) = z / 1000 ∧ F ((fr : Int) * 6 + z / 1000) < 1000000 ∧ F ((fr : Int) * 6 + z / 1000) ≤ z % 1000 then C ((fr : Int) * 1000 + (z % 1000 - F ((fr : Int) * 6 + z / 1000))) else 0
def f_wy (F : Int → Int) (n : Nat) (pl : Int) : Nat → Int → Int
  | 0 => fun z => if z = pl * 1000 then 1 else 0
  | k + 1 => fun z => zsum (f_wyt F (f_wy F n pl k) z) n
theorem zsum_b {f : Nat → Int} {n : Nat} {b : Int} (h : ∀ k, k < n → 0 ≤ f k ∧ f k ≤ b) : 0 ≤ zsum f n ∧ zsum f n ≤ b * n := by
  induction n with
  | zero => exact ⟨Int.le_refl _, by simp [zsum]⟩
  | succ n ih =>
    have h1 := ih (fun k hk => h k (by omega))
    have h2 := h n (by omega)
    rw [zsum, show b * ((n + 1 : Nat) : Int) = b * n + b by rw [Int.natCast_succ, Int.mul_add, Int.mul_one]]
    omega
theorem zsum_0 {f : Nat → Int} {n : Nat} (h : ∀ k, k < n → f k = 0) : zsum f n = 0 := by
  induction n with
  | zero => rfl
  | succ n ih => rw [zsum, ih (fun k hk => h k (by omega)), h n (by omega)]; rfl
theorem zsum_cg {f g : Nat → Int} {n : Nat} (h : ∀ k, k < n → f k = g k) : zsum f n = zsum g n := by
  induction n with
  | zero => rfl
  | succ n ih => rw [zsum, zsum, ih (fun k hk => h k (by omega)), h n (by omega)]
theorem f_wy_b {F : Int → Int} {n : Nat} {pl : Int} (hn : n ≤ 6) : ∀ k z, 0 ≤ f_wy F n pl k z ∧ f_wy F n pl k z ≤ 6 ^ k := by
  intro k
  induction k with
  | zero => intro z; unfold f_wy; split <;> simp
  | succ k ih =>
    intro z
    have h1 : 0 ≤ zsum (f_wyt F (f_wy F n pl k) z) n ∧ zsum (f_wyt F (f_wy F n pl k) z) n ≤ 6 ^ k * n := zsum_b (fun j hj => by
      unfold f_wyt
      split
      · exact ih _
      · exact ⟨Int.le_refl _, Int.le_of_lt (Int.pow_pos (by decide))⟩)
    have h2 : (6 : Int) ^ k * n ≤ 6 ^ k * 6 := Int.mul_le_mul_of_nonneg_left (by omega) (Int.le_of_lt (Int.pow_pos (by decide)))
    have h3 : (6 : Int) ^ (k + 1) = 6 ^ k * 6 := Int.pow_succ ..
    show 0 ≤ zsum _ n ∧ zsum _ n ≤ _
    rw [h3]
    exact ⟨h1.1, Int.le_trans h1.2 h2⟩
theorem zit_mono {α : Type} {st : Nat → α → α} {q : α → α → Prop} (h0 : ∀ x, q x x) (ht : ∀ x y z, q x y → q y z → q x z) (hs : ∀ k x, q x (st k x)) : ∀ n x, q x (zit st n x) := by
  intro n
  induction n with
  | zero => intro x; exact h0 x
  | succ n ih => intro x; exact ht _ _ _ (ih x) (hs n _)
theorem zit_has {α : Type} {st : Nat → α → α} {q : α → α → Prop} {g : α → Prop} {n k : Nat} (h0 : ∀ x, q x x) (ht : ∀ x y z, q x y → q y z → q x z) (hs : ∀ k x, q x (st k x)) (hk : k < n) (hg : ∀ x, g (st k x)) (hm : ∀ x y, q x y → g x → g y) (x : α) : g (zit st n x) := by
  induction n with
  | zero => omega
  | succ n ih =>
    rcases (show k < n ∨ k = n by omega) with h | h
    · exact hm _ _ (hs n _) (ih h)
    · subst h; exact hg _
theorem f_far_le {F : Int → Int} {n a b : Nat} (ha : a < n) (hb : b < n) (h : F ((a : Int) * 6 + b) < 1000000) : F ((a : Int) * 6 + b) ≤ f_far F n := by
  unfold f_far
  refine zit_has (q := fun x y : Int => x ≤ y) (g := fun x => F ((a : Int) * 6 + b) ≤ x) (k := a) (fun _ => Int.le_refl _) (fun _ _ _ => Int.le_trans) (fun k x => zit_mono (q := fun x y : Int => x ≤ y) (fun _ => Int.le_refl _) (fun _ _ _ => Int.le_trans) (fun j y => by unfold f_fr2; split <;> omega) n x) ha (fun x => ?_) (fun x y h1 h2 => Int.le_trans h2 h1) 0
  refine zit_has (q := fun x y : Int => x ≤ y) (g := fun x => F ((a : Int) * 6 + b) ≤ x) (k := b) (fun _ => Int.le_refl _) (fun _ _ _ => Int.le_trans) (fun j y => by unfold f_fr2; split <;> omega) hb (fun y => ?_) (fun x y h1 h2 => Int.le_trans h2 h1) x
  unfold f_fr2
  rw [if_pos h]
  omega
/-- what the rows hold after k walks -/
def f_rwR (F : Int → Int) (n : Nat) (pl t : Int) (k : Nat) (S : zS3) : Prop := (0 ≤ S.1 ∧ S.1 ≤ min t 999) ∧ (∀ z : Int, 0 ≤ z → z / 1000 < n → z % 1000 ≤ S.1 → S.2.1 z = f_wy F n pl k z) ∧ ∀ z : Int, 0 ≤ z → z / 1000 < n → z % 1000 ≤ min t 999 → S.1 < z % 1000 → f_wy F n pl k z = 0
theorem f_ct_s {F : Int → Int} {n : Nat} {pl t : Int} (hF : z_bd F 36 0 1000000) (hn : n ≤ 6) (ht : 0 ≤ t) {k : Nat} {S : zS3} (h : f_rwR F n pl t k S) : f_rwR F n pl t (k + 1) (f_ct F n t k S) := by
  obtain ⟨R, C, L⟩ := S
  obtain ⟨hR, hC, hZ⟩ := h
  simp only at hR hC hZ
  have hfb := f_far_b hF hn
  unfold f_ct
  simp only
  generalize hR2 : min (min t 999) (R + f_far F n) = R2
  have hterm : ∀ (z : Int) (fr : Nat), 0 ≤ z → z / 1000 < n → fr < n → z % 1000 ≤ R2 → f_wyt F (f_wy F n pl k) z fr = if (z / 1000 < n ∧ z / 1000 ≠ fr) ∧ F (fr * 6 + z / 1000) < 1000000 ∧ F (fr * 6 + z / 1000) ≤ z % 1000 ∧ z % 1000 ≤ R2 ∧ z % 1000 - F (fr * 6 + z / 1000) ≤ R then C (fr * 1000 + (z % 1000 - F (fr * 6 + z / 1000))) else 0 := by
    intro z fr h0 h1 h2 h3
    have hfz := hF (fr * 6 + z / 1000) (by omega) (by omega)
    unfold f_wyt
    split
    · next q =>
      split
      · next q2 =>
        exact (hC ((fr : Int) * 1000 + (z % 1000 - F ((fr : Int) * 6 + z / 1000))) (by omega) (by omega) (by omega)).symm
      · next q2 =>
        exact hZ ((fr : Int) * 1000 + (z % 1000 - F ((fr : Int) * 6 + z / 1000))) (by omega) (by omega) (by omega) (by omega)
    · next q =>
      rw [if_neg (fun hh => q ⟨fun e => hh.1.2 e.symm, hh.2.1, hh.2.2.1⟩)]
  have hsum : ∀ (z : Int), 0 ≤ z → z / 1000 < n → z % 1000 ≤ R2 → ∀ m, m ≤ n → zit (fun fr L => f_gr F n fr R2 R C L) m (f_cl R2 L) z = zsum (f_wyt F (f_wy F n pl k) z) m := by
    intro z h0 h1 h3 m
    induction m with
    | zero =>
      intro _
      show f_cl R2 L z = 0
      unfold f_cl f_clp
      rw [if_pos ⟨h3, by omega⟩]
    | succ m ih =>
      intro hm
      rw [zit, zsum, ← ih (by omega), hterm z m h0 h1 (by omega) h3]
      generalize zit (fun fr L => f_gr F n fr R2 R C L) m (f_cl R2 L) = L2
      unfold f_gr
      split <;> simp
  refine ⟨⟨by simp only; omega, by simp only; omega⟩, fun z h0 h1 h2 => ?_, fun z h0 h1 h2 h3 => ?_⟩
  · exact hsum z h0 h1 h2 n (Nat.le_refl _)
  · simp only at h3
    show zsum (f_wyt F (f_wy F n pl k) z) n = 0
    refine zsum_0 (fun fr hfr => ?_)
    unfold f_wyt
    split
    · next q =>
      have hz : z / 1000 = ((z / 1000).toNat : Int) := by omega
      have hfz := hF (fr * 6 + z / 1000) (by omega) (by omega)
      have hfl := f_far_le (F := F) (n := n) (a := fr) (b := (z / 1000).toNat) hfr (by omega) (by rw [← hz]; exact q.2.1)
      rw [← hz] at hfl
      exact hZ ((fr : Int) * 1000 + (z % 1000 - F ((fr : Int) * 6 + z / 1000))) (by omega) (by omega) (by omega) (by omega)
    · rfl
theorem f_rw_all {F : Int → Int} {n : Nat} {pl t : Int} {C0 L0 : Int → Int} (hF : z_bd F 36 0 1000000) (hn : n ≤ 6) (ht : 0 ≤ t) (hp : 0 ≤ pl ∧ pl < n) (w : Nat) : f_rwR F n pl t w (zit (f_ct F n t) w (0, zup (f_cl 0 C0) (pl * 1000) 1, L0)) := by
  refine zit_rel (R := fun k (x y : zS3) => x = y ∧ f_rwR F n pl t k x) (t := f_ct F n t) (n := w) (fun k x y hk h => ?_) w (Nat.le_refl _) _ _ ⟨rfl, ?_⟩ |>.2
  · rw [← h.1]; exact ⟨rfl, f_ct_s hF hn ht h.2⟩
  · refine ⟨⟨by simp only; omega, by simp only; omega⟩, fun z h0 h1 h2 => ?_, fun z h0 h1 h2 h3 => ?_⟩
    · simp only at h2
      simp only [zup, f_wy]
      split
      · rfl
      · unfold f_cl f_clp
        rw [if_pos ⟨h2, by omega⟩]
    · simp only at h3
      simp only [f_wy]
      rw [if_neg (by omega)]
