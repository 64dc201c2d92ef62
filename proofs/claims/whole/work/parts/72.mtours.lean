/-! the other one's tours: the least over all orders of ERRANDS; c in the class's ways, g in the other one's -/
def zep (D M W K : Int → Int) (w fr : Int) (e : Nat) : Nat → Nat → Int → Int → Int → Prop
  | 0, s, p, c, g => s = 0 ∧ p = fr ∧ c = 0 ∧ g = 0
  | k + 1, s, p, c, g => ∃ (s' : Nat) (p' c' g' : Int) (x : Nat), zep D M W K w fr e k s' p' c' g' ∧ x < e ∧ s'.testBit x = false ∧ (K x = 2 ∨ K x = w) ∧ s = s' ||| 2 ^ x ∧ p = W x ∧ c = c' + D (p' * 6 + W x) ∧ g = g' + M (6 * p' + W x)
/-- a way to the set s whose last errand is x -/
def zel (D M W K : Int → Int) (w fr : Int) (e k s x : Nat) (c g : Int) : Prop := ∃ (s' : Nat) (p' c' g' : Int), zep D M W K w fr e k s' p' c' g' ∧ s'.testBit x = false ∧ (K x = 2 ∨ K x = w) ∧ s = s' ||| 2 ^ x ∧ c = c' + D (p' * 6 + W x) ∧ g = g' + M (6 * p' + W x)
theorem zep_s {D M W K : Int → Int} {w fr : Int} {e k s x : Nat} {c g : Int} (hx : x < e) (h : zel D M W K w fr e k s x c g) : zep D M W K w fr e (k + 1) s (W x) c g := by
  obtain ⟨s', p', c', g', h1, h2, h3, h4, h5, h6⟩ := h
  exact ⟨s', p', c', g', x, h1, hx, h2, h3, h4, rfl, h5, h6⟩
theorem zep_c {D M W K : Int → Int} {w fr : Int} {e k s : Nat} {p c g : Int} (h : zep D M W K w fr e k s p c g) : (k = 0 ∧ s = 0 ∧ p = fr ∧ c = 0 ∧ g = 0) ∨ ∃ j x, k = j + 1 ∧ x < e ∧ p = W x ∧ s.testBit x = true ∧ zel D M W K w fr e j s x c g := by
  cases k with
  | zero => exact Or.inl ⟨rfl, h⟩
  | succ k =>
    obtain ⟨s', p', c', g', x, h1, hx, h2, h3, h4, h5, h6, h7⟩ := h
    exact Or.inr ⟨k, x, rfl, hx, h5, by rw [h4, zor_bit]; simp, s', p', c', g', h1, h2, h3, h4, h6, h7⟩
/-- v is the least of the ways to s by x -/
def zlk (D M W K : Int → Int) (w fr : Int) (e s x : Nat) (v : Int) : Prop := (0 ≤ v ∧ v ≤ 99999) ∧ (∀ k c g, zel D M W K w fr e k s x c g → v ≤ g) ∧ (v < 99999 → ∃ k c, zel D M W K w fr e k s x c v)
def zlo (D M W K : Int → Int) (w fr : Int) (e m j : Nat) (leg : Int → Int) : Prop := ∀ s x : Nat, x < e → (s < m ∨ (s = m ∧ x < j)) → zlk D M W K w fr e s x (leg (6 * (s : Int) + x))
theorem zdf_or2 {s x : Nat} (hs : s < 64) (hx : x < 6) (h : s.testBit x = true) : zdf s (2 ^ x) ||| 2 ^ x = s := by
  refine z_bits (z_or_lt (z_df_lt hs) (z_pw hx)) hs (fun i hi => ?_)
  rw [zor_bit, z_df_bit hi, Nat.testBit_two_pow]
  by_cases e : x = i
  · subst e; simp [h]
  · simp [e]
theorem zdf_bit2 {s x : Nat} (hx : x < 6) : (zdf s (2 ^ x)).testBit x = false := by
  rw [z_df_bit hx, Nat.testBit_two_pow]; simp
theorem zor_cut {s' x : Nat} (hs : s' < 64) (hx : x < 6) (h : s'.testBit x = false) : zdf (s' ||| 2 ^ x) (2 ^ x) = s' := by
  refine z_bits (z_df_lt (z_or_lt hs (z_pw hx))) hs (fun i hi => ?_)
  rw [z_df_bit hi, zor_bit, Nat.testBit_two_pow]
  by_cases e : x = i
  · subst e; simp [h]
  · simp [e]
theorem zep_b {D M W K : Int → Int} {w : Int} {fr e n : Nat} (hW : z_bd W e 0 (n - 1)) (hf : fr < n) (he : e ≤ 6) : ∀ k s p c g, zep D M W K w fr e k s p c g → (0 ≤ p ∧ p < n) ∧ s < 2 ^ e ∧ ∀ x, x < 6 → s.testBit x = true → K x = 2 ∨ K x = w := by
  intro k
  induction k with
  | zero =>
    rintro s p c g ⟨rfl, rfl, rfl, rfl⟩
    exact ⟨by omega, Nat.two_pow_pos e, fun x _ h => by simp at h⟩
  | succ k ih =>
    rintro s p c g ⟨s', p', c', g', x, h1, hx, h2, h3, rfl, rfl, rfl, rfl⟩
    obtain ⟨i1, i2, i3⟩ := ih _ _ _ _ h1
    have := hW x (by omega) (by omega)
    refine ⟨by omega, Nat.or_lt_two_pow i2 (Nat.pow_lt_pow_right (by omega) hx), fun y hy h => ?_⟩
    rw [zor_bit] at h
    by_cases e : x = y
    · subst e; exact h3
    · exact i3 y hy (by simpa [e] using h)
theorem f_lu_ok {D M W K leg : Int → Int} {w : Int} {fr e n set x : Nat} (hM : z_bd M 36 0 99999) (hW : z_bd W e 0 (n - 1)) (hn : n ≤ 6) (he : e ≤ 6) (hfr : fr < n) (hx : x < e) (hs : set < 64) (hb : set.testBit x = true) (hk : K x = 2 ∨ K x = w) (hl : zlo D M W K w fr e set x leg) : zlk D M W K w fr e set x (if 99999 < f_lu M W leg fr e (zdf set (2 ^ x)) x then 99999 else f_lu M W leg fr e (zdf set (2 ^ x)) x) := by
  have hlt := zdf_lt (by omega : x < 6) hb
  have hWx := hW x (by omega) (by omega)
  have hMfr := hM (6 * (fr : Int) + W x) (by omega) (by omega)
  -- the least over the errands below j that stand ahead
  have key : (0 ≤ f_lu M W leg fr e (zdf set (2 ^ x)) x ∧ f_lu M W leg fr e (zdf set (2 ^ x)) x ≤ 99999) ∧ (zdf set (2 ^ x) = 0 → f_lu M W leg fr e (zdf set (2 ^ x)) x ≤ M (6 * fr + W x)) ∧ (∀ b : Nat, b < e → (zdf set (2 ^ x)).testBit b = true → f_lu M W leg fr e (zdf set (2 ^ x)) x ≤ leg (6 * ((zdf set (2 ^ x) : Nat) : Int) + b) + M (6 * W b + W x)) ∧ (f_lu M W leg fr e (zdf set (2 ^ x)) x < 99999 → (zdf set (2 ^ x) = 0 ∧ f_lu M W leg fr e (zdf set (2 ^ x)) x = M (6 * fr + W x)) ∨ ∃ b : Nat, b < e ∧ (zdf set (2 ^ x)).testBit b = true ∧ f_lu M W leg fr e (zdf set (2 ^ x)) x = leg (6 * ((zdf set (2 ^ x) : Nat) : Int) + b) + M (6 * W b + W x)) := by
    unfold f_lu
    refine zit_inv (p := fun j v => (0 ≤ v ∧ v ≤ 99999) ∧ (zdf set (2 ^ x) = 0 → v ≤ M (6 * fr + W x)) ∧ (∀ b : Nat, b < j → (zdf set (2 ^ x)).testBit b = true → v ≤ leg (6 * ((zdf set (2 ^ x) : Nat) : Int) + b) + M (6 * W b + W x)) ∧ (v < 99999 → (zdf set (2 ^ x) = 0 ∧ v = M (6 * fr + W x)) ∨ ∃ b : Nat, b < e ∧ (zdf set (2 ^ x)).testBit b = true ∧ v = leg (6 * ((zdf set (2 ^ x) : Nat) : Int) + b) + M (6 * W b + W x))) (n := e) (fun j v hj hv => ?_) e (Nat.le_refl _) _ ⟨by split <;> omega, fun h => by rw [if_pos h]; exact Int.le_refl _, fun b h => absurd h (by omega), fun h => Or.inl ?_⟩
    · obtain ⟨v1, v2, v3, v4⟩ := hv
      unfold f_lb
      by_cases hjb : (zdf set (2 ^ x)).testBit j = true
      · rw [if_pos hjb]
        have hj0 := (hl (zdf set (2 ^ x)) j hj (Or.inl hlt)).1
        have hWj := hW j (by omega) (by omega)
        have hMj := hM (6 * W j + W x) (by omega) (by omega)
        by_cases hc : leg (6 * ((zdf set (2 ^ x) : Nat) : Int) + j) + M (6 * W j + W x) < v
        · rw [if_pos hc]
          refine ⟨by omega, fun h => by have := v2 h; omega, fun b hb' hbb => ?_, fun _ => Or.inr ⟨j, hj, hjb, rfl⟩⟩
          by_cases e1 : b = j
          · rw [e1]; exact Int.le_refl _
          · have := v3 b (by omega) hbb; omega
        · rw [if_neg hc]
          refine ⟨v1, v2, fun b hb' hbb => ?_, v4⟩
          by_cases e1 : b = j
          · rw [e1]; omega
          · exact v3 b (by omega) hbb
      · rw [if_neg hjb]
        refine ⟨v1, v2, fun b hb' hbb => ?_, v4⟩
        by_cases e1 : b = j
        · rw [e1] at hbb; exact absurd hbb hjb
        · exact v3 b (by omega) hbb
    · by_cases h0 : zdf set (2 ^ x) = 0
      · rw [if_pos h0]; exact ⟨h0, rfl⟩
      · rw [if_neg h0] at h; omega
  obtain ⟨k1, k2, k3, k4⟩ := key
  rw [if_neg (by omega)]
  refine ⟨k1, fun k c g hz => ?_, fun h => ?_⟩
  · obtain ⟨s', p', c', g', h1, h2, h3, h4, rfl, rfl⟩ := hz
    have hs' := (zep_b hW hfr he k s' p' c' g' h1).2.1
    have e1 : zdf set (2 ^ x) = s' := by rw [h4]; exact zor_cut (Nat.lt_of_lt_of_le hs' (z_pn he)) (by omega) h2
    rcases zep_c h1 with ⟨_, a1, rfl, _, rfl⟩ | ⟨j, b, _, hb1, rfl, hb2, hel⟩
    · have := k2 (by rw [e1, a1])
      omega
    · have q1 := k3 b hb1 (by rw [e1]; exact hb2)
      have q2 := (hl (zdf set (2 ^ x)) b hb1 (Or.inl hlt)).2.1 j c' g' (by rw [e1]; exact hel)
      omega
  · rcases k4 h with ⟨h0, h1⟩ | ⟨b, hb1, hb2, h1⟩
    · refine ⟨0, D ((fr : Int) * 6 + W x), 0, fr, 0, 0, ⟨rfl, rfl, rfl, rfl⟩, by simp, hk, ?_, by omega, by omega⟩
      rw [← h0]; exact (zdf_or2 hs (by omega) hb).symm
    · have hlb := hl (zdf set (2 ^ x)) b hb1 (Or.inl hlt)
      have hWb := hW b (by omega) (by omega)
      have hMb := hM (6 * W b + W x) (by omega) (by omega)
      obtain ⟨k, c, hel⟩ := hlb.2.2 (by omega)
      exact ⟨k + 1, c + D (W b * 6 + W x), zdf set (2 ^ x), W b, c, _, zep_s hb1 hel, zdf_bit2 (by omega), hk, (zdf_or2 hs (by omega) hb).symm, rfl, h1⟩
theorem f_lev_ok {D M W K leg : Int → Int} {w : Int} {fr e n set x : Nat} (hM : z_bd M 36 0 99999) (hW : z_bd W e 0 (n - 1)) (hn : n ≤ 6) (he : e ≤ 6) (hfr : fr < n) (hx : x < e) (hs : set < 64) (hl : zlo D M W K w fr e set x leg) : zlk D M W K w fr e set x (f_lev M W K leg w fr e set x) := by
  unfold f_lev
  by_cases hc : set.testBit x = true ∧ (K x = 2 ∨ K x = w)
  · rw [if_pos hc]; exact f_lu_ok hM hW hn he hfr hx hs hc.1 hc.2 hl
  · rw [if_neg hc]
    refine ⟨by omega, fun k c g hz => ?_, fun h => absurd h (by omega)⟩
    obtain ⟨s', p', c', g', h1, h2, h3, h4, rfl, rfl⟩ := hz
    exact absurd ⟨by rw [h4, zor_bit]; simp, h3⟩ hc
/-- v is the least of all ways to s and on to to -/
def ztk (D M W K : Int → Int) (w fr to : Int) (e s : Nat) (v : Int) : Prop := (0 ≤ v ∧ v ≤ 99999) ∧ (∀ k p c g, zep D M W K w fr e k s p c g → v ≤ g + M (6 * p + to)) ∧ (v < 99999 → ∃ k p c g, zep D M W K w fr e k s p c g ∧ v = g + M (6 * p + to))
theorem f_lsr_ok {D M W K leg : Int → Int} {w : Int} {fr to e n set : Nat} (hM : z_bd M 36 0 99999) (hW : z_bd W e 0 (n - 1)) (hn : n ≤ 6) (he : e ≤ 6) (hfr : fr < n) (hto : to < n) (hs : set < 64) (hl : zlo D M W K w fr e set 0 leg) : zlo D M W K w fr e set e (f_lsr M W K w fr to e set leg e).2 ∧ ztk D M W K w fr to e set (f_lsr M W K w fr to e set leg e).1 := by
  have hMf := hM (6 * (fr : Int) + to) (by omega) (by omega)
  have key : zlo D M W K w fr e set e (f_lsr M W K w fr to e set leg e).2 ∧ (0 ≤ (f_lsr M W K w fr to e set leg e).1 ∧ (f_lsr M W K w fr to e set leg e).1 ≤ 99999) ∧ (set = 0 → (f_lsr M W K w fr to e set leg e).1 ≤ M (6 * fr + to)) ∧ (∀ (x k : Nat) (c g : Int), x < e → zel D M W K w fr e k set x c g → (f_lsr M W K w fr to e set leg e).1 ≤ g + M (6 * W x + to)) ∧ ((f_lsr M W K w fr to e set leg e).1 < 99999 → ∃ k p c g, zep D M W K w fr e k set p c g ∧ (f_lsr M W K w fr to e set leg e).1 = g + M (6 * p + to)) := by
    unfold f_lsr
    refine zit_inv (p := fun j (S : Int × (Int → Int)) => zlo D M W K w fr e set j S.2 ∧ (0 ≤ S.1 ∧ S.1 ≤ 99999) ∧ (set = 0 → S.1 ≤ M (6 * fr + to)) ∧ (∀ (x k : Nat) (c g : Int), x < j → zel D M W K w fr e k set x c g → S.1 ≤ g + M (6 * W x + to)) ∧ (S.1 < 99999 → ∃ k p c g, zep D M W K w fr e k set p c g ∧ S.1 = g + M (6 * p + to))) (n := e) (fun j S hj hS => ?_) e (Nat.le_refl _) _ ⟨hl, ?_, fun h => ?_, fun x k c g h => absurd h (by omega), fun h => ?_⟩
    · obtain ⟨b, L⟩ := S
      obtain ⟨s1, s2, s3, s4, s5⟩ := hS
      simp only at s1 s2 s3 s4 s5
      have hv := f_lev_ok hM hW hn he hfr hj hs s1
      have hWj := hW j (by omega) (by omega)
      have hMj := hM (6 * W j + to) (by omega) (by omega)
      unfold f_lxs
      simp only
      generalize hve : f_lev M W K L w fr e set j = v at *
      refine ⟨fun s x hx hsx => ?_, ?_⟩
      · unfold zup
        by_cases hz : 6 * (s : Int) + x = 6 * (set : Int) + j
        · rw [if_pos hz]
          have e1 : x = j := by omega
          have e2 : s = set := by omega
          rw [e1, e2]; exact hv
        · rw [if_neg hz]; exact s1 s x hx (by omega)
      · by_cases hc : set.testBit j = true ∧ (K j = 2 ∨ K j = w)
        · rw [if_pos hc]
          by_cases hlt : v + M (6 * W j + to) < b
          · rw [if_pos hlt]
            have hv0 := hv.1
            refine ⟨by omega, fun h => by have := s3 h; omega, fun x k c g hx hz => ?_, fun h => ?_⟩
            · by_cases e1 : x = j
              · subst e1
                have := hv.2.1 k c g hz
                omega
              · have := s4 x k c g (by omega) hz
                omega
            · obtain ⟨k, c, hz⟩ := hv.2.2 (by omega)
              exact ⟨k + 1, W j, c, v, zep_s hj hz, rfl⟩
          · rw [if_neg hlt]
            refine ⟨s2, s3, fun x k c g hx hz => ?_, s5⟩
            by_cases e1 : x = j
            · subst e1
              have := hv.2.1 k c g hz
              omega
            · exact s4 x k c g (by omega) hz
        · rw [if_neg hc]
          refine ⟨s2, s3, fun x k c g hx hz => ?_, s5⟩
          by_cases e1 : x = j
          · subst e1
            obtain ⟨s', p', c', g', h1, h2, h3, h4, h5, h6⟩ := hz
            exact absurd ⟨by rw [h4, zor_bit]; simp, h3⟩ hc
          · exact s4 x k c g (by omega) hz
    · show 0 ≤ (if set = 0 then M (6 * fr + to) else 99999) ∧ (if set = 0 then M (6 * fr + to) else 99999) ≤ 99999
      split <;> omega
    · show (if set = 0 then M (6 * fr + to) else 99999) ≤ _
      rw [if_pos h]; exact Int.le_refl _
    · have h : (if set = 0 then M (6 * fr + to) else 99999) < 99999 := h
      show ∃ k p c g, zep D M W K w fr e k set p c g ∧ (if set = 0 then M (6 * fr + to) else 99999) = g + M (6 * p + to)
      by_cases h0 : set = 0
      · rw [if_pos h0]
        exact ⟨0, fr, 0, 0, ⟨h0, rfl, rfl, rfl⟩, by omega⟩
      · rw [if_neg h0] at h; omega
  obtain ⟨k1, k2, k3, k4, k5⟩ := key
  refine ⟨k1, k2, fun k p c g hz => ?_, k5⟩
  rcases zep_c hz with ⟨_, a1, rfl, _, rfl⟩ | ⟨j, b, _, hb1, rfl, hb2, hel⟩
  · have := k3 a1; omega
  · exact k4 b j c g hb1 hel
theorem f_mt_ok {D M W K : Int → Int} {w : Int} {fr to e n : Nat} (hM : z_bd M 36 0 99999) (hW : z_bd W e 0 (n - 1)) (hn : n ≤ 6) (he : e ≤ 6) (hfr : fr < n) (hto : to < n) : ∀ s, s < 64 → ztk D M W K w fr to e s (f_mt M W K w fr to e s) := by
  intro s hs
  unfold f_mt f_lts
  have key := zit_inv (s := f_lss M W K w fr to e) (p := fun m (S : (Int → Int) × (Int → Int)) => zlo D M W K w fr e m 0 S.1 ∧ ∀ s : Nat, s < m → ztk D M W K w fr to e s (S.2 (64 * w + s))) (n := 64) (fun m S hm hS => by
    obtain ⟨A, X⟩ := S
    obtain ⟨s1, s2⟩ := hS
    simp only at s1 s2
    obtain ⟨r1, r2⟩ := f_lsr_ok hM hW hn he hfr hto hm s1
    unfold f_lss
    simp only
    generalize hve : f_lsr M W K w fr to e m A e = R at *
    obtain ⟨v, L⟩ := R
    simp only at r1 r2 ⊢
    refine ⟨fun s x hx hsx => r1 s x hx (by omega), fun s hs => ?_⟩
    have hv := r2.1
    rw [if_neg (by omega)]
    unfold zup
    by_cases e1 : s = m
    · subst e1; rw [if_pos rfl]; exact r2
    · rw [if_neg (by omega)]; exact s2 s (by omega)) 64 (Nat.le_refl _) (fun _ => 0, fun _ => 0) ⟨fun s x hx h => absurd h (by omega), fun s h => absurd h (by omega)⟩
  exact key.2 s hs
