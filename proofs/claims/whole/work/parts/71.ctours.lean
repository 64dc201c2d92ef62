/-! the class's tours: the least over all orders of PLACES -/
/-- from fr, by the set Q of PLACES, each come to once, to y, for c -/
def zpp (D : Int → Int) (n fr : Nat) : Nat → Nat → Nat → Int → Prop
  | 0, Q, y, c => Q = 2 ^ fr ∧ y = fr ∧ c = 0
  | k + 1, Q, y, c => ∃ (Q' y' : Nat) (c' : Int), zpp D n fr k Q' y' c' ∧ y < n ∧ Q'.testBit y = false ∧ Q = Q' ||| 2 ^ y ∧ c = c' + D ((y' : Int) * 6 + y)
theorem zor_bit {Q y x : Nat} : (Q ||| 2 ^ y).testBit x = (Q.testBit x || decide (y = x)) := by rw [Nat.testBit_or, Nat.testBit_two_pow]
theorem zor_lt {Q y : Nat} (h : Q.testBit y = false) : Q < Q ||| 2 ^ y := by
  have h1 : Q ≤ Q ||| 2 ^ y := Nat.left_le_or
  have h2 : Q ≠ Q ||| 2 ^ y := fun e => by
    have : (Q ||| 2 ^ y).testBit y = true := by rw [zor_bit]; simp
    rw [← e, h] at this
    cases this
  omega
theorem zor_eq {Q y : Nat} (h : Q.testBit y = true) : Q ||| 2 ^ y = Q := by
  apply Nat.eq_of_testBit_eq
  intro i
  rw [zor_bit]
  by_cases hi : y = i
  · subst hi; rw [h]; rfl
  · simp [hi]
theorem zor_ne {Q y : Nat} (h : Q ||| 2 ^ y ≠ Q) : Q.testBit y = false := by
  cases hq : Q.testBit y with
  | false => rfl
  | true => exact absurd (zor_eq hq) h
theorem zpp_b {D : Int → Int} {n fr : Nat} (hf : fr < n) (hD : z_bd D 36 0 1000000) (hn : n ≤ 6) : ∀ k Q y c, zpp D n fr k Q y c → y < n ∧ Q.testBit y = true ∧ Q < 2 ^ n ∧ 0 ≤ c := by
  intro k
  induction k with
  | zero =>
    rintro Q y c ⟨rfl, rfl, rfl⟩
    exact ⟨hf, by rw [Nat.testBit_two_pow]; simp, Nat.pow_lt_pow_right (by omega) hf, Int.le_refl _⟩
  | succ k ih =>
    rintro Q y c ⟨Q', y', c', h, hy, hb, rfl, rfl⟩
    obtain ⟨h1, h2, h3, h4⟩ := ih Q' y' c' h
    have h5 := hD ((y' : Int) * 6 + y) (by omega) (by omega)
    exact ⟨hy, by rw [zor_bit]; simp, Nat.or_lt_two_pow h3 (Nat.pow_lt_pow_right (by omega) hy), by omega⟩
/-- the row of leasts, so far: what was gone on from is told by pr -/
def zLs (D : Int → Int) (n fr : Nat) (pr : Nat → Nat → Nat → Prop) (L : Int → Int) : Prop :=
  z_bd L 384 0 1000000 ∧ (∀ Q y : Nat, Q < 64 → y < n → L ((Q : Int) * 6 + y) < 1000000 → ∃ k, zpp D n fr k Q y (L ((Q : Int) * 6 + y))) ∧ L (((2 ^ fr : Nat) : Int) * 6 + fr) ≤ 0 ∧ ∀ (k Q' y' : Nat) (c' : Int) (y : Nat), zpp D n fr k Q' y' c' → y < n → Q'.testBit y = false → pr Q' y' y → L (((Q' ||| 2 ^ y : Nat) : Int) * 6 + y) ≤ c' + D ((y' : Int) * 6 + y)
theorem zLs_row {D L : Int → Int} {n fr m : Nat} {pr : Nat → Nat → Nat → Prop} (h : zLs D n fr pr L) (hp : ∀ Q' y' y, Q' < m → pr Q' y' y) : ∀ k y c, zpp D n fr k m y c → L ((m : Int) * 6 + y) ≤ c := by
  intro k y c hz
  cases k with
  | zero =>
    obtain ⟨rfl, rfl, rfl⟩ := hz
    exact h.2.2.1
  | succ k =>
    obtain ⟨Q', y', c', h1, hy, hb, rfl, rfl⟩ := hz
    exact h.2.2.2 k Q' y' c' y h1 hy hb (hp _ _ _ (zor_lt hb))
theorem zLs_gs {D L : Int → Int} {n fr m last x : Nat} {st : Int} {pr : Nat → Nat → Nat → Prop} (hD : z_bd D 36 0 1000000) (hn : n ≤ 6) (hm : m < 2 ^ n) (hl : last < n) (hx : x < n) (hst0 : 0 ≤ st) (hst : ∃ k, zpp D n fr k m last st) (hrow : ∀ k c, zpp D n fr k m last c → st ≤ c) (h : zLs D n fr pr L) : zLs D n fr (fun Q' y' y => pr Q' y' y ∨ (Q' = m ∧ y' = last ∧ y = x)) (f_gs D m last st x L) := by
  have hm6 : m < 64 := Nat.lt_of_lt_of_le hm (z_pn hn)
  have hb := f_gs_b (x := x) hD h.1 hm6 (show last < 6 by omega) (by omega) hst0
  obtain ⟨h1, h2, h3, h4⟩ := h
  refine ⟨hb, ?_⟩
  unfold f_gs
  by_cases e : m ||| 2 ^ x = m
  · rw [if_pos e]
    refine ⟨h2, h3, fun k Q' y' c' y hz hy hq hp => ?_⟩
    rcases hp with hp | ⟨rfl, rfl, rfl⟩
    · exact h4 k Q' y' c' y hz hy hq hp
    · have : (Q' ||| 2 ^ y).testBit y = true := by rw [zor_bit]; simp
      rw [e, hq] at this
      cases this
  · rw [if_neg e]
    have hxb := zor_ne e
    have ho := z_or_lt hm6 (z_pw (k := x) (by omega))
    have hle : ∀ z, zup L (((m ||| 2 ^ x : Nat) : Int) * 6 + x) (min (L (((m ||| 2 ^ x : Nat) : Int) * 6 + x)) (st + D ((last : Int) * 6 + x))) z ≤ L z := fun z => by
      unfold zup
      split
      · next hz => rw [hz]; omega
      · omega
    refine ⟨fun Q y hQ hy => ?_, Int.le_trans (hle _) h3, fun k Q' y' c' y hz hy hq hp => ?_⟩
    · by_cases hz : (Q : Int) * 6 + y = ((m ||| 2 ^ x : Nat) : Int) * 6 + x
      · have hy' : y = x := by omega
        have hQ' : Q = m ||| 2 ^ x := by omega
        subst hy' hQ'
        unfold zup
        rw [if_pos rfl]
        intro hlt
        by_cases hc : L (((m ||| 2 ^ y : Nat) : Int) * 6 + y) ≤ st + D ((last : Int) * 6 + y)
        · rw [Int.min_eq_left hc] at hlt ⊢
          exact h2 _ _ hQ hy hlt
        · rw [Int.min_eq_right (by omega)] at hlt ⊢
          obtain ⟨k, hk⟩ := hst
          exact ⟨k + 1, m, last, st, hk, hy, hxb, rfl, rfl⟩
      · have e2 : zup L (((m ||| 2 ^ x : Nat) : Int) * 6 + x) (min (L (((m ||| 2 ^ x : Nat) : Int) * 6 + x)) (st + D ((last : Int) * 6 + x))) ((Q : Int) * 6 + y) = L ((Q : Int) * 6 + y) := if_neg hz
        rw [e2]
        exact h2 Q y hQ hy
    · rcases hp with hp | ⟨rfl, rfl, rfl⟩
      · exact Int.le_trans (hle _) (h4 k Q' y' c' y hz hy hq hp)
      · unfold zup
        rw [if_pos rfl]
        have := hrow k c' hz
        omega
/-- the whole of a set, when its places below j were looked at -/
def zWs (D : Int → Int) (n fr home : Nat) (m j : Nat) (w : Int) : Prop := w ≤ 1000000 ∧ (∀ k y c, y < j → zpp D n fr k m y c → w ≤ c + D ((y : Int) * 6 + home)) ∧ (w < 1000000 → ∃ k y c, zpp D n fr k m y c ∧ w = c + D ((y : Int) * 6 + home))
theorem f_ts_ok {D : Int → Int} {n fr home m : Nat} (hD : z_bd D 36 0 1000000) (hn : n ≤ 6) (hf : fr < n) (hh : home < n) (hm : m < 2 ^ n) {L Wh : Int → Int} (h : zLs D n fr (fun Q' _ _ => Q' < m) L) : zLs D n fr (fun Q' _ _ => Q' < m + 1) (f_ts D n home m (L, Wh)).1 ∧ zWs D n fr home m n ((f_ts D n home m (L, Wh)).2 m) ∧ ∀ z, z ≠ (m : Int) → (f_ts D n home m (L, Wh)).2 z = Wh z := by
  have hm6 : m < 64 := Nat.lt_of_lt_of_le hm (z_pn hn)
  have key : zLs D n fr (fun Q' y' _ => Q' < m ∨ (Q' = m ∧ y' < n)) (f_ts D n home m (L, Wh)).1 ∧ zWs D n fr home m n ((f_ts D n home m (L, Wh)).2 m) ∧ ∀ z, z ≠ (m : Int) → (f_ts D n home m (L, Wh)).2 z = Wh z := by
    unfold f_ts
    refine zit_inv (p := fun j (S : (Int → Int) × (Int → Int)) => zLs D n fr (fun Q' y' _ => Q' < m ∨ (Q' = m ∧ y' < j)) S.1 ∧ zWs D n fr home m j (S.2 m) ∧ ∀ z, z ≠ (m : Int) → S.2 z = Wh z) (n := n) (fun j S hj hS => ?_) n (Nat.le_refl _) _ ⟨⟨h.1, h.2.1, h.2.2.1, fun k Q' y' c' y a b c d => h.2.2.2 k Q' y' c' y a b c (by omega)⟩, ?_, fun z hz => if_neg hz⟩
    · obtain ⟨A, X⟩ := S
      obtain ⟨hA, hX, hz⟩ := hS
      simp only at hA hX hz
      have hrow := zLs_row (m := m) hA (fun Q' y' y h => Or.inl h)
      have hA0 := hA.1 ((m : Int) * 6 + j) (by omega) (by omega)
      have hDh := hD ((j : Int) * 6 + home) (by omega) (by omega)
      refine ⟨?_, ?_, fun z h => ?_⟩
      · show zLs D n fr _ (if A ((m : Int) * 6 + j) < 1000000 then f_go D n m j (A ((m : Int) * 6 + j)) A else A)
        by_cases hlt : A ((m : Int) * 6 + j) < 1000000
        · rw [if_pos hlt]
          have hex := hA.2.1 m j hm6 hj hlt
          have hg : zLs D n fr (fun Q' y' y => (Q' < m ∨ (Q' = m ∧ y' < j)) ∨ (Q' = m ∧ y' = j ∧ y < n)) (f_go D n m j (A ((m : Int) * 6 + j)) A) := by
            unfold f_go
            refine zit_inv (p := fun x L => zLs D n fr (fun Q' y' y => (Q' < m ∨ (Q' = m ∧ y' < j)) ∨ (Q' = m ∧ y' = j ∧ y < x)) L) (n := n) (fun x L hx hL => ?_) n (Nat.le_refl _) _ ⟨hA.1, hA.2.1, hA.2.2.1, fun k Q' y' c' y a b c d => hA.2.2.2 k Q' y' c' y a b c (by omega)⟩
            have := zLs_gs hD hn hm hj hx hA0.1 hex (fun k c hz => hrow k j c hz) hL
            exact ⟨this.1, this.2.1, this.2.2.1, fun k Q' y' c' y a b c d => this.2.2.2 k Q' y' c' y a b c (by omega)⟩
          exact ⟨hg.1, hg.2.1, hg.2.2.1, fun k Q' y' c' y a b c d => hg.2.2.2 k Q' y' c' y a b c (by omega)⟩
        · rw [if_neg hlt]
          refine ⟨hA.1, hA.2.1, hA.2.2.1, fun k Q' y' c' y a b c d => ?_⟩
          by_cases hq : Q' < m ∨ (Q' = m ∧ y' < j)
          · exact hA.2.2.2 k Q' y' c' y a b c hq
          · have e1 : Q' = m := by omega
            have e2 : y' = j := by omega
            subst e1 e2
            have r := hrow k _ _ a
            have hby := (zpp_b hf hD hn k _ _ _ a).2.2.1
            have := hA.1 (((Q' ||| 2 ^ y : Nat) : Int) * 6 + y) (by omega) (by have := z_or_lt hm6 (z_pw (k := y) (by omega)); omega)
            have := hD ((y' : Int) * 6 + y) (by omega) (by omega)
            omega
      · show zWs D n fr home m (j + 1) (zup X m (min (X m) (A ((m : Int) * 6 + j) + D ((j : Int) * 6 + home))) m)
        have e : zup X m (min (X m) (A ((m : Int) * 6 + j) + D ((j : Int) * 6 + home))) m = min (X m) (A ((m : Int) * 6 + j) + D ((j : Int) * 6 + home)) := if_pos rfl
        rw [e]
        obtain ⟨x1, x2, x3⟩ := hX
        refine ⟨by omega, fun k y c hy hz => ?_, fun hlt => ?_⟩
        · by_cases hyj : y < j
          · have := x2 k y c hyj hz
            omega
          · have hyj : y = j := by omega
            subst hyj
            have := hrow k y c hz
            omega
        · by_cases hc : X m ≤ A ((m : Int) * 6 + j) + D ((j : Int) * 6 + home)
          · rw [Int.min_eq_left hc] at hlt ⊢
            exact x3 hlt
          · rw [Int.min_eq_right (by omega)] at hlt ⊢
            obtain ⟨k, hk⟩ := hA.2.1 m j hm6 hj (by omega)
            exact ⟨k, j, _, hk, rfl⟩
      · show zup X m _ z = Wh z
        unfold zup
        rw [if_neg h]
        exact hz z h
    · show zWs D n fr home m 0 (zup Wh m 1000000 m)
      have e : zup Wh m 1000000 m = 1000000 := if_pos rfl
      rw [e]
      exact ⟨Int.le_refl _, fun k y c hy => absurd hy (by omega), fun h => absurd h (by omega)⟩
  refine ⟨⟨key.1.1, key.1.2.1, key.1.2.2.1, fun k Q' y' c' y a b c d => key.1.2.2.2 k Q' y' c' y a b c ?_⟩, key.2⟩
  have := (zpp_b hf hD hn k _ _ _ a).1
  omega
theorem f_tr_ok {D W0 : Int → Int} {n fr home : Nat} (hD : z_bd D 36 0 1000000) (hn : n ≤ 6) (hf : fr < n) (hh : home < n) : ∀ Q, Q < 2 ^ n → zWs D n fr home Q n ((f_tr D n home fr W0).2 Q) := by
  have h6 := z_pn hn
  have hpf := Nat.pow_lt_pow_right (a := 2) (by omega) hf
  have key := zit_inv (s := f_ts D n home) (p := fun m (S : (Int → Int) × (Int → Int)) => zLs D n fr (fun Q' _ _ => Q' < m) S.1 ∧ ∀ Q : Nat, Q < m → zWs D n fr home Q n (S.2 Q)) (n := 2 ^ n) (fun m S hm hS => by
    obtain ⟨A, X⟩ := S
    obtain ⟨h1, h2, h3⟩ := f_ts_ok hD hn hf hh hm (Wh := X) hS.1
    refine ⟨h1, fun Q hQ => ?_⟩
    by_cases e : Q = m
    · subst e; exact h2
    · rw [h3 Q (by omega)]; exact hS.2 Q (by omega)) (2 ^ n) (Nat.le_refl _) (zup (fun _ => 1000000) (((2 ^ fr : Nat) : Int) * 6 + fr) 0, W0) ⟨?_, fun Q h => absurd h (by omega)⟩
  · exact key.2
  · refine ⟨fun z h0 h1 => ?_, fun Q y hQ hy hlt => ?_, ?_, fun k Q' y' c' y _ _ _ h => absurd h (by omega)⟩
    · show 0 ≤ (if z = (((2 ^ fr : Nat) : Int) * 6 + fr) then (0 : Int) else 1000000) ∧ (if z = (((2 ^ fr : Nat) : Int) * 6 + fr) then (0 : Int) else 1000000) ≤ 1000000
      split <;> omega
    · have hlt : (if (Q : Int) * 6 + y = (((2 ^ fr : Nat) : Int) * 6 + fr) then (0 : Int) else 1000000) < 1000000 := hlt
      show ∃ k, zpp D n fr k Q y (if (Q : Int) * 6 + y = (((2 ^ fr : Nat) : Int) * 6 + fr) then (0 : Int) else 1000000)
      by_cases e : (Q : Int) * 6 + y = ((2 ^ fr : Nat) : Int) * 6 + fr
      · rw [if_pos e]
        exact ⟨0, by omega, by omega, rfl⟩
      · rw [if_neg e] at hlt; omega
    · show zup (fun _ => 1000000) (((2 ^ fr : Nat) : Int) * 6 + fr) 0 (((2 ^ fr : Nat) : Int) * 6 + fr) ≤ 0
      unfold zup
      rw [if_pos rfl]
      omega
