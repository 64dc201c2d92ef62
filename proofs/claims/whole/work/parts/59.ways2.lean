def zL (J : zJ) (q : Nat) (N : Int) (f : Int → Int) : Prop := ∀ z : Int, 0 ≤ z → z < N → J q z.toNat = lI (f z)
theorem zL_set {J : zJ} {q : Nat} {N : Int} {f : Int → Int} (h : zL J q N f) {z : Int} (h0 : 0 ≤ z) (x : Int) : zL (zu J q (zu (J q) z.toNat (lI x))) q N (zup f z x) := by
  intro w a b
  rw [zu_s]
  by_cases e : w = z
  · rw [e, zu_s, zup_s]
  · rw [zu_n _ _ (by omega), zup_n e]
    exact h w a b
theorem zL_fr {J J1 : zJ} {q : Nat} {N : Int} {f : Int → Int} (h : zL J q N f) (e : J1 q = J q) : zL J1 q N f := fun z a b => by rw [e]; exact h z a b
theorem zL_eq {J : zJ} {q : Nat} {N : Int} {f g : Int → Int} (h : zL J q N f) (e : ∀ z, 0 ≤ z → z < N → f z = g z) : zL J q N g := fun z a b => by rw [h z a b, e z a b]
theorem zL_push {J : zJ} {q : Nat} {j : Nat} {f : Int → Int} (h : zL J q j f) : zL (zu J q (zu (J q) (j : Int).toNat (lI (f j)))) q ((j + 1 : Nat) : Int) f := by
  intro w a b
  rw [zu_s]
  by_cases e : w = (j : Int)
  · rw [e, zu_s]
  · rw [zu_n _ _ (by omega)]
    exact h w a (by omega)
theorem zL_0 {J : zJ} {q : Nat} {f : Int → Int} : zL J q ((0 : Nat) : Int) f := fun z a b => absurd b (by omega)
/-- one walk more, as the other one counts: from the row's place k to a place -/
def f_mwt (M : Int → Int) (t : Int) (C : Int → Int) (k to : Nat) (L : Int → Int) : Int → Int := if 0 < C k ∧ (¬ (to : Int) = (k : Int) / 1000 ∧ (k : Int) % 1000 + M (6 * ((k : Int) / 1000) + to) ≤ t) then zup L (1000 * (to : Int) + ((k : Int) % 1000 + M (6 * ((k : Int) / 1000) + to))) (L (1000 * (to : Int) + ((k : Int) % 1000 + M (6 * ((k : Int) / 1000) + to))) + C k) else L
def f_mwk (M : Int → Int) (n : Nat) (t : Int) (C : Int → Int) (k : Nat) (L : Int → Int) : Int → Int := zit (f_mwt M t C k) n L
def f_mws (M : Int → Int) (n : Nat) (t : Int) (_ : Nat) (C : Int → Int) : Int → Int := zit (f_mwk M n t C) 6000 (fun _ => 0)
def f_mw0 (pl z : Int) : Int := if z = 1000 * pl then 1 else 0
theorem f_mwt_no {M : Int → Int} {t : Int} {C : Int → Int} {k : Nat} (h : ¬ 0 < C k) (L : Int → Int) : ∀ m, zit (f_mwt M t C k) m L = L := by
  intro m
  induction m with
  | zero => rfl
  | succ m ih => rw [zit, ih, f_mwt, if_neg (fun hh => h hh.1)]
theorem zsum_add {g : Nat → Int} {m : Nat} : ∀ n, zsum g (m + n) = zsum g m + zsum (fun c => g (m + c)) n := by
  intro n
  induction n with
  | zero => simp [zsum]
  | succ n ih => rw [show m + (n + 1) = (m + n) + 1 by omega, zsum, ih, zsum, Int.add_assoc]
theorem zsum_mul {g : Nat → Int} {m : Nat} : ∀ n, zsum g (m * n) = zsum (fun a => zsum (fun c => g (m * a + c)) m) n := by
  intro n
  induction n with
  | zero => rfl
  | succ n ih => rw [show m * (n + 1) = m * n + m by rw [Nat.mul_succ], zsum_add, ih, zsum]
theorem zsum_sgl {g : Nat → Int} {n j : Nat} (hj : j < n) (h : ∀ k, k < n → k ≠ j → g k = 0) : zsum g n = g j := by
  have := zsum_up (f := fun _ => (0 : Int)) (g := g) (x := g j) hj (by simp) (fun k hk hn => h k hk hn)
  rw [this, zsum_0 (fun _ _ => rfl)]
  omega
/-- what the row's place k brings to z -/
def f_mwg (M : Int → Int) (C : Int → Int) (z : Int) (k : Nat) : Int := if ¬ z / 1000 = (k : Int) / 1000 ∧ (k : Int) % 1000 + M (6 * ((k : Int) / 1000) + z / 1000) = z % 1000 then C k else 0
theorem f_mwk_z {M : Int → Int} {n : Nat} {t : Int} {C L : Int → Int} {k : Nat} {z : Int} (hn : n ≤ 6) (ht : t ≤ 999) (hz0 : 0 ≤ z) (hz : z / 1000 < n) (hzt : z % 1000 ≤ t) (hC : 0 ≤ C k) (hk : k < 6000) (hM : z_bd M 36 0 99999) : f_mwk M n t C k L z = L z + f_mwg M C z k := by
  have key : ∀ m, m ≤ n → zit (f_mwt M t C k) m L z = if z / 1000 < m then L z + f_mwg M C z k else L z := by
    intro m
    induction m with
    | zero => intro _; rw [if_neg (by omega)]; rfl
    | succ m ih =>
      intro hm
      have i := ih (by omega)
      have hMm := hM (6 * ((k : Int) / 1000) + m) (by omega) (by omega)
      rw [zit]
      generalize zit (f_mwt M t C k) m L = L2 at i
      unfold f_mwt
      by_cases q : 0 < C k ∧ (¬ (m : Int) = (k : Int) / 1000 ∧ (k : Int) % 1000 + M (6 * ((k : Int) / 1000) + m) ≤ t)
      · rw [if_pos q]
        by_cases e : z = 1000 * (m : Int) + ((k : Int) % 1000 + M (6 * ((k : Int) / 1000) + m))
        · have ez : z / 1000 = m := by omega
          rw [← e, zup_s, i, if_neg (by omega), if_pos (by omega)]
          unfold f_mwg
          rw [ez, if_pos ⟨q.2.1, by omega⟩]
        · rw [zup_n e, i]
          by_cases ez : z / 1000 = m
          · rw [if_neg (by omega), if_pos (by omega)]
            unfold f_mwg
            rw [ez, if_neg (by omega)]
            omega
          · by_cases el : z / 1000 < m
            · rw [if_pos el, if_pos (by omega)]
            · rw [if_neg el, if_neg (by omega)]
      · rw [if_neg q, i]
        by_cases ez : z / 1000 = m
        · rw [if_neg (by omega), if_pos (by omega)]
          unfold f_mwg
          rw [ez]
          split
          · next q2 => omega
          · omega
        · by_cases el : z / 1000 < m
          · rw [if_pos el, if_pos (by omega)]
          · rw [if_neg el, if_neg (by omega)]
  have := key n (Nat.le_refl _)
  rw [if_pos (by omega)] at this
  exact this
theorem f_mwk_o {M : Int → Int} {n : Nat} {t : Int} {C L : Int → Int} {k : Nat} {z : Int} (hn : n ≤ 6) (ht : t ≤ 999) (hz : ¬ (z / 1000 < n ∧ z % 1000 ≤ t)) (hk : k < 6000) (hM : z_bd M 36 0 99999) : f_mwk M n t C k L z = L z := by
  have key : ∀ m, m ≤ n → zit (f_mwt M t C k) m L z = L z := by
    intro m
    induction m with
    | zero => intro _; rfl
    | succ m ih =>
      intro hm
      have i := ih (by omega)
      have hMm := hM (6 * ((k : Int) / 1000) + m) (by omega) (by omega)
      rw [zit]
      generalize zit (f_mwt M t C k) m L = L2 at i
      unfold f_mwt
      split
      · next q => rw [zup_n (by omega)]; exact i
      · exact i
  exact key n (Nat.le_refl _)
/-- the rows, place by place, are the ways counted -/
theorem f_mws_wy {F : Int → Int} {n : Nat} {pl t : Int} (hF : zD F) (hn : n ≤ 6) (ht : 0 ≤ t ∧ t ≤ 999) (hp : 0 ≤ pl ∧ pl < n) : ∀ j, ∀ z : Int, 0 ≤ z → z < 6000 → zit (f_mws (mF F) n t) j (f_mw0 pl) z = if z / 1000 < n ∧ z % 1000 ≤ t then f_wy F n pl j z else 0 := by
  have hM := mF_b hF
  intro j
  induction j with
  | zero =>
    intro z h0 h1
    show f_mw0 pl z = _
    unfold f_mw0 f_wy
    by_cases q : z = 1000 * pl
    · rw [if_pos q, if_pos (by omega), if_pos (by omega)]
    · rw [if_neg q]
      split
      · rw [if_neg (by omega)]
      · rfl
  | succ j ih =>
    intro z h0 h1
    rw [zit]
    generalize hC : zit (f_mws (mF F) n t) j (f_mw0 pl) = C at ih
    have hC0 : ∀ k : Nat, k < 6000 → 0 ≤ C k := fun k hk => by
      rw [ih k (by omega) (by omega)]
      split
      · exact (f_wy_b hn j _).1
      · exact Int.le_refl _
    show zit (f_mwk (mF F) n t C) 6000 (fun _ => 0) z = _
    by_cases q : z / 1000 < n ∧ z % 1000 ≤ t
    · rw [if_pos q]
      have key : ∀ m, m ≤ 6000 → zit (f_mwk (mF F) n t C) m (fun _ => 0) z = zsum (f_mwg (mF F) C z) m := by
        intro m
        induction m with
        | zero => intro _; rfl
        | succ m ihm =>
          intro hm
          rw [zit, f_mwk_z hn ht.2 h0 q.1 q.2 (hC0 m (by omega)) (by omega) hM, ihm (by omega), zsum]
      rw [key 6000 (Nat.le_refl _), show (6000 : Nat) = 1000 * 6 from rfl, zsum_mul]
      have hfr : ∀ fr : Nat, fr < 6 → zsum (fun c => f_mwg (mF F) C z (1000 * fr + c)) 1000 = if fr < n then f_wyt F (f_wy F n pl j) z fr else 0 := by
        intro fr hfr
        have hD := hF ((fr : Int) * 6 + z / 1000) (by omega) (by omega)
        have hMv : mF F (6 * (fr : Int) + z / 1000) = if F ((fr : Int) * 6 + z / 1000) < 1000000 then F ((fr : Int) * 6 + z / 1000) else 99999 := by
          unfold mF
          rw [show 6 * (fr : Int) + z / 1000 = (fr : Int) * 6 + z / 1000 by omega]
        have hi : ∀ c : Nat, c < 1000 → f_mwg (mF F) C z (1000 * fr + c) = if ¬ z / 1000 = (fr : Int) ∧ (c : Int) + mF F (6 * (fr : Int) + z / 1000) = z % 1000 then C ((1000 * fr + c : Nat) : Int) else 0 := by
          intro c hc
          unfold f_mwg
          rw [show ((1000 * fr + c : Nat) : Int) / 1000 = (fr : Int) by omega, show ((1000 * fr + c : Nat) : Int) % 1000 = (c : Int) by omega]
        by_cases hx : ¬ z / 1000 = (fr : Int) ∧ mF F (6 * (fr : Int) + z / 1000) ≤ z % 1000
        · have hFm : F ((fr : Int) * 6 + z / 1000) < 1000000 := by
            rcases Int.lt_or_le (F ((fr : Int) * 6 + z / 1000)) 1000000 with h | h
            · exact h
            · rw [if_neg (by omega)] at hMv; omega
          rw [if_pos hFm] at hMv
          rw [hMv] at hx
          have hs := zsum_sgl (g := fun c => f_mwg (mF F) C z (1000 * fr + c)) (n := 1000) (j := (z % 1000 - F ((fr : Int) * 6 + z / 1000)).toNat) (by omega) (fun k hk hkn => by
            show f_mwg (mF F) C z (1000 * fr + k) = 0
            rw [hi k hk, hMv, if_neg (by omega)])
          rw [hs, hi _ (by omega), hMv, if_pos ⟨hx.1, by omega⟩]
          rw [ih _ (by omega) (by omega)]
          by_cases hfn : fr < n
          · rw [if_pos hfn, if_pos (by omega)]
            unfold f_wyt
            rw [if_pos ⟨by omega, hFm, hx.2⟩]
            exact congrArg (f_wy F n pl j) (by omega)
          · rw [if_neg hfn, if_neg (by omega)]
        · rw [zsum_0 (fun c hc => by rw [hi c hc, if_neg (by omega)])]
          split
          · unfold f_wyt
            rw [if_neg]
            rintro ⟨a, b, c⟩
            rw [if_pos b] at hMv
            omega
          · rfl
      rw [zsum_cg hfr]
      show zsum (fun fr => if fr < n then f_wyt F (f_wy F n pl j) z fr else 0) 6 = zsum (f_wyt F (f_wy F n pl j) z) n
      have hsp := zsum_add (g := fun fr => if fr < n then f_wyt F (f_wy F n pl j) z fr else 0) (m := n) (6 - n)
      rw [show n + (6 - n) = 6 by omega] at hsp
      rw [hsp, zsum_cg (n := n) (g := f_wyt F (f_wy F n pl j) z) (fun k hk => if_pos hk), zsum_0 (n := 6 - n) (fun k hk => if_neg (by omega)), Int.add_zero]
    · rw [if_neg q]
      have key : ∀ m, m ≤ 6000 → zit (f_mwk (mF F) n t C) m (fun _ => 0) z = 0 := by
        intro m
        induction m with
        | zero => intro _; rfl
        | succ m ihm =>
          intro hm
          rw [zit, f_mwk_o hn ht.2 q (by omega) hM, ihm (by omega)]
      exact key 6000 (Nat.le_refl _)
