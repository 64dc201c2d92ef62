theorem zit_rel {α β : Type} {R : Nat → α → β → Prop} {s : Nat → α → α} {t : Nat → β → β} {n : Nat} (h : ∀ k x y, k < n → R k x y → R (k + 1) (s k x) (t k y)) : ∀ m, m ≤ n → ∀ x y, R 0 x y → R m (zit s m x) (zit t m y) := by
  intro m
  induction m with
  | zero => intro _ x y h0; exact h0
  | succ m ih => intro hm x y h0; exact h m _ _ (by omega) (ih (by omega) x y h0)
theorem zit_cg {α : Type} {s t : Nat → α → α} {n : Nat} (h : ∀ k x, k < n → s k x = t k x) (x : α) : zit s n x = zit t n x :=
  zit_rel (R := fun _ x y => x = y) (n := n) (fun k x y hk e => by rw [e]; exact h k y hk) n (Nat.le_refl _) x x rfl
theorem f_tr_g {D W0 W1 : Int → Int} {n home fr : Nat} : (f_tr D n home fr W0).1 = (f_tr D n home fr W1).1 ∧ ∀ z, 0 ≤ z → z < ((2 ^ n : Nat) : Int) → (f_tr D n home fr W0).2 z = (f_tr D n home fr W1).2 z := by
  refine zit_rel (R := fun m (x y : (Int → Int) × (Int → Int)) => x.1 = y.1 ∧ ∀ z, 0 ≤ z → z < (m : Int) → x.2 z = y.2 z) (n := 2 ^ n) (fun m x y hm hR => ?_) (2 ^ n) (Nat.le_refl _) _ _ ⟨rfl, fun z a b => by omega⟩
  unfold f_ts
  refine zit_rel (R := fun _ (x y : (Int → Int) × (Int → Int)) => x.1 = y.1 ∧ ∀ z, 0 ≤ z → z < ((m + 1 : Nat) : Int) → x.2 z = y.2 z) (n := n) (fun k x y hk hR => ?_) n (Nat.le_refl _) _ _ ⟨hR.1, fun z a b => ?_⟩
  · obtain ⟨A, X⟩ := x
    obtain ⟨B, Y⟩ := y
    obtain ⟨r1, r2⟩ := hR
    simp only at r1 r2
    subst r1
    refine ⟨rfl, fun z a b => ?_⟩
    simp only [f_tl, zup]
    rw [r2 z a b, r2 (m : Int) (by omega) (by omega)]
  · simp only [zup]
    split
    · rfl
    · exact hR.2 z a (by omega)
/-- settled: found, worth, steps, her set, his set -/
def f_stl (n e : Nat) (F W U : Int → Int) (rE iE her him home : Nat) (left : Int) : zB5 := zit (f_tp (f_HR e her W (f_tr F n home her (fun _ => 0)).2) (f_HS e him iE W (f_tr F n home him (fun _ => 0)).2) (f_WO e U) left rE (2 ^ e)) (2 ^ e) (0, 0, 0, 0, 0)
def f_like (B C : zB5) : Prop := (B.1 = 0 ∧ C.1 = 0) ∨ (B.1 = 1 ∧ B = C)
theorem f_tw_eq {HS WO : Int → Int} {left : Int} {hers : Nat} {hs : Int} {his : Nat} {f w s a b : Int} : f_tw HS WO left hers hs his (f, w, s, a, b) = if (hers &&& his = 0 ∧ hs + HS his ≤ left) ∧ (f = 0 ∨ w < WO ((hers ||| his : Nat) : Int) ∨ (WO ((hers ||| his : Nat) : Int) = w ∧ hs + HS his < s)) then (1, WO ((hers ||| his : Nat) : Int), hs + HS his, (hers : Int), (his : Int)) else (f, w, s, a, b) := rfl
theorem f_tw_like {HS WO : Int → Int} {left : Int} {hers : Nat} {hs : Int} {his : Nat} {B C : zB5} (h : f_like B C) : f_like (f_tw HS WO left hers hs his B) (f_tw HS WO left hers hs his C) := by
  obtain ⟨f, w, s, a, b⟩ := B
  obtain ⟨f2, w2, s2, a2, b2⟩ := C
  rcases h with ⟨h1, h2⟩ | ⟨h1, h2⟩
  · simp only at h1 h2
    subst h1 h2
    rw [f_tw_eq, f_tw_eq]
    by_cases q : hers &&& his = 0 ∧ hs + HS his ≤ left
    · rw [if_pos ⟨q, Or.inl rfl⟩, if_pos ⟨q, Or.inl rfl⟩]; exact Or.inr ⟨rfl, rfl⟩
    · rw [if_neg (fun h => q h.1), if_neg (fun h => q h.1)]; exact Or.inl ⟨rfl, rfl⟩
  · rw [← h2]
    simp only at h1
    subst h1
    refine Or.inr ⟨?_, rfl⟩
    rw [f_tw_eq]
    split <;> rfl
theorem f_stl_g {n e : Nat} {F W U X Y : Int → Int} {rE iE her him home : Nat} {left a b c d : Int} (hn : n ≤ 6) (hW : z_bd W e 0 (n - 1)) (hher : her < n) (hhim : him < n) : f_like (zit (f_tp (f_HR e her W (f_tr F n home her X).2) (f_HS e him iE W (f_tr F n home him Y).2) (f_WO e U) left rE (2 ^ e)) (2 ^ e) (0, a, b, c, d)) (f_stl n e F W U rE iE her him home left) := by
  refine zit_rel (R := fun _ (x y : zB5) => f_like x y) (n := 2 ^ e) (fun k x y hk hR => ?_) (2 ^ e) (Nat.le_refl _) _ _ (Or.inl ⟨rfl, rfl⟩)
  have hz : ∀ (s fr : Nat), fr < n → ((zpl s W e ||| 2 ^ fr : Nat) : Int) < ((2 ^ n : Nat) : Int) := fun s fr hf => by exact_mod_cast Nat.or_lt_two_pow (zpl_n hn hW) (Nat.pow_lt_pow_right (by omega) (by omega))
  have hr : ∀ z : Int, f_HR e her W (f_tr F n home her X).2 z = f_HR e her W (f_tr F n home her (fun _ => 0)).2 z := fun z => by
    unfold f_HR
    exact (f_tr_g).2 _ (by omega) (hz _ _ hher)
  have hs : ∀ z : Int, f_HS e him iE W (f_tr F n home him Y).2 z = f_HS e him iE W (f_tr F n home him (fun _ => 0)).2 z := fun z => by
    unfold f_HS
    split
    · exact (f_tr_g).2 _ (by omega) (hz _ _ hhim)
    · rfl
  unfold f_tp
  rw [hr]
  split
  · refine zit_rel (R := fun _ (x y : zB5) => f_like x y) (n := 2 ^ e) (fun j x y hj hR => ?_) (2 ^ e) (Nat.le_refl _) _ _ hR
    have : f_tw (f_HS e him iE W (f_tr F n home him Y).2) (f_WO e U) left k (f_HR e her W (f_tr F n home her (fun _ => 0)).2 k) j x = f_tw (f_HS e him iE W (f_tr F n home him (fun _ => 0)).2) (f_WO e U) left k (f_HR e her W (f_tr F n home her (fun _ => 0)).2 k) j x := by
      obtain ⟨x1, x2, x3, x4, x5⟩ := x
      rw [f_tw_eq, f_tw_eq, hs]
    rw [this]
    exact f_tw_like hR
  · exact hR
