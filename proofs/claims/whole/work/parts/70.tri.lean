/-! no way round is shorter than the way itself -/
theorem zit_inv {α : Type} {s : Nat → α → α} {p : Nat → α → Prop} {n : Nat} (h : ∀ k x, k < n → p k x → p (k + 1) (s k x)) : ∀ m, m ≤ n → ∀ x, p 0 x → p m (zit s m x) := by
  intro m
  induction m with
  | zero => intro _ x h0; exact h0
  | succ m ih => intro hm x h0; exact h m _ (by omega) (ih (by omega) x h0)
def zvi (g : Int → Int) (k a b : Nat) : Int := min (g ((a : Int) * 6 + b)) (g ((a : Int) * 6 + k) + g ((k : Int) * 6 + b))
def zvs (g : Int → Int) (k A B : Nat) (f : Int → Int) : Prop := ∀ a b : Nat, a < 6 → b < 6 → (f ((a : Int) * 6 + b) = g ((a : Int) * 6 + b) ∨ f ((a : Int) * 6 + b) = zvi g k a b) ∧ (a < A ∨ (a = A ∧ b < B) → f ((a : Int) * 6 + b) = zvi g k a b)
theorem zvs_s {g f : Int → Int} {k A B : Nat} (hk : k < 6) (hA : A < 6) (hB : B < 6) (h0 : g ((k : Int) * 6 + k) = 0) (hn : ∀ z, 0 ≤ z → z < 36 → 0 ≤ g z) (h : zvs g k A B f) : zvs g k A (B + 1) (f_fb k A B f) := by
  have e1 : f ((A : Int) * 6 + k) = g ((A : Int) * 6 + k) := by
    have h1 := (h A k hA hk).1
    have h2 := hn ((A : Int) * 6 + k) (by omega) (by omega)
    unfold zvi at h1
    rw [h0] at h1
    omega
  have e2 : f ((k : Int) * 6 + B) = g ((k : Int) * 6 + B) := by
    have h1 := (h k B hk hB).1
    have h2 := hn ((k : Int) * 6 + B) (by omega) (by omega)
    unfold zvi at h1
    rw [h0] at h1
    omega
  have e3 := (h A B hA hB).1
  unfold f_fb
  rw [e1, e2]
  intro a b ha hb
  obtain ⟨c1, c2⟩ := h a b ha hb
  by_cases hab : a = A ∧ b = B
  · obtain ⟨rfl, rfl⟩ := hab
    have : (if g ((a : Int) * 6 + k) + g ((k : Int) * 6 + b) < f ((a : Int) * 6 + b) then zup f ((a : Int) * 6 + b) (g ((a : Int) * 6 + k) + g ((k : Int) * 6 + b)) else f) ((a : Int) * 6 + b) = zvi g k a b := by
      unfold zvi at *
      split
      · unfold zup; rw [if_pos rfl]; omega
      · omega
    exact ⟨Or.inr this, fun _ => this⟩
  · have : (if g ((A : Int) * 6 + k) + g ((k : Int) * 6 + B) < f ((A : Int) * 6 + B) then zup f ((A : Int) * 6 + B) (g ((A : Int) * 6 + k) + g ((k : Int) * 6 + B)) else f) ((a : Int) * 6 + b) = f ((a : Int) * 6 + b) := by
      split
      · unfold zup; rw [if_neg (by omega)]
      · rfl
    rw [this]
    exact ⟨c1, fun h => c2 (by omega)⟩
theorem f_fk_at {g : Int → Int} {k : Nat} (hk : k < 6) (h0 : g ((k : Int) * 6 + k) = 0) (hn : ∀ z, 0 ≤ z → z < 36 → 0 ≤ g z) : ∀ a b : Nat, a < 6 → b < 6 → f_fk k g ((a : Int) * 6 + b) = zvi g k a b := by
  have h : zvs g k 6 0 (f_fk k g) := by
    refine zit_inv (p := fun A f => zvs g k A 0 f) (n := 6) (fun A f hA hf => ?_) 6 (Nat.le_refl _) g (fun a b ha hb => ⟨Or.inl rfl, fun h => absurd h (by omega)⟩)
    have h2 : zvs g k A 6 (f_fa k A f) := zit_inv (p := fun B f => zvs g k A B f) (n := 6) (fun B f hB hf => zvs_s hk hA hB h0 hn hf) 6 (Nat.le_refl _) f hf
    exact fun a b ha hb => ⟨(h2 a b ha hb).1, fun h => (h2 a b ha hb).2 (by omega)⟩
  exact fun a b ha hb => (h a b ha hb).2 (Or.inl ha)
def ztri (g : Int → Int) (K : Nat) : Prop := ∀ a b c : Nat, a < 6 → b < 6 → c < K → g ((a : Int) * 6 + b) ≤ g ((a : Int) * 6 + c) + g ((c : Int) * 6 + b)
def ztr0 (g : Int → Int) (K : Nat) : Prop := (∀ z, 0 ≤ z → z < 36 → 0 ≤ g z) ∧ (∀ p : Nat, p < 6 → g ((p : Int) * 6 + p) = 0) ∧ ztri g K
theorem ztr_s {g : Int → Int} {k : Nat} (hk : k < 6) (h : ztr0 g k) : ztr0 (f_fk k g) (k + 1) := by
  obtain ⟨hn, hd, ht⟩ := h
  have hat := f_fk_at hk (hd k hk) hn
  unfold zvi at hat
  refine ⟨fun z h0 h1 => ?_, fun p hp => ?_, fun a b c ha hb hc => ?_⟩
  · have e := hat (z / 6).toNat (z % 6).toNat (by omega) (by omega)
    rw [show (((z / 6).toNat : Nat) : Int) * 6 + ((z % 6).toNat : Nat) = z by omega] at e
    have n1 := hn z h0 h1
    have n2 := hn ((((z / 6).toNat : Nat) : Int) * 6 + k) (by omega) (by omega)
    have n3 := hn ((k : Int) * 6 + ((z % 6).toNat : Nat)) (by omega) (by omega)
    omega
  · have e := hat p p hp hp
    have n2 := hn ((p : Int) * 6 + k) (by omega) (by omega)
    have n3 := hn ((k : Int) * 6 + p) (by omega) (by omega)
    have := hd p hp
    omega
  · have e1 := hat a b ha hb
    have e2 := hat a c ha (by omega)
    have e3 := hat c b (by omega) hb
    have d := hd k hk
    by_cases hck : c = k
    · subst hck
      rw [d] at e2 e3
      have n1 := hn ((a : Int) * 6 + c) (by omega) (by omega)
      have n2 := hn ((c : Int) * 6 + b) (by omega) (by omega)
      omega
    · have t1 := ht a b c ha hb (by omega)
      have t2 := ht a k c ha hk (by omega)
      have t3 := ht k b c hk hb (by omega)
      have n1 := hn ((k : Int) * 6 + c) (by omega) (by omega)
      have n2 := hn ((c : Int) * 6 + k) (by omega) (by omega)
      omega
theorem f_ms_tr {R : Int → Int} (hR : z_bd R 36 0 99) : ztr0 (f_ms R) 6 := by
  have h0 := zfwv_0 hR
  refine zit_inv (p := fun k f => ztr0 f k) (n := 6) (fun k f hk hf => ztr_s hk hf) 6 (Nat.le_refl _) _ ⟨fun z a b => ?_, fun p hp => h0.2 p (by omega) (by omega), fun a b c _ _ hc => absurd hc (by omega)⟩
  rcases h0.1 z a b with ⟨_, h, _⟩ | ⟨h, _⟩ <;> omega
/-- the ways as day() makes them -/
def zFk (F : Int → Int) : Prop := zD F ∧ ztr0 F 6
theorem zFk_ms {R : Int → Int} (hR : z_bd R 36 0 99) : zFk (f_ms R) := ⟨f_ms_D hR, f_ms_tr hR⟩
