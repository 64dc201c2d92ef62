/-! what THE TEXT tells does not hang on what stood in the draft -/
def zag (e : Int) (W U K W2 U2 K2 : Int → Int) : Prop := ∀ z, 0 ≤ z → z < e → W z = W2 z ∧ U z = U2 z ∧ K z = K2 z
theorem f_parse_g {T : Int → Int} {tl n : Int} : ∀ (k : Nat) (p r e : Int) (R W U K W2 U2 K2 : Int → Int), zag e W U K W2 U2 K2 → (f_parse T tl n k p r e R W U K).1 = (f_parse T tl n k p r e R W2 U2 K2).1 ∧ (f_parse T tl n k p r e R W U K).2.1 = (f_parse T tl n k p r e R W2 U2 K2).2.1 ∧ (f_parse T tl n k p r e R W U K).2.2.1 = (f_parse T tl n k p r e R W2 U2 K2).2.2.1 ∧ (f_parse T tl n k p r e R W U K).2.2.2.1 = (f_parse T tl n k p r e R W2 U2 K2).2.2.2.1 ∧ zag (f_parse T tl n k p r e R W U K).2.2.1 (f_parse T tl n k p r e R W U K).2.2.2.2.1 (f_parse T tl n k p r e R W U K).2.2.2.2.2.1 (f_parse T tl n k p r e R W U K).2.2.2.2.2.2 (f_parse T tl n k p r e R W2 U2 K2).2.2.2.2.1 (f_parse T tl n k p r e R W2 U2 K2).2.2.2.2.2.1 (f_parse T tl n k p r e R W2 U2 K2).2.2.2.2.2.2 := by
  intro k
  induction k with
  | zero => intro p r e R W U K W2 U2 K2 h; exact ⟨rfl, rfl, rfl, rfl, h⟩
  | succ k ih =>
    intro p r e R W U K W2 U2 K2 h
    by_cases hp : tl ≤ p
    · rw [f_ps_end hp, f_ps_end hp]; exact ⟨rfl, rfl, rfl, rfl, h⟩
    by_cases hs : zsg T tl p = 82
    · rw [f_ps_R (by omega) hs, f_ps_R (by omega) hs]
      by_cases hF : f_rdF T tl n r R p = -9
      · rw [if_pos hF, if_pos hF]; exact ih _ _ _ _ _ _ _ _ _ _ h
      · rw [if_neg hF, if_neg hF]; exact ⟨rfl, rfl, rfl, rfl, h⟩
    · rw [f_ps_E (by omega) hs, f_ps_E (by omega) hs]
      by_cases hF : f_erF T tl n e p = -9
      · rw [if_pos hF, if_pos hF]
        refine ih _ _ _ _ _ _ _ _ _ _ (fun z h0 h1 => ?_)
        unfold zup
        by_cases hz : z = e
        · simp only [if_pos hz]; exact ⟨trivial, trivial, trivial⟩
        · simp only [if_neg hz]; exact h z h0 (by omega)
      · rw [if_neg hF, if_neg hF]; exact ⟨rfl, rfl, rfl, rfl, h⟩
theorem f_flt_g {T : Int → Int} {tl : Int} {W U K W2 U2 K2 : Int → Int} : f_flt T tl W U K = f_flt T tl W2 U2 K2 := by
  unfold f_flt
  split
  · exact (f_parse_g _ _ _ _ _ _ _ _ _ _ _ (fun z h0 h1 => absurd h1 (by omega))).1
  · rfl
theorem f_erF_n {T : Int → Int} {tl n e p : Int} (h : f_erF T tl n e p = -9) (hp : 0 ≤ p) : 0 ≤ zfg T tl (p + 1) ∧ zfg T tl (p + 1) ≤ n - 1 := by
  unfold f_erF at h
  by_cases h1 : zsg T tl p = 69 ∧ e < 6
  · rw [if_neg (fun h => h h1)] at h
    by_cases h2 : 0 ≤ zfg T tl (p + 1) ∧ zfg T tl (p + 1) < n
    · omega
    · rw [if_pos h2] at h; omega
  · rw [if_pos h1] at h; omega
theorem f_parse_W {T : Int → Int} {tl n : Int} : ∀ (k : Nat) (p r e : Int) (R W U K : Int → Int), 0 ≤ p → z_bd W e 0 (n - 1) → z_bd (f_parse T tl n k p r e R W U K).2.2.2.2.1 (f_parse T tl n k p r e R W U K).2.2.1 0 (n - 1) := by
  intro k
  induction k with
  | zero => intro p r e R W U K _ h; exact h
  | succ k ih =>
    intro p r e R W U K hp0 h
    by_cases hp : tl ≤ p
    · rw [f_ps_end hp]; exact h
    by_cases hs : zsg T tl p = 82
    · rw [f_ps_R (by omega) hs]
      by_cases hF : f_rdF T tl n r R p = -9
      · rw [if_pos hF]; exact ih _ _ _ _ _ _ _ (by omega) h
      · rw [if_neg hF]; exact h
    · rw [f_ps_E (by omega) hs]
      by_cases hF : f_erF T tl n e p = -9
      · rw [if_pos hF]
        refine ih _ _ _ _ _ _ _ (by omega) (fun z h0 h1 => ?_)
        unfold zup
        by_cases hz : z = e
        · simp only [if_pos hz]; exact f_erF_n hF hp0
        · simp only [if_neg hz]; exact h z h0 (by omega)
      · rw [if_neg hF]; exact h
