/-! TOUR, PLAN, WHERE TO LIVE: both sides answer alike -/
theorem zdf_0 {a b : Nat} (ha : a < 64) : zdf a b = 0 ↔ ∀ k, k < 6 → a.testBit k = true → b.testBit k = true := by
  constructor
  · intro h k hk hb
    have e := z_df_bit (a := a) (b := b) hk
    rw [h, hb] at e
    cases hz : b.testBit k with
    | true => rfl
    | false => rw [hz] at e; simp at e
  · intro h
    refine z_bits (z_df_lt ha) (by omega) (fun k hk => ?_)
    rw [z_df_bit hk]
    cases hz : a.testBit k with
    | false => simp
    | true => rw [h k hk hz]; simp
theorem zbit_e {s e k : Nat} (hs : s < 2 ^ e) (h : s.testBit k = true) : k < e := by
  apply Classical.byContradiction
  intro hi
  have hp : 2 ^ e ≤ 2 ^ k := Nat.pow_le_pow_right (by omega) (by omega)
  rw [Nat.testBit_lt_two_pow (by omega)] at h
  cases h
/-- the sets that may be taken -/
theorem zalw {K : Int → Int} {w : Int} {s e dn : Nat} (hs : s < 2 ^ e) (he : e ≤ 6) : zdf s (zdf (zset (f_can K w) e) dn) = 0 ↔ ∀ x, x < e → s.testBit x = true → (K x = 2 ∨ K x = w) ∧ dn.testBit x = false := by
  rw [zdf_0 (Nat.lt_of_lt_of_le hs (z_pn he))]
  constructor
  · intro h x hx hb
    have := h x (by omega) hb
    rw [z_df_bit (by omega), zset_bit, Bool.and_eq_true, Bool.and_eq_true] at this
    unfold f_can at this
    rw [decide_eq_true_iff, decide_eq_true_iff] at this
    exact ⟨this.1.2, by simpa using this.2⟩
  · intro h k hk hb
    have hx := zbit_e hs hb
    obtain ⟨h1, h2⟩ := h k hx hb
    rw [z_df_bit hk, zset_bit, h2]
    unfold f_can
    simp [hx, h1]
theorem f_tbd_iff {K : Int → Int} {w : Int} {s dn e : Nat} (hs : s < 2 ^ e) (he : e ≤ 6) : zany (f_tbd K w s dn) e = true ↔ ¬ zdf s (zdf (zset (f_can K w) e) dn) = 0 := by
  rw [zalw hs he, zany_iff]
  constructor
  · rintro ⟨i, h1, h2⟩ h
    unfold f_tbd at h2
    rw [Bool.and_eq_true] at h2
    obtain ⟨a, b⟩ := h i h1 h2.1
    rw [b] at h2
    simp [a] at h2
  · intro h
    apply Classical.byContradiction
    intro hno
    refine h (fun x hx hb => ?_)
    have h3 : f_tbd K w s dn x = false := by
      cases hz : f_tbd K w s dn x with
      | false => rfl
      | true => exact absurd ⟨x, hx, hz⟩ hno
    unfold f_tbd at h3
    rw [hb, Bool.true_and, Bool.or_eq_false_iff] at h3
    refine ⟨?_, h3.1⟩
    have h4 := h3.2
    simp only [Bool.not_eq_false', decide_eq_true_iff] at h4
    exact h4
theorem tour_eq {F W K S W0 : Int → Int} {n e dn : Nat} {w x : Int} (hF : zFk F) (hFb : z_bd F 36 0 1000000) (hn : 2 ≤ n ∧ n ≤ 6) (he : e ≤ 6) (hW : z_bd W e 0 (n - 1)) (h0 : 0 ≤ S 0 ∧ S 0 < n) (h1 : 0 ≤ S 1 ∧ S 1 < n) : f_tour n e F W K S W0 dn w x = f_mtour n e F W K S dn w x := by
  unfold f_tour f_mtour
  by_cases hw : ¬ (0 ≤ w ∧ w < 2)
  · rw [if_pos hw, if_pos hw]
  rw [if_neg hw, if_neg hw]
  by_cases hx : x < 0 ∨ ((2 ^ e : Nat) : Int) ≤ x
  · rw [if_pos hx, if_pos hx]
  rw [if_neg hx, if_neg hx]
  have hs : x.toNat < 2 ^ e := by omega
  by_cases ha : zdf x.toNat (zdf (zset (f_can K w) e) dn) = 0
  · rw [if_neg (fun h => h ha), if_neg (fun h => (f_tbd_iff hs he).mp h ha)]
    have hp : 0 ≤ zpw S w ∧ zpw S w < n := by unfold zpw; split <;> assumption
    have hc := (zalw hs he).mp ha
    have t := tours_eq (W0 := W0) (fr := (zpw S w).toNat) (home := 0) hF hFb hn.2 (by omega) (by omega) hW he hs (fun x hx hb => (hc x hx hb).1)
    rw [show (((zpw S w).toNat : Nat) : Int) = zpw S w by omega, show ((0 : Nat) : Int) = 0 from rfl] at t
    rcases t with ⟨t1, t2, t3⟩ | ⟨t1, t2⟩
    · rw [t1, if_pos (by omega), if_pos (by omega)]
    · rw [t1, t2, if_neg (by omega), if_neg (by omega)]
  · rw [if_pos ha, if_pos ((f_tbd_iff hs he).mpr ha)]
theorem zit_id {α : Type} {s : Nat → α → α} {n : Nat} (h : ∀ k x, k < n → s k x = x) (x : α) : zit s n x = x :=
  zit_inv (p := fun _ y => y = x) (n := n) (fun k y hk e => by rw [h k y hk, e]) n (Nat.le_refl _) x rfl
theorem zand_or {a b c : Nat} : (a ||| b) &&& c = 0 ↔ a &&& c = 0 ∧ b &&& c = 0 := by
  rw [Nat.and_or_distrib_right]
  exact Nat.or_eq_zero_iff
/-- one WALKER's set: what the class reads of it against what the other one reads -/
theorem plan_one {F W K : Int → Int} {w : Int} {n e fr home dn s : Nat} (hF : zFk F) (hFb : z_bd F 36 0 1000000) (hn : n ≤ 6) (he : e ≤ 6) (hW : z_bd W e 0 (n - 1)) (hf : fr < n) (hh : home < n) (hs : s < 2 ^ e) : (zdf s (zdf (zset (f_can K w) e) dn) = 0 ∧ s &&& dn = 0 ∧ (f_tr F n home fr (fun _ => 0)).2 ((zpl s W e ||| 2 ^ fr : Nat) : Int) = f_mt (mF F) W K w fr home e s ∧ 0 ≤ f_mt (mF F) W K w fr home e s ∧ f_mt (mF F) W K w fr home e s ≤ 44800) ∨ (zdf s (zdf (zset (f_can K w) e) dn) = 0 ∧ (f_tr F n home fr (fun _ => 0)).2 ((zpl s W e ||| 2 ^ fr : Nat) : Int) = 1000000 ∧ f_mt (mF F) W K w fr home e s = 99999) ∨ (¬ zdf s (zdf (zset (f_can K w) e) dn) = 0 ∧ (¬ s &&& dn = 0 ∨ f_mt (mF F) W K w fr home e s = 99999) ∧ 0 ≤ f_mt (mF F) W K w fr home e s) := by
  have hM : z_bd (mF F) 36 0 99999 := fun z a b => by have := hF.1 z a b; unfold mF; split <;> omega
  by_cases ha : zdf s (zdf (zset (f_can K w) e) dn) = 0
  · have hc := (zalw hs he).mp ha
    rcases tours_eq (W0 := fun _ => 0) hF hFb hn hf hh hW he hs (fun x hx hb => (hc x hx hb).1) with ⟨t1, t2, t3⟩ | ⟨t1, t2⟩
    · refine Or.inl ⟨ha, ?_, t1, t2, t3⟩
      apply Nat.eq_of_testBit_eq
      intro i
      rw [Nat.testBit_and, Nat.zero_testBit]
      cases hb : s.testBit i with
      | false => rfl
      | true => rw [(hc i (zbit_e hs hb) hb).2]; rfl
    · exact Or.inr (Or.inl ⟨ha, t1, t2⟩)
  · refine Or.inr (Or.inr ⟨ha, ?_, (f_mt_b hM hW hn he (by omega) (by omega) (Nat.lt_of_lt_of_le hs (z_pn he))).1⟩)
    apply Classical.byContradiction
    intro hno
    refine ha ((zalw hs he).mpr (fun x hx hb => ?_))
    refine ⟨?_, ?_⟩
    · apply Classical.byContradiction
      intro hcan
      exact hno (Or.inr (tours_no hF hn hf hh hW he hs hx hb hcan))
    · cases hz : dn.testBit x with
      | false => rfl
      | true =>
        refine absurd (Or.inl (fun h0 => ?_)) hno
        have : (s &&& dn).testBit x = true := by rw [Nat.testBit_and, hb, hz]; rfl
        rw [h0] at this
        simp at this
def zBC (B : zB5) (C : zB4) : Prop := (B.1 = 0 ∧ C.1 = -9) ∨ (B.1 = 1 ∧ 0 ≤ C.1 ∧ B.2 = C)
theorem plan_eq {F W U K : Int → Int} {n e her him home dn : Nat} {left : Int} (hF : zFk F) (hFb : z_bd F 36 0 1000000) (hn : n ≤ 6) (he : e ≤ 6) (hW : z_bd W e 0 (n - 1)) (hU : z_bd U 6 0 9) (hher : her < n) (hhim : him < n) (hh : home < n) (hl : 0 ≤ left ∧ left ≤ 90000) : zBC (f_stl n e F W U (zdf (zset (f_can K 0) e) dn) (zdf (zset (f_can K 1) e) dn) her him home left) (f_mpl (f_mt (mF F) W K 0 her home e) (f_mt (mF F) W K 1 him home e) U e dn left) := by
  unfold f_stl f_mpl
  refine zit_rel (R := fun _ (B : zB5) (C : zB4) => zBC B C) (n := 2 ^ e) (fun hers B C hhs hR => ?_) (2 ^ e) (Nat.le_refl _) _ _ (Or.inl ⟨rfl, rfl⟩)
  have h1 := plan_one (K := K) (w := 0) (dn := dn) hF hFb hn he hW hher hh hhs
  unfold f_tp f_fpl
  have eHR : f_HR e her W (f_tr F n home her (fun _ => 0)).2 (hers : Int) = (f_tr F n home her (fun _ => 0)).2 ((zpl hers W e ||| 2 ^ her : Nat) : Int) := rfl
  rw [eHR]
  generalize (f_tr F n home her (fun _ => 0)).2 ((zpl hers W e ||| 2 ^ her : Nat) : Int) = A at *
  generalize hH : f_mt (mF F) W K 0 her home e = H at *
  by_cases hc : zdf hers (zdf (zset (f_can K 0) e) dn) = 0 ∧ A ≤ left
  · rw [if_pos hc]
    have hx : hers &&& dn = 0 ∧ A = H hers ∧ 0 ≤ H hers ∧ H hers ≤ 44800 := by
      rcases h1 with ⟨_, h2, h3, h4, h5⟩ | ⟨_, h2, _⟩ | ⟨h2, _⟩
      · exact ⟨h2, h3, h4, h5⟩
      · omega
      · exact absurd hc.1 h2
    refine zit_rel (R := fun _ (B : zB5) (C : zB4) => zBC B C) (n := 2 ^ e) (fun mine B C hms hR => ?_) (2 ^ e) (Nat.le_refl _) _ _ hR
    have h2 := plan_one (K := K) (w := 1) (dn := dn) hF hFb hn he hW hhim hh hms
    obtain ⟨f, w, s, a, b⟩ := B
    rw [f_tw_eq]
    have eHS : f_HS e him (zdf (zset (f_can K 1) e) dn) W (f_tr F n home him (fun _ => 0)).2 (mine : Int) = if zdf mine (zdf (zset (f_can K 1) e) dn) = 0 then (f_tr F n home him (fun _ => 0)).2 ((zpl mine W e ||| 2 ^ him : Nat) : Int) else 1000000 := rfl
    have eWO : f_WO e U ((hers ||| mine : Nat) : Int) = zsum (f_wt (hers ||| mine) U) e := rfl
    rw [eHS, eWO]
    have hg := (f_wt_b (s := hers ||| mine) hU he).1
    unfold f_fp
    generalize (f_tr F n home him (fun _ => 0)).2 ((zpl mine W e ||| 2 ^ him : Nat) : Int) = A2 at *
    generalize hG : f_mt (mF F) W K 1 him home e = G at *
    generalize zsum (f_wt (hers ||| mine) U) e = gain at *
    have hiff : (hers &&& mine = 0 ∧ A + (if zdf mine (zdf (zset (f_can K 1) e) dn) = 0 then A2 else 1000000) ≤ left) ↔ ((hers &&& mine = 0 ∧ (hers ||| mine) &&& dn = 0) ∧ H hers + G mine < 99999 ∧ H hers + G mine ≤ left) := by
      rw [zand_or]
      rcases h2 with ⟨g1, g2, g3, g4, g5⟩ | ⟨g1, g2, g3⟩ | ⟨g1, g2, g3⟩
      · rw [if_pos g1]
        exact ⟨fun h => ⟨⟨h.1, hx.1, g2⟩, by omega, by omega⟩, fun h => ⟨h.1.1, by omega⟩⟩
      · rw [if_pos g1]
        exact ⟨fun h => absurd h.2 (by omega), fun h => absurd h.2.1 (by omega)⟩
      · rw [if_neg g1]
        refine ⟨fun h => absurd h.2 (by omega), fun h => ?_⟩
        rcases g2 with g2 | g2
        · exact absurd h.1.2.2 g2
        · exact absurd h.2.1 (by omega)
    have hsum : (hers &&& mine = 0 ∧ A + (if zdf mine (zdf (zset (f_can K 1) e) dn) = 0 then A2 else 1000000) ≤ left) → A + (if zdf mine (zdf (zset (f_can K 1) e) dn) = 0 then A2 else 1000000) = H hers + G mine := by
      intro h
      rcases h2 with ⟨g1, g2, g3, g4, g5⟩ | ⟨g1, g2, g3⟩ | ⟨g1, g2, g3⟩
      · rw [if_pos g1]; omega
      · rw [if_pos g1] at h; omega
      · rw [if_neg g1] at h; omega
    by_cases hq : hers &&& mine = 0 ∧ A + (if zdf mine (zdf (zset (f_can K 1) e) dn) = 0 then A2 else 1000000) ≤ left
    · have hq2 := hiff.mp hq
      rw [hsum hq]
      have hq3 : hers &&& mine = 0 ∧ H hers + G mine ≤ left := ⟨hq.1, hq2.2.2⟩
      obtain ⟨w2, s2, a2, b2⟩ := C
      rcases hR with ⟨r1, r2⟩ | ⟨r1, r2, r3⟩
      · simp only at r1 r2
        rw [if_pos ⟨hq3, Or.inl r1⟩, if_pos ⟨hq2, Or.inl (by simp only; omega)⟩]
        exact Or.inr ⟨rfl, hg, rfl⟩
      · simp only [Prod.mk.injEq] at r1 r2 r3
        obtain ⟨rfl, rfl, rfl, rfl⟩ := r3
        by_cases hb : w < gain ∨ (gain = w ∧ H hers + G mine < s)
        · rw [if_pos ⟨hq3, Or.inr hb⟩, if_pos ⟨hq2, hb⟩]
          exact Or.inr ⟨rfl, hg, rfl⟩
        · rw [if_neg (fun h => h.2.elim (fun h => by omega) hb), if_neg (fun h => hb h.2)]
          exact Or.inr ⟨r1, r2, rfl⟩
    · rw [if_neg (fun h => hq h.1), if_neg (fun h => hq (hiff.mpr h.1))]
      exact hR
  · rw [if_neg hc, zit_id (fun mine C hms => ?_)]
    · exact hR
    · unfold f_fp
      have hM : z_bd (mF F) 36 0 99999 := fun z a b => by have := hF.1 z a b; unfold mF; split <;> omega
      have hG := f_mt_b (K := K) (w := 1) (fr := him) (to := home) hM hW hn he (by omega) (by omega) (Nat.lt_of_lt_of_le hms (z_pn he))
      refine if_neg (fun h => ?_)
      rw [zand_or] at h
      rcases h1 with ⟨g1, g2, g3, g4, g5⟩ | ⟨g1, g2, g3⟩ | ⟨g1, g2, g3⟩
      · exact hc ⟨g1, by omega⟩
      · omega
      · rcases g2 with g2 | g2
        · exact g2 h.1.1.2.1
        · omega
theorem plan_ans {B : zB5} {C : zB4} (h : zBC B C) (w : Int) : f_plan B w = f_mplan C w := by
  obtain ⟨f, b1, b2, b3, b4⟩ := B
  obtain ⟨c1, c2, c3, c4⟩ := C
  unfold f_plan f_mplan
  rcases h with ⟨h1, h2⟩ | ⟨h1, h2, h3⟩
  · simp only at h1 h2
    simp only
    rw [if_pos h1, if_pos h2]
  · simp only [Prod.mk.injEq] at h1 h2 h3
    obtain ⟨rfl, rfl, rfl, rfl⟩ := h3
    simp only
    rw [if_neg (show ¬ f = 0 by omega), if_neg (show ¬ b1 = -9 by omega)]
theorem zdf_n0 {a : Nat} (ha : a < 64) : zdf a 0 = a := z_bits (z_df_lt ha) ha (fun k hk => by rw [z_df_bit hk]; simp)
theorem live_eq {F W U K : Int → Int} {n e : Nat} {st : Int} (hF : zFk F) (hFb : z_bd F 36 0 1000000) (hn : n ≤ 6) (he : e ≤ 6) (hW : z_bd W e 0 (n - 1)) (hU : z_bd U 6 0 9) (hl : 0 ≤ st ∧ st ≤ 999) : f_live n e F W U K st = f_mlive n e F W U K st := by
  unfold f_live f_mlive
  refine (zit_rel (R := fun _ (b c : Int × Int) => b.1 = c.1 ∧ ((b.2 = -1 ∧ c.2 = -9) ∨ (b.2 = c.2 ∧ 0 ≤ b.2))) (s := f_lv n e F W U K st) (t := f_mlv e F W U K st) (n := n) (fun j b c hj hR => ?_) n (Nat.le_refl _) (0, -1) (0, -9) ⟨rfl, Or.inl ⟨rfl, rfl⟩⟩).1
  have hz : ∀ w, zset (f_can K w) e < 64 := fun w => Nat.lt_of_lt_of_le zset_lt (z_pn he)
  have h := plan_eq (K := K) (dn := 0) hF hFb hn he hW hU hj hj hj (show 0 ≤ st ∧ st ≤ 90000 by omega)
  rw [zdf_n0 (hz 0), zdf_n0 (hz 1)] at h
  unfold f_lv f_mlv
  generalize f_stl n e F W U (zset (f_can K 0) e) (zset (f_can K 1) e) j j j st = B at *
  generalize f_mpl (f_mt (mF F) W K 0 j j e) (f_mt (mF F) W K 1 j j e) U e 0 st = C at *
  obtain ⟨r1, r2⟩ := hR
  rcases h with ⟨h1, h2⟩ | ⟨h1, h2, h3⟩
  · rw [if_neg (fun h => by omega), if_neg (by omega)]
    exact ⟨r1, r2⟩
  · have e1 : B.2.1 = C.1 := by rw [h3]
    rw [e1]
    by_cases hlt : b.2 < C.1
    · rw [if_pos ⟨h1, hlt⟩, if_pos (by omega)]
      exact ⟨rfl, Or.inr ⟨rfl, h2⟩⟩
    · rw [if_neg (fun h => hlt h.2), if_neg (by omega)]
      exact ⟨r1, r2⟩
