theorem zsh_ring {i : Nat} (h : i < 16) : zSH (7 + 2 * i) = .inl 7 ∧ zSH (8 + 2 * i) = .inr (.int, 8) ∧ 7 + 2 * i + 1 < 78 := by
  rcases (show i = 0 ∨ i = 1 ∨ i = 2 ∨ i = 3 ∨ i = 4 ∨ i = 5 ∨ i = 6 ∨ i = 7 ∨ i = 8 ∨ i = 9 ∨ i = 10 ∨ i = 11 ∨ i = 12 ∨ i = 13 ∨ i = 14 ∨ i = 15 by omega) with rfl | rfl | rfl | rfl | rfl | rfl | rfl | rfl | rfl | rfl | rfl | rfl | rfl | rfl | rfl | rfl <;> exact ⟨rfl, rfl, by omega⟩
theorem zsh_slot {i : Nat} (h : i < 2) : zSH (42 + 2 * i) = .inl 7 ∧ zSH (43 + 2 * i) = .inr (.int, 8) ∧ 42 + 2 * i + 1 < 78 := by
  rcases (show i = 0 ∨ i = 1 by omega) with rfl | rfl <;> exact ⟨rfl, rfl, by omega⟩
def q_i0 (I : zI) (P : zP) (v : Option Value) (I1 : zI) (J1 : zJ) (P1 : zP) : Prop := q_in I P 5 39 v I1 P1 ∧ zAc P1
set_option maxRecDepth 20000 in
theorem i_ac (I : zI) (J : zJ) (P : zP)  : z_Sp 5 yX0_init cX0_init 2 none 6 39 I J P [.ref 5] (q_i0 I P) := by
  refine z_met true (by decide +kernel) (fun _ => rfl) (Nat.le_of_ble_eq_true rfl) (by first | decide | omega) (fun V hV => ?_)
  show V 6 I J P 0 [.ref 5, .null] []
  refine r_aload_n hV dX0_init_0 rfl rfl ?_
  refine r_objinit hV dX0_init_1 oi_X0_3 (by decide) (Nat.le_of_ble_eq_true rfl) ?_
  refine r_aload_n hV dX0_init_4 rfl rfl ?_
  refine s_bipush hV dX0_init_5 (16) (by decide) ?_
  refine r_anewarray hV _ dX0_init_7 an_X0_9 (by first | rfl | assumption) ⟨by decide, rfl, by decide⟩ (by first | decide | omega) ?_
  refine r_putR hV dX0_init_10 fl_X0_11 pf_X0_11 (by first | decide | omega) (by first | rfl | assumption) ?_
  refine s_iconst hV dX0_init_13 (0) (by decide) ?_
  refine r_istore_n hV dX0_init_14 (Nat.le_of_ble_eq_true rfl) (z_st1_2_1 rfl) ?_
  have L15 : ∀ (k15 j : Nat) (I1 : zI) (J1 : zJ) (P1 : zP), 16 - j < k15 → j ≤ 16 → (∀ q, q ≤ 5 → I1 q = I q) → (∀ q, 5 < q → q < 7 + 2 * j → I1 q = fun _ => 0) → (∀ q, q < 5 → P1 q = P q) → (P1 5 0 = some 6) → (∀ i, i < j → P1 6 i = some (7 + 2 * i) ∧ P1 (7 + 2 * i) 6 = some (8 + 2 * i)) → V (7 + 2 * j) I1 J1 P1 15 [.ref 5, .int (iI (j : Int))] [] := by
    intro k15
    induction k15 with
    | zero => intro j I1  J1  P1  hk1 hk2; omega
    | succ k15 ih15 =>
      intro j I1  J1  P1  hk15 hl15 hI hz hP h50 hrow
      refine r_iload_n hV dX0_init_15 rfl ?_
      refine s_bipush hV dX0_init_16 (16) (by decide) ?_
      refine s_icmp_ge hV 40 dX0_init_18 (by decide) (by unfold z_rg; first | omega | (split <;> omega)) (by unfold z_rg; first | omega | (split <;> omega)) (fun c18 => ?_) (fun c18 => ?_)
      · have hj : j = 16 := by omega
        subst hj
        refine r_vret hV dX0_init_40 rfl rfl ?_
        refine ⟨⟨rfl, hI, fun q a b => hz q a (by omega), hP⟩, h50, fun z a b => (hrow z.toNat (by omega)).1, fun z a b => ?_⟩
        have hr := zsh_ring (i := z.toNat) (by omega)
        exact ⟨hr.2.2, hr.1, by rw [show 7 + 2 * z.toNat + 1 = 8 + 2 * z.toNat by omega]; exact hr.2.1, by rw [show 7 + 2 * z.toNat + 1 = 8 + 2 * z.toNat by omega]; exact (hrow z.toNat (by omega)).2⟩
      · refine r_aload_n hV dX0_init_21 rfl rfl ?_
        refine r_getR hV dX0_init_22 fl_X0_11 (by first | decide | omega) (by first | rfl | assumption) ((h50)) ?_
        refine r_iload_n hV dX0_init_25 rfl ?_
        refine r_new hV dX0_init_26 nw_X0_9 (zsh_ring (i := j) (by omega)).1 (by first | decide | omega) ?_
        refine r_dup hV dX0_init_29 rfl ?_
        refine r_in0 hV dX0_init_30 mi_X0_17 (i_st _ _ _ (7 + 2 * j) (zsh_ring (i := j) (by omega)).1 (by rw [show 7 + 2 * j + 1 = 8 + 2 * j by omega]; exact (zsh_ring (i := j) (by omega)).2.1)) (by decide) (by omega) (Nat.le_of_ble_eq_true rfl) (fun v2 I2 J2 P2 hq2 => ?_)
        obtain ⟨⟨rfl, x2, y2, w2⟩, p2⟩ := hq2
        show V (7 + 2 * j + 2) I2 J2 P2 _ _ _
        refine s_aastore hV dX0_init_33 (by first | decide | omega) (by first | decide | omega) (by first | rfl | exact (zsh_ring (i := j) (by omega)).1) (by first | rfl | exact (zsh_ring (i := j) (by omega)).1) (by decide) (by omega) (by omega) ?_
        refine s_iinc hV dX0_init_34 rfl (z_st1_2_1 rfl) ?_
        refine r_goto hV 15 dX0_init_37 (by decide) ?_
        generalize hP4 : zu P2 6 (zu (P2 6) ((j : Int)).toNat (some (7 + 2 * j))) = P4
        have w4 : ∀ q, q ≠ 6 → P4 q = P2 q := fun q h => by rw [← hP4, zu_n _ _ h]
        have v4 : ∀ i, i ≠ j → P4 6 i = P2 6 i := fun i h => by rw [← hP4, zu_s, Int.toNat_natCast, zu_n _ _ h]
        have s4 : P4 6 j = some (7 + 2 * j) := by rw [← hP4, zu_s, Int.toNat_natCast, zu_s]
        clear hP4
        have g2 : ∀ q, q < 7 + 2 * j → P2 q = P1 q := fun q h => (w2 q h).trans (zu_n _ _ (by omega))
        have hgo := ih15 (j + 1) I2 J2 P4 (by omega) (by omega) (fun q h => (x2 q (by omega)).trans ((zu_n _ _ (by omega)).trans (hI q h))) (fun q h1 h2 => by
          rcases (show q < 7 + 2 * j ∨ q = 7 + 2 * j ∨ q = 7 + 2 * j + 1 by omega) with h | h | h
          · exact (x2 q (by omega)).trans ((zu_n _ _ (by omega)).trans (hz q h1 h))
          · rw [h, x2 _ (by omega), zu_s]
          · exact y2 q (by omega) (by omega)) (fun q h => (w4 q (by omega)).trans ((g2 q (by omega)).trans (hP q h))) (by rw [w4 _ (by omega), g2 _ (by omega)]; exact h50) (fun i hi => by
          rcases (show i < j ∨ i = j by omega) with h | h
          · rw [v4 i (by omega), g2 6 (by omega), w4 _ (by omega), g2 _ (by omega)]; exact hrow i h
          · rw [h]
            refine ⟨s4, ?_⟩
            rw [w4 _ (by omega)]
            exact p2.trans (by congr 1; omega))
        rw [show 7 + 2 * (j + 1) = 7 + 2 * j + 2 by omega] at hgo
        exact hgo
  exact L15 17 0 _ _ _ (by omega) (by omega) (fun q h => zu_n _ _ (by omega)) (fun q h1 h2 => by rw [show q = 6 by omega, zu_s]) (fun q h => by rw [zu_n _ _ (by omega), zu_n _ _ (by omega)]) (by rw [zu_s, zu_s]) (fun i h => absurd h (by omega))

def q_i6 (I : zI) (P : zP) (v : Option Value) (I1 : zI) (J1 : zJ) (P1 : zP) : Prop := q_in I P 39 46 v I1 P1 ∧ zSl P1
set_option maxRecDepth 20000 in
theorem i_sl (I : zI) (J : zJ) (P : zP)  : z_Sp 5 yX6_init cX6_init 2 none 40 46 I J P [.ref 39] (q_i6 I P) := by
  refine z_met true (by decide +kernel) (fun _ => rfl) (Nat.le_of_ble_eq_true rfl) (by first | decide | omega) (fun V hV => ?_)
  show V 40 I J P 0 [.ref 39, .null] []
  refine r_aload_n hV dX6_init_0 rfl rfl ?_
  refine r_objinit hV dX6_init_1 oi_X6_3 (by decide) (Nat.le_of_ble_eq_true rfl) ?_
  refine r_aload_n hV dX6_init_4 rfl rfl ?_
  refine s_iconst hV dX6_init_5 (2) (by decide) ?_
  refine r_anewarray hV _ dX6_init_6 an_X6_9 (by first | rfl | assumption) ⟨by decide, rfl, by decide⟩ (by first | decide | omega) ?_
  refine r_putR hV dX6_init_9 fl_X6_11 pf_X6_11 (by first | decide | omega) (by first | rfl | assumption) ?_
  refine r_aload_n hV dX6_init_12 rfl rfl ?_
  refine s_iconst hV dX6_init_13 (2) (by decide) ?_
  refine r_newarray hV _ dX6_init_14 ac_boolean (by first | rfl | assumption) ⟨by decide, rfl, by decide⟩ (by first | decide | omega) ?_
  refine r_putR hV dX6_init_16 fl_X6_17 pf_X6_17 (by first | decide | omega) (by first | rfl | assumption) ?_
  refine s_iconst hV dX6_init_19 (0) (by decide) ?_
  refine r_istore_n hV dX6_init_20 (Nat.le_of_ble_eq_true rfl) (z_st1_2_1 rfl) ?_
  have L21 : ∀ (k21 j : Nat) (I1 : zI) (J1 : zJ) (P1 : zP), 2 - j < k21 → j ≤ 2 → (∀ q, q ≤ 39 → I1 q = I q) → (∀ q, 39 < q → q < 42 + 2 * j → I1 q = fun _ => 0) → (∀ q, q < 39 → P1 q = P q) → (P1 39 0 = some 40) → (P1 39 1 = some 41) → (∀ i, i < j → P1 40 i = some (42 + 2 * i) ∧ P1 (42 + 2 * i) 6 = some (43 + 2 * i)) → V (42 + 2 * j) I1 J1 P1 21 [.ref 39, .int (iI (j : Int))] [] := by
    intro k21
    induction k21 with
    | zero => intro j I1  J1  P1  hk1 hk2; omega
    | succ k21 ih21 =>
      intro j I1  J1  P1  hk21 hl21 hI hz hP h0 h1 hrow
      refine r_iload_n hV dX6_init_21 rfl ?_
      refine s_iconst hV dX6_init_22 (2) (by decide) ?_
      refine s_icmp_ge hV 45 dX6_init_23 (by decide) (by unfold z_rg; first | omega | (split <;> omega)) (by unfold z_rg; first | omega | (split <;> omega)) (fun c23 => ?_) (fun c23 => ?_)
      · have hj : j = 2 := by omega
        subst hj
        refine r_vret hV dX6_init_45 rfl rfl ?_
        refine ⟨⟨rfl, hI, fun q a b => hz q a (by omega), hP⟩, h0, h1, fun z a b => (hrow z.toNat (by omega)).1, fun z a b => ?_⟩
        have hr := zsh_slot (i := z.toNat) (by omega)
        exact ⟨hr.2.2, hr.1, by rw [show 42 + 2 * z.toNat + 1 = 43 + 2 * z.toNat by omega]; exact hr.2.1, by rw [show 42 + 2 * z.toNat + 1 = 43 + 2 * z.toNat by omega]; exact (hrow z.toNat (by omega)).2⟩
      · refine r_aload_n hV dX6_init_26 rfl rfl ?_
        refine r_getR hV dX6_init_27 fl_X6_11 (by first | decide | omega) (by first | rfl | assumption) h0 ?_
        refine r_iload_n hV dX6_init_30 rfl ?_
        refine r_new hV dX6_init_31 nw_X6_9 (zsh_slot (i := j) (by omega)).1 (by first | decide | omega) ?_
        refine r_dup hV dX6_init_34 rfl ?_
        refine r_in0 hV dX6_init_35 mi_X6_21 (i_st _ _ _ (42 + 2 * j) (zsh_slot (i := j) (by omega)).1 (by rw [show 42 + 2 * j + 1 = 43 + 2 * j by omega]; exact (zsh_slot (i := j) (by omega)).2.1)) (by decide) (by omega) (Nat.le_of_ble_eq_true rfl) (fun v2 I2 J2 P2 hq2 => ?_)
        obtain ⟨⟨rfl, x2, y2, w2⟩, p2⟩ := hq2
        show V (42 + 2 * j + 2) I2 J2 P2 _ _ _
        refine s_aastore hV dX6_init_38 (by first | decide | omega) (by first | decide | omega) (by first | rfl | exact (zsh_slot (i := j) (by omega)).1) (by first | rfl | exact (zsh_slot (i := j) (by omega)).1) (by decide) (by omega) (by omega) ?_
        refine s_iinc hV dX6_init_39 rfl (z_st1_2_1 rfl) ?_
        refine r_goto hV 21 dX6_init_42 (by decide) ?_
        generalize hP4 : zu P2 40 (zu (P2 40) ((j : Int)).toNat (some (42 + 2 * j))) = P4
        have w4 : ∀ q, q ≠ 40 → P4 q = P2 q := fun q h => by rw [← hP4, zu_n _ _ h]
        have v4 : ∀ i, i ≠ j → P4 40 i = P2 40 i := fun i h => by rw [← hP4, zu_s, Int.toNat_natCast, zu_n _ _ h]
        have s4 : P4 40 j = some (42 + 2 * j) := by rw [← hP4, zu_s, Int.toNat_natCast, zu_s]
        clear hP4
        have g2 : ∀ q, q < 42 + 2 * j → P2 q = P1 q := fun q h => (w2 q h).trans (zu_n _ _ (by omega))
        have hgo := ih21 (j + 1) I2 J2 P4 (by omega) (by omega) (fun q h => (x2 q (by omega)).trans ((zu_n _ _ (by omega)).trans (hI q h))) (fun q h1 h2 => by
          rcases (show q < 42 + 2 * j ∨ q = 42 + 2 * j ∨ q = 42 + 2 * j + 1 by omega) with h | h | h
          · exact (x2 q (by omega)).trans ((zu_n _ _ (by omega)).trans (hz q h1 h))
          · rw [h, x2 _ (by omega), zu_s]
          · exact y2 q (by omega) (by omega)) (fun q h => (w4 q (by omega)).trans ((g2 q (by omega)).trans (hP q h))) (by rw [w4 _ (by omega), g2 _ (by omega)]; exact h0) (by rw [w4 _ (by omega), g2 _ (by omega)]; exact h1) (fun i hi => by
          rcases (show i < j ∨ i = j by omega) with h | h
          · rw [v4 i (by omega), g2 40 (by omega), w4 _ (by omega), g2 _ (by omega)]; exact hrow i h
          · rw [h]
            refine ⟨s4, ?_⟩
            rw [w4 _ (by omega)]
            exact p2.trans (by congr 1; omega))
        rw [show 42 + 2 * (j + 1) = 42 + 2 * j + 2 by omega] at hgo
        exact hgo
  exact L21 3 0 _ _ _ (by omega) (by omega) (fun q h => by rw [zu_n _ _ (by omega), zu_n _ _ (by omega)]) (fun q h1 h2 => by
    rcases (show q = 40 ∨ q = 41 by omega) with rfl | rfl <;> rfl) (fun q h => by rw [zu_n _ _ (by omega), zu_n _ _ (by omega), zu_n _ _ (by omega), zu_n _ _ (by omega)]) rfl rfl (fun i h => absurd h (by omega))

theorem zAc_fr {P P1 : zP} (h : zAc P) (e : ∀ q, 5 ≤ q → q < 39 → P1 q = P q) : zAc P1 := by
  refine ⟨?_, fun z a b => ?_, fun z a b => zStn_fr (h.2.2 z a b) (e _ (by omega) (by omega))⟩
  · rw [e 5 (by omega) (by omega)]; exact h.1
  · rw [e 6 (by omega) (by omega)]; exact h.2.1 z a b
theorem zSl_fr {P P1 : zP} (h : zSl P) (e : ∀ q, 39 ≤ q → q < 46 → P1 q = P q) : zSl P1 := by
  refine ⟨?_, ?_, fun z a b => ?_, fun z a b => zStn_fr (h.2.2.2 z a b) (e _ (by omega) (by omega))⟩
  · rw [e 39 (by omega) (by omega)]; exact h.1
  · rw [e 39 (by omega) (by omega)]; exact h.2.1
  · rw [e 40 (by omega) (by omega)]; exact h.2.2.1 z a b
def q_i11 (v : Option Value) (I1 : zI) (J1 : zJ) (P1 : zP) : Prop := v = none ∧ cK P1 ∧ P1 0 10 = some 66 ∧ P1 0 11 = some 72 ∧ zRw P1 60 61 ∧ (∀ q, 1 ≤ q → q < 66 → I1 q = fun _ => 0) ∧ (I1 66 0 = iI 2 ∧ I1 66 1 = iI 0 ∧ I1 66 2 = iI 0 ∧ I1 66 3 = iI 0) ∧ z_ar I1 68 36 (f_ms (fun _ => 0)) ∧ (I1 69 = (fun _ => 0) ∧ I1 70 = (fun _ => 0) ∧ I1 71 = fun _ => 0) ∧ I1 75 = (fun _ => 0) ∧ I1 76 = (fun _ => 0) ∧ I1 77 = fun _ => 0
set_option maxRecDepth 20000 in
theorem i_own (I : zI) (J : zJ) (P : zP)  : z_Sp 6 yX11_init cX11_init 1 none 1 78 I J P [.ref 0] q_i11 := by
  refine z_met true (by decide +kernel) (fun _ => rfl) (Nat.le_of_ble_eq_true rfl) (by first | decide | omega) (fun V hV => ?_)
  show V 1 I J P 0 [.ref 0] []
  refine r_aload_n hV dX11_init_0 rfl rfl ?_
  refine r_objinit hV dX11_init_1 oi_X11_1 (by decide) (Nat.le_of_ble_eq_true rfl) ?_
  refine r_aload_n hV dX11_init_4 rfl rfl ?_
  refine r_new hV dX11_init_5 nw_X11_7 (by first | rfl | assumption) (by first | decide | omega) ?_
  refine r_dup hV dX11_init_8 rfl ?_
  refine r_in0 hV dX11_init_9 mi_X11_9 (i_tx _ _ _) (by decide) (by omega) (Nat.le_of_ble_eq_true rfl) (fun v1 I1 J1 P1 hq => ?_)
  obtain ⟨⟨rfl, x_, y_, c_⟩, d1⟩ := hq
  show V 3 I1 J1 P1 _ _ _
  have i1 : ∀ q, q < 1 → I1 q = I q := fun q h => (x_ q (by omega)).trans (zu_n _ _ (by omega))
  have z1 : ∀ q, 1 ≤ q → q < 3 → I1 q = fun _ => 0 := fun q h1 h2 => by
    rcases (show q = 1 ∨ 1 < q by omega) with rfl | h
    · rw [x_ _ (by omega), zu_s]
    · exact y_ q h h2
  have c1 : ∀ q, q < 1 → P1 q = P q := fun q h => (c_ q h).trans (zu_n _ _ (by omega))
  clear x_ y_ c_
  refine r_putR hV dX11_init_12 fl_X11_10 pf_X11_10 (by first | decide | omega) (by first | rfl | assumption) ?_
  generalize hQ1 : zu P1 0 (zu (P1 0) 0 (some 1)) = Q1
  have t1 : ∀ q, q ≠ 0 → Q1 q = P1 q := fun q h => by rw [← hQ1, zu_n _ _ h]
  have w1 : ∀ q, q ≠ 0 → q < 1 → Q1 q = P q := fun q h1 h2 => (t1 q h1).trans (c1 q h2)
  have v1 : ∀ j, j ≠ 0 → Q1 0 j = P 0 j := fun j h => by rw [← hQ1, zu_s, zu_n _ _ h, c1 0 (by omega)]
  have s1 : Q1 0 0 = some 1 := by rw [← hQ1, zu_s, zu_s]
  clear hQ1
  refine r_aload_n hV dX11_init_15 rfl rfl ?_
  refine r_new hV dX11_init_16 nw_X11_16 (by first | rfl | assumption) (by first | decide | omega) ?_
  refine r_dup hV dX11_init_19 rfl ?_
  refine r_in0 hV dX11_init_20 mi_X11_18 (i_st _ _ _ 3 rfl rfl) (by decide) (by omega) (Nat.le_of_ble_eq_true rfl) (fun v2 I2 J2 P2 hq => ?_)
  obtain ⟨⟨rfl, x_, y_, c_⟩, d2⟩ := hq
  show V 5 I2 J2 P2 _ _ _
  have i2 : ∀ q, q < 3 → I2 q = I1 q := fun q h => (x_ q (by omega)).trans (zu_n _ _ (by omega))
  have z2 : ∀ q, 3 ≤ q → q < 5 → I2 q = fun _ => 0 := fun q h1 h2 => by
    rcases (show q = 3 ∨ 3 < q by omega) with rfl | h
    · rw [x_ _ (by omega), zu_s]
    · exact y_ q h h2
  have c2 : ∀ q, q < 3 → P2 q = Q1 q := fun q h => (c_ q h).trans (zu_n _ _ (by omega))
  clear x_ y_ c_
  refine r_putR hV dX11_init_23 fl_X11_19 pf_X11_19 (by first | decide | omega) (by first | rfl | assumption) ?_
  generalize hQ2 : zu P2 0 (zu (P2 0) 1 (some 3)) = Q2
  have t2 : ∀ q, q ≠ 0 → Q2 q = P2 q := fun q h => by rw [← hQ2, zu_n _ _ h]
  have w2 : ∀ q, q ≠ 0 → q < 3 → Q2 q = Q1 q := fun q h1 h2 => (t2 q h1).trans (c2 q h2)
  have v2 : ∀ j, j ≠ 1 → Q2 0 j = Q1 0 j := fun j h => by rw [← hQ2, zu_s, zu_n _ _ h, c2 0 (by omega)]
  have s2 : Q2 0 1 = some 3 := by rw [← hQ2, zu_s, zu_s]
  clear hQ2
  refine r_aload_n hV dX11_init_26 rfl rfl ?_
  refine r_new hV dX11_init_27 nw_X11_23 (by first | rfl | assumption) (by first | decide | omega) ?_
  refine r_dup hV dX11_init_30 rfl ?_
  refine r_in0 hV dX11_init_31 mi_X11_25 (i_ac _ _ _) (by decide) (by omega) (Nat.le_of_ble_eq_true rfl) (fun v3 I3 J3 P3 hq => ?_)
  obtain ⟨⟨rfl, x_, y_, c_⟩, d3⟩ := hq
  show V 39 I3 J3 P3 _ _ _
  have i3 : ∀ q, q < 5 → I3 q = I2 q := fun q h => (x_ q (by omega)).trans (zu_n _ _ (by omega))
  have z3 : ∀ q, 5 ≤ q → q < 39 → I3 q = fun _ => 0 := fun q h1 h2 => by
    rcases (show q = 5 ∨ 5 < q by omega) with rfl | h
    · rw [x_ _ (by omega), zu_s]
    · exact y_ q h h2
  have c3 : ∀ q, q < 5 → P3 q = Q2 q := fun q h => (c_ q h).trans (zu_n _ _ (by omega))
  clear x_ y_ c_
  refine r_putR hV dX11_init_34 fl_X11_26 pf_X11_26 (by first | decide | omega) (by first | rfl | assumption) ?_
  generalize hQ3 : zu P3 0 (zu (P3 0) 2 (some 5)) = Q3
  have t3 : ∀ q, q ≠ 0 → Q3 q = P3 q := fun q h => by rw [← hQ3, zu_n _ _ h]
  have w3 : ∀ q, q ≠ 0 → q < 5 → Q3 q = Q2 q := fun q h1 h2 => (t3 q h1).trans (c3 q h2)
  have v3 : ∀ j, j ≠ 2 → Q3 0 j = Q2 0 j := fun j h => by rw [← hQ3, zu_s, zu_n _ _ h, c3 0 (by omega)]
  have s3 : Q3 0 2 = some 5 := by rw [← hQ3, zu_s, zu_s]
  clear hQ3
  refine r_aload_n hV dX11_init_37 rfl rfl ?_
  refine r_new hV dX11_init_38 nw_X11_30 (by first | rfl | assumption) (by first | decide | omega) ?_
  refine r_dup hV dX11_init_41 rfl ?_
  refine r_in0 hV dX11_init_42 mi_X11_32 (i_sl _ _ _) (by decide) (by omega) (Nat.le_of_ble_eq_true rfl) (fun v4 I4 J4 P4 hq => ?_)
  obtain ⟨⟨rfl, x_, y_, c_⟩, d4⟩ := hq
  show V 46 I4 J4 P4 _ _ _
  have i4 : ∀ q, q < 39 → I4 q = I3 q := fun q h => (x_ q (by omega)).trans (zu_n _ _ (by omega))
  have z4 : ∀ q, 39 ≤ q → q < 46 → I4 q = fun _ => 0 := fun q h1 h2 => by
    rcases (show q = 39 ∨ 39 < q by omega) with rfl | h
    · rw [x_ _ (by omega), zu_s]
    · exact y_ q h h2
  have c4 : ∀ q, q < 39 → P4 q = Q3 q := fun q h => (c_ q h).trans (zu_n _ _ (by omega))
  clear x_ y_ c_
  refine r_putR hV dX11_init_45 fl_X11_33 pf_X11_33 (by first | decide | omega) (by first | rfl | assumption) ?_
  generalize hQ4 : zu P4 0 (zu (P4 0) 3 (some 39)) = Q4
  have t4 : ∀ q, q ≠ 0 → Q4 q = P4 q := fun q h => by rw [← hQ4, zu_n _ _ h]
  have w4 : ∀ q, q ≠ 0 → q < 39 → Q4 q = Q3 q := fun q h1 h2 => (t4 q h1).trans (c4 q h2)
  have v4 : ∀ j, j ≠ 3 → Q4 0 j = Q3 0 j := fun j h => by rw [← hQ4, zu_s, zu_n _ _ h, c4 0 (by omega)]
  have s4 : Q4 0 3 = some 39 := by rw [← hQ4, zu_s, zu_s]
  clear hQ4
  refine r_aload_n hV dX11_init_48 rfl rfl ?_
  refine r_new hV dX11_init_49 nw_X11_37 (by first | rfl | assumption) (by first | decide | omega) ?_
  refine r_dup hV dX11_init_52 rfl ?_
  refine r_in0 hV dX11_init_53 mi_X11_39 (i_tr _ _ _ 46 rfl rfl rfl) (by decide) (by omega) (Nat.le_of_ble_eq_true rfl) (fun v5 I5 J5 P5 hq => ?_)
  obtain ⟨⟨rfl, x_, y_, c_⟩, d5⟩ := hq
  show V 49 I5 J5 P5 _ _ _
  have i5 : ∀ q, q < 46 → I5 q = I4 q := fun q h => (x_ q (by omega)).trans (zu_n _ _ (by omega))
  have z5 : ∀ q, 46 ≤ q → q < 49 → I5 q = fun _ => 0 := fun q h1 h2 => by
    rcases (show q = 46 ∨ 46 < q by omega) with rfl | h
    · rw [x_ _ (by omega), zu_s]
    · exact y_ q h h2
  have c5 : ∀ q, q < 46 → P5 q = Q4 q := fun q h => (c_ q h).trans (zu_n _ _ (by omega))
  clear x_ y_ c_
  refine r_putR hV dX11_init_56 fl_X11_40 pf_X11_40 (by first | decide | omega) (by first | rfl | assumption) ?_
  generalize hQ5 : zu P5 0 (zu (P5 0) 4 (some 46)) = Q5
  have t5 : ∀ q, q ≠ 0 → Q5 q = P5 q := fun q h => by rw [← hQ5, zu_n _ _ h]
  have w5 : ∀ q, q ≠ 0 → q < 46 → Q5 q = Q4 q := fun q h1 h2 => (t5 q h1).trans (c5 q h2)
  have v5 : ∀ j, j ≠ 4 → Q5 0 j = Q4 0 j := fun j h => by rw [← hQ5, zu_s, zu_n _ _ h, c5 0 (by omega)]
  have s5 : Q5 0 4 = some 46 := by rw [← hQ5, zu_s, zu_s]
  clear hQ5
  refine r_aload_n hV dX11_init_59 rfl rfl ?_
  refine r_new hV dX11_init_60 nw_X11_44 (by first | rfl | assumption) (by first | decide | omega) ?_
  refine r_dup hV dX11_init_63 rfl ?_
  refine r_in0 hV dX11_init_64 mi_X11_46 (i_pl _ _ _) (by decide) (by omega) (Nat.le_of_ble_eq_true rfl) (fun v6 I6 J6 P6 hq => ?_)
  obtain ⟨⟨rfl, x_, y_, c_⟩, d6⟩ := hq
  show V 58 I6 J6 P6 _ _ _
  have i6 : ∀ q, q < 49 → I6 q = I5 q := fun q h => (x_ q (by omega)).trans (zu_n _ _ (by omega))
  have z6 : ∀ q, 49 ≤ q → q < 58 → I6 q = fun _ => 0 := fun q h1 h2 => by
    rcases (show q = 49 ∨ 49 < q by omega) with rfl | h
    · rw [x_ _ (by omega), zu_s]
    · exact y_ q h h2
  have c6 : ∀ q, q < 49 → P6 q = Q5 q := fun q h => (c_ q h).trans (zu_n _ _ (by omega))
  clear x_ y_ c_
  refine r_putR hV dX11_init_67 fl_X11_47 pf_X11_47 (by first | decide | omega) (by first | rfl | assumption) ?_
  generalize hQ6 : zu P6 0 (zu (P6 0) 5 (some 49)) = Q6
  have t6 : ∀ q, q ≠ 0 → Q6 q = P6 q := fun q h => by rw [← hQ6, zu_n _ _ h]
  have w6 : ∀ q, q ≠ 0 → q < 49 → Q6 q = Q5 q := fun q h1 h2 => (t6 q h1).trans (c6 q h2)
  have v6 : ∀ j, j ≠ 5 → Q6 0 j = Q5 0 j := fun j h => by rw [← hQ6, zu_s, zu_n _ _ h, c6 0 (by omega)]
  have s6 : Q6 0 5 = some 49 := by rw [← hQ6, zu_s, zu_s]
  clear hQ6
  refine r_aload_n hV dX11_init_70 rfl rfl ?_
  refine r_new hV dX11_init_71 nw_X11_51 (by first | rfl | assumption) (by first | decide | omega) ?_
  refine r_dup hV dX11_init_74 rfl ?_
  refine r_in0 hV dX11_init_75 mi_X11_53 (i_tn _ _ _) (by decide) (by omega) (Nat.le_of_ble_eq_true rfl) (fun v7 I7 J7 P7 hq => ?_)
  obtain ⟨rfl, x_, y_, c_⟩ := hq
  show V 59 I7 J7 P7 _ _ _
  have i7 : ∀ q, q < 58 → I7 q = I6 q := fun q h => (x_ q (by omega)).trans (zu_n _ _ (by omega))
  have z7 : ∀ q, 58 ≤ q → q < 59 → I7 q = fun _ => 0 := fun q h1 h2 => by
    rcases (show q = 58 ∨ 58 < q by omega) with rfl | h
    · rw [x_ _ (by omega), zu_s]
    · exact y_ q h h2
  have c7 : ∀ q, q < 58 → P7 q = Q6 q := fun q h => (c_ q h).trans (zu_n _ _ (by omega))
  clear x_ y_ c_
  refine r_putR hV dX11_init_78 fl_X11_54 pf_X11_54 (by first | decide | omega) (by first | rfl | assumption) ?_
  generalize hQ7 : zu P7 0 (zu (P7 0) 6 (some 58)) = Q7
  have t7 : ∀ q, q ≠ 0 → Q7 q = P7 q := fun q h => by rw [← hQ7, zu_n _ _ h]
  have w7 : ∀ q, q ≠ 0 → q < 58 → Q7 q = Q6 q := fun q h1 h2 => (t7 q h1).trans (c7 q h2)
  have v7 : ∀ j, j ≠ 6 → Q7 0 j = Q6 0 j := fun j h => by rw [← hQ7, zu_s, zu_n _ _ h, c7 0 (by omega)]
  have s7 : Q7 0 6 = some 58 := by rw [← hQ7, zu_s, zu_s]
  clear hQ7
  refine r_aload_n hV dX11_init_81 rfl rfl ?_
  refine r_new hV dX11_init_82 nw_X11_58 (by first | rfl | assumption) (by first | decide | omega) ?_
  refine r_dup hV dX11_init_85 rfl ?_
  refine r_in0 hV dX11_init_86 mi_X11_60 (i_rw _ _ _) (by decide) (by omega) (Nat.le_of_ble_eq_true rfl) (fun v8 I8 J8 P8 hq => ?_)
  obtain ⟨⟨rfl, x_, y_, c_⟩, d8⟩ := hq
  show V 62 I8 J8 P8 _ _ _
  have i8 : ∀ q, q < 59 → I8 q = I7 q := fun q h => (x_ q (by omega)).trans (zu_n _ _ (by omega))
  have z8 : ∀ q, 59 ≤ q → q < 62 → I8 q = fun _ => 0 := fun q h1 h2 => by
    rcases (show q = 59 ∨ 59 < q by omega) with rfl | h
    · rw [x_ _ (by omega), zu_s]
    · exact y_ q h h2
  have c8 : ∀ q, q < 59 → P8 q = Q7 q := fun q h => (c_ q h).trans (zu_n _ _ (by omega))
  clear x_ y_ c_
  refine r_putR hV dX11_init_89 fl_X11_61 pf_X11_61 (by first | decide | omega) (by first | rfl | assumption) ?_
  generalize hQ8 : zu P8 0 (zu (P8 0) 7 (some 59)) = Q8
  have t8 : ∀ q, q ≠ 0 → Q8 q = P8 q := fun q h => by rw [← hQ8, zu_n _ _ h]
  have w8 : ∀ q, q ≠ 0 → q < 59 → Q8 q = Q7 q := fun q h1 h2 => (t8 q h1).trans (c8 q h2)
  have v8 : ∀ j, j ≠ 7 → Q8 0 j = Q7 0 j := fun j h => by rw [← hQ8, zu_s, zu_n _ _ h, c8 0 (by omega)]
  have s8 : Q8 0 7 = some 59 := by rw [← hQ8, zu_s, zu_s]
  clear hQ8
  refine r_aload_n hV dX11_init_92 rfl rfl ?_
  refine r_new hV dX11_init_93 nw_X11_65 (by first | rfl | assumption) (by first | decide | omega) ?_
  refine r_dup hV dX11_init_96 rfl ?_
  refine r_in0 hV dX11_init_97 mi_X11_67 (i_gs _ _ _) (by decide) (by omega) (Nat.le_of_ble_eq_true rfl) (fun v9 I9 J9 P9 hq => ?_)
  obtain ⟨⟨rfl, x_, y_, c_⟩, d9⟩ := hq
  show V 65 I9 J9 P9 _ _ _
  have i9 : ∀ q, q < 62 → I9 q = I8 q := fun q h => (x_ q (by omega)).trans (zu_n _ _ (by omega))
  have z9 : ∀ q, 62 ≤ q → q < 65 → I9 q = fun _ => 0 := fun q h1 h2 => by
    rcases (show q = 62 ∨ 62 < q by omega) with rfl | h
    · rw [x_ _ (by omega), zu_s]
    · exact y_ q h h2
  have c9 : ∀ q, q < 62 → P9 q = Q8 q := fun q h => (c_ q h).trans (zu_n _ _ (by omega))
  clear x_ y_ c_
  refine r_putR hV dX11_init_100 fl_X11_68 pf_X11_68 (by first | decide | omega) (by first | rfl | assumption) ?_
  generalize hQ9 : zu P9 0 (zu (P9 0) 8 (some 62)) = Q9
  have t9 : ∀ q, q ≠ 0 → Q9 q = P9 q := fun q h => by rw [← hQ9, zu_n _ _ h]
  have w9 : ∀ q, q ≠ 0 → q < 62 → Q9 q = Q8 q := fun q h1 h2 => (t9 q h1).trans (c9 q h2)
  have v9 : ∀ j, j ≠ 8 → Q9 0 j = Q8 0 j := fun j h => by rw [← hQ9, zu_s, zu_n _ _ h, c9 0 (by omega)]
  have s9 : Q9 0 8 = some 62 := by rw [← hQ9, zu_s, zu_s]
  clear hQ9
  refine r_aload_n hV dX11_init_103 rfl rfl ?_
  refine s_bipush hV dX11_init_104 (8) (by decide) ?_
  refine r_newarray hV _ dX11_init_106 ac_int (by first | rfl | assumption) ⟨by decide, rfl, by decide⟩ (by first | decide | omega) ?_
  generalize hI10 : zu I9 65 (fun _ => 0) = I10
  generalize hPP10 : zu Q9 65 (fun _ => none) = P10
  have i10 : ∀ q, q < 65 → I10 q = I9 q := fun q h => by rw [← hI10, zu_n _ _ (by omega)]
  have z10 : ∀ q, 65 ≤ q → q < 66 → I10 q = fun _ => 0 := fun q h1 h2 => by rw [show q = 65 by omega, ← hI10, zu_s]
  have c10 : ∀ q, q < 65 → P10 q = Q9 q := fun q h => by rw [← hPP10, zu_n _ _ (by omega)]
  clear hI10 hPP10
  refine r_putR hV dX11_init_108 fl_X11_72 pf_X11_72 (by first | decide | omega) (by first | rfl | assumption) ?_
  generalize hQ10 : zu P10 0 (zu (P10 0) 9 (some 65)) = Q10
  have t10 : ∀ q, q ≠ 0 → Q10 q = P10 q := fun q h => by rw [← hQ10, zu_n _ _ h]
  have w10 : ∀ q, q ≠ 0 → q < 65 → Q10 q = Q9 q := fun q h1 h2 => (t10 q h1).trans (c10 q h2)
  have v10 : ∀ j, j ≠ 9 → Q10 0 j = Q9 0 j := fun j h => by rw [← hQ10, zu_s, zu_n _ _ h, c10 0 (by omega)]
  have s10 : Q10 0 9 = some 65 := by rw [← hQ10, zu_s, zu_s]
  clear hQ10
  refine r_aload_n hV dX11_init_111 rfl rfl ?_
  refine r_new hV dX11_init_112 nw_X11_76 (by first | rfl | assumption) (by first | decide | omega) ?_
  refine r_dup hV dX11_init_115 rfl ?_
  refine r_in0 hV dX11_init_116 mi_X11_78 (i_day _ _ _ 66 rfl rfl rfl rfl rfl rfl) (by decide) (by omega) (Nat.le_of_ble_eq_true rfl) (fun v11 I11 J11 P11 hq => ?_)
  obtain ⟨rfl, x_, c_, d11, g11, l11, la11, lb11, lc11⟩ := hq
  show V 72 I11 J11 P11 _ _ _
  have i11 : ∀ q, q < 66 → I11 q = I10 q := fun q h => (x_ q h).trans (zu_n _ _ (by omega))
  have c11 : ∀ q, q < 66 → P11 q = Q10 q := fun q h => (c_ q h).trans (zu_n _ _ (by omega))
  clear x_ c_
  refine r_putR hV dX11_init_119 fl_X11_79 (pf_X11_79 _) (by first | decide | omega) (by first | rfl | assumption) ?_
  generalize hQ11 : zu P11 0 (zu (P11 0) 10 (some 66)) = Q11
  have t11 : ∀ q, q ≠ 0 → Q11 q = P11 q := fun q h => by rw [← hQ11, zu_n _ _ h]
  have w11 : ∀ q, q ≠ 0 → q < 66 → Q11 q = Q10 q := fun q h1 h2 => (t11 q h1).trans (c11 q h2)
  have v11 : ∀ j, j ≠ 10 → Q11 0 j = Q10 0 j := fun j h => by rw [← hQ11, zu_s, zu_n _ _ h, c11 0 (by omega)]
  have s11 : Q11 0 10 = some 66 := by rw [← hQ11, zu_s, zu_s]
  clear hQ11
  refine r_aload_n hV dX11_init_122 rfl rfl ?_
  refine r_new hV dX11_init_123 nw_X11_76 (by first | rfl | assumption) (by first | decide | omega) ?_
  refine r_dup hV dX11_init_126 rfl ?_
  refine r_in0 hV dX11_init_127 mi_X11_78 (i_day _ _ _ 72 rfl rfl rfl rfl rfl rfl) (by decide) (by omega) (Nat.le_of_ble_eq_true rfl) (fun v12 I12 J12 P12 hq => ?_)
  obtain ⟨rfl, x_, c_, d12, g12, l12, la12, lb12, lc12⟩ := hq
  show V 78 I12 J12 P12 _ _ _
  have i12 : ∀ q, q < 72 → I12 q = I11 q := fun q h => (x_ q h).trans (zu_n _ _ (by omega))
  have c12 : ∀ q, q < 72 → P12 q = Q11 q := fun q h => (c_ q h).trans (zu_n _ _ (by omega))
  clear x_ c_
  refine r_putR hV dX11_init_130 fl_X11_83 (pf_X11_83 _) (by first | decide | omega) (by first | rfl | assumption) ?_
  generalize hQ12 : zu P12 0 (zu (P12 0) 11 (some 72)) = Q12
  have t12 : ∀ q, q ≠ 0 → Q12 q = P12 q := fun q h => by rw [← hQ12, zu_n _ _ h]
  have w12 : ∀ q, q ≠ 0 → q < 72 → Q12 q = Q11 q := fun q h1 h2 => (t12 q h1).trans (c12 q h2)
  have v12 : ∀ j, j ≠ 11 → Q12 0 j = Q11 0 j := fun j h => by rw [← hQ12, zu_s, zu_n _ _ h, c12 0 (by omega)]
  have s12 : Q12 0 11 = some 72 := by rw [← hQ12, zu_s, zu_s]
  clear hQ12
  refine r_vret hV dX11_init_133 rfl rfl ?_
  have F11 : ∀ q, q ≠ 0 → q < 72 → Q12 q = Q11 q := w12
  have F0_11 : ∀ j, j < 11 → Q12 0 j = Q11 0 j := fun j h => v12 j (by omega)
  have H11 : ∀ q, q < 72 → I12 q = I11 q := i12
  have F10 : ∀ q, q ≠ 0 → q < 66 → Q12 q = Q10 q := fun q h1 h2 => (F11 q h1 (by omega)).trans (w11 q h1 (by omega))
  have F0_10 : ∀ j, j < 10 → Q12 0 j = Q10 0 j := fun j h => (F0_11 j (by omega)).trans (v11 j (by omega))
  have H10 : ∀ q, q < 66 → I12 q = I10 q := fun q h => (H11 q (by omega)).trans (i11 q (by omega))
  have F9 : ∀ q, q ≠ 0 → q < 65 → Q12 q = Q9 q := fun q h1 h2 => (F10 q h1 (by omega)).trans (w10 q h1 (by omega))
  have F0_9 : ∀ j, j < 9 → Q12 0 j = Q9 0 j := fun j h => (F0_10 j (by omega)).trans (v10 j (by omega))
  have H9 : ∀ q, q < 65 → I12 q = I9 q := fun q h => (H10 q (by omega)).trans (i10 q (by omega))
  have F8 : ∀ q, q ≠ 0 → q < 62 → Q12 q = Q8 q := fun q h1 h2 => (F9 q h1 (by omega)).trans (w9 q h1 (by omega))
  have F0_8 : ∀ j, j < 8 → Q12 0 j = Q8 0 j := fun j h => (F0_9 j (by omega)).trans (v9 j (by omega))
  have H8 : ∀ q, q < 62 → I12 q = I8 q := fun q h => (H9 q (by omega)).trans (i9 q (by omega))
  have F7 : ∀ q, q ≠ 0 → q < 59 → Q12 q = Q7 q := fun q h1 h2 => (F8 q h1 (by omega)).trans (w8 q h1 (by omega))
  have F0_7 : ∀ j, j < 7 → Q12 0 j = Q7 0 j := fun j h => (F0_8 j (by omega)).trans (v8 j (by omega))
  have H7 : ∀ q, q < 59 → I12 q = I7 q := fun q h => (H8 q (by omega)).trans (i8 q (by omega))
  have F6 : ∀ q, q ≠ 0 → q < 58 → Q12 q = Q6 q := fun q h1 h2 => (F7 q h1 (by omega)).trans (w7 q h1 (by omega))
  have F0_6 : ∀ j, j < 6 → Q12 0 j = Q6 0 j := fun j h => (F0_7 j (by omega)).trans (v7 j (by omega))
  have H6 : ∀ q, q < 58 → I12 q = I6 q := fun q h => (H7 q (by omega)).trans (i7 q (by omega))
  have F5 : ∀ q, q ≠ 0 → q < 49 → Q12 q = Q5 q := fun q h1 h2 => (F6 q h1 (by omega)).trans (w6 q h1 (by omega))
  have F0_5 : ∀ j, j < 5 → Q12 0 j = Q5 0 j := fun j h => (F0_6 j (by omega)).trans (v6 j (by omega))
  have H5 : ∀ q, q < 49 → I12 q = I5 q := fun q h => (H6 q (by omega)).trans (i6 q (by omega))
  have F4 : ∀ q, q ≠ 0 → q < 46 → Q12 q = Q4 q := fun q h1 h2 => (F5 q h1 (by omega)).trans (w5 q h1 (by omega))
  have F0_4 : ∀ j, j < 4 → Q12 0 j = Q4 0 j := fun j h => (F0_5 j (by omega)).trans (v5 j (by omega))
  have H4 : ∀ q, q < 46 → I12 q = I4 q := fun q h => (H5 q (by omega)).trans (i5 q (by omega))
  have F3 : ∀ q, q ≠ 0 → q < 39 → Q12 q = Q3 q := fun q h1 h2 => (F4 q h1 (by omega)).trans (w4 q h1 (by omega))
  have F0_3 : ∀ j, j < 3 → Q12 0 j = Q3 0 j := fun j h => (F0_4 j (by omega)).trans (v4 j (by omega))
  have H3 : ∀ q, q < 39 → I12 q = I3 q := fun q h => (H4 q (by omega)).trans (i4 q (by omega))
  have F2 : ∀ q, q ≠ 0 → q < 5 → Q12 q = Q2 q := fun q h1 h2 => (F3 q h1 (by omega)).trans (w3 q h1 (by omega))
  have F0_2 : ∀ j, j < 2 → Q12 0 j = Q2 0 j := fun j h => (F0_3 j (by omega)).trans (v3 j (by omega))
  have H2 : ∀ q, q < 5 → I12 q = I2 q := fun q h => (H3 q (by omega)).trans (i3 q (by omega))
  have F1 : ∀ q, q ≠ 0 → q < 3 → Q12 q = Q1 q := fun q h1 h2 => (F2 q h1 (by omega)).trans (w2 q h1 (by omega))
  have F0_1 : ∀ j, j < 1 → Q12 0 j = Q1 0 j := fun j h => (F0_2 j (by omega)).trans (v2 j (by omega))
  have H1 : ∀ q, q < 3 → I12 q = I1 q := fun q h => (H2 q (by omega)).trans (i2 q (by omega))
  have G1 : ∀ q, q ≠ 0 → q < 3 → Q12 q = P1 q := fun q h1 h2 => (F1 q h1 h2).trans (t1 q h1)
  have G2 : ∀ q, q ≠ 0 → q < 5 → Q12 q = P2 q := fun q h1 h2 => (F2 q h1 h2).trans (t2 q h1)
  have G3 : ∀ q, q ≠ 0 → q < 39 → Q12 q = P3 q := fun q h1 h2 => (F3 q h1 h2).trans (t3 q h1)
  have G4 : ∀ q, q ≠ 0 → q < 46 → Q12 q = P4 q := fun q h1 h2 => (F4 q h1 h2).trans (t4 q h1)
  have G5 : ∀ q, q ≠ 0 → q < 49 → Q12 q = P5 q := fun q h1 h2 => (F5 q h1 h2).trans (t5 q h1)
  have G6 : ∀ q, q ≠ 0 → q < 58 → Q12 q = P6 q := fun q h1 h2 => (F6 q h1 h2).trans (t6 q h1)
  have G7 : ∀ q, q ≠ 0 → q < 59 → Q12 q = P7 q := fun q h1 h2 => (F7 q h1 h2).trans (t7 q h1)
  have G8 : ∀ q, q ≠ 0 → q < 62 → Q12 q = P8 q := fun q h1 h2 => (F8 q h1 h2).trans (t8 q h1)
  have G9 : ∀ q, q ≠ 0 → q < 65 → Q12 q = P9 q := fun q h1 h2 => (F9 q h1 h2).trans (t9 q h1)
  have G10 : ∀ q, q ≠ 0 → q < 66 → Q12 q = P10 q := fun q h1 h2 => (F10 q h1 h2).trans (t10 q h1)
  have G11 : ∀ q, q ≠ 0 → q < 72 → Q12 q = P11 q := fun q h1 h2 => (F11 q h1 h2).trans (t11 q h1)
  have G12 : ∀ q, q ≠ 0 → Q12 q = P12 q := t12
  refine ⟨rfl, ⟨(F0_1 0 (by omega)).trans s1, (F0_2 1 (by omega)).trans s2, (F0_3 2 (by omega)).trans s3, (F0_4 3 (by omega)).trans s4, (F0_5 4 (by omega)).trans s5, (F0_6 5 (by omega)).trans s6, (F0_7 6 (by omega)).trans s7, (F0_8 7 (by omega)).trans s8, (F0_9 8 (by omega)).trans s9, (F0_10 9 (by omega)).trans s10, (congrFun (G1 1 (by omega) (by omega)) 0).trans d1, ⟨by omega, rfl, rfl, (congrFun (G2 3 (by omega) (by omega)) 6).trans d2⟩, zAc_fr d3 (fun q a b => G3 q (by omega) (by omega)), zSl_fr d4 (fun q a b => G4 q (by omega) (by omega)), ⟨by omega, (congrFun (G5 46 (by omega) (by omega)) 1).trans d5.1, (congrFun (G5 46 (by omega) (by omega)) 2).trans d5.2⟩, ⟨by omega, (congrFun (G6 50 (by omega) (by omega)) 1).trans d6.2.1.1, (congrFun (G6 50 (by omega) (by omega)) 2).trans d6.2.1.2⟩, ⟨by omega, (congrFun (G6 53 (by omega) (by omega)) 1).trans d6.2.2.1, (congrFun (G6 53 (by omega) (by omega)) 2).trans d6.2.2.2⟩, ?_, ⟨(congrFun (G9 62 (by omega) (by omega)) 0).trans d9.1, (congrFun (G9 62 (by omega) (by omega)) 1).trans d9.2⟩, ⟨by omega, (congrFun (G11 66 (by omega) (by omega)) 4).trans d11.1, (congrFun (G11 66 (by omega) (by omega)) 5).trans d11.2.1, (congrFun (G11 66 (by omega) (by omega)) 6).trans d11.2.2.1, (congrFun (G11 66 (by omega) (by omega)) 7).trans d11.2.2.2.1, (congrFun (G11 66 (by omega) (by omega)) 8).trans d11.2.2.2.2⟩, ⟨by omega, (congrFun (G12 72 (by omega)) 4).trans d12.1, (congrFun (G12 72 (by omega)) 5).trans d12.2.1, (congrFun (G12 72 (by omega)) 6).trans d12.2.2.1, (congrFun (G12 72 (by omega)) 7).trans d12.2.2.2.1, (congrFun (G12 72 (by omega)) 8).trans d12.2.2.2.2⟩⟩, (F0_11 10 (by omega)).trans s11, s12, ⟨by omega, by omega, by omega, (congrFun (G8 59 (by omega) (by omega)) 0).trans d8.1, (congrFun (G8 59 (by omega) (by omega)) 1).trans d8.2⟩, fun q h1 h2 => ?_, ⟨(congrFun (H11 66 (by omega)) 0).trans g11.1, (congrFun (H11 66 (by omega)) 1).trans g11.2.1, (congrFun (H11 66 (by omega)) 2).trans g11.2.2.1, (congrFun (H11 66 (by omega)) 3).trans g11.2.2.2⟩, z_ar_fr l11 (H11 68 (by omega)), ⟨(H11 69 (by omega)).trans la11, (H11 70 (by omega)).trans lb11, (H11 71 (by omega)).trans lc11⟩, la12, lb12, lc12⟩
  · have e := G6 49 (by omega) (by omega)
    unfold zPn
    rw [e]
    exact d6.1
  · rcases (show (1 ≤ q ∧ q < 3) ∨ (3 ≤ q ∧ q < 5) ∨ (5 ≤ q ∧ q < 39) ∨ (39 ≤ q ∧ q < 46) ∨ (46 ≤ q ∧ q < 49) ∨ (49 ≤ q ∧ q < 58) ∨ (58 ≤ q ∧ q < 59) ∨ (59 ≤ q ∧ q < 62) ∨ (62 ≤ q ∧ q < 65) ∨ (65 ≤ q ∧ q < 66) by omega) with h | h | h | h | h | h | h | h | h | h
    · exact (H1 q (by omega)).trans (z1 q h.1 h.2)
    · exact (H2 q (by omega)).trans (z2 q h.1 h.2)
    · exact (H3 q (by omega)).trans (z3 q h.1 h.2)
    · exact (H4 q (by omega)).trans (z4 q h.1 h.2)
    · exact (H5 q (by omega)).trans (z5 q h.1 h.2)
    · exact (H6 q (by omega)).trans (z6 q h.1 h.2)
    · exact (H7 q (by omega)).trans (z7 q h.1 h.2)
    · exact (H8 q (by omega)).trans (z8 q h.1 h.2)
    · exact (H9 q (by omega)).trans (z9 q h.1 h.2)
    · exact (H10 q (by omega)).trans (z10 q h.1 h.2)

