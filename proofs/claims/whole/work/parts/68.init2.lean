theorem zsh_ring {i : Nat} (h : i < 16) : zSH (7 + 2 * i) = .inl 7 ∧ zSH (8 + 2 * i) = .inr (.int, 8) ∧ 7 + 2 * i + 1 < 78 := by
  rcases (show i = 0 ∨ i = 1 ∨ i = 2 ∨ i = 3 ∨ i = 4 ∨ i = 5 ∨ i = 6 ∨ i = 7 ∨ i = 8 ∨ i = 9 ∨ i = 10 ∨ i = 11 ∨ i = 12 ∨ i = 13 ∨ i = 14 ∨ i = 15 by omega) with rfl | rfl | rfl | rfl | rfl | rfl | rfl | rfl | rfl | rfl | rfl | rfl | rfl | rfl | rfl | rfl <;> exact ⟨rfl, rfl, by omega⟩
theorem zsh_slot {i : Nat} (h : i < 2) : zSH (42 + 2 * i) = .inl 7 ∧ zSH (43 + 2 * i) = .inr (.int, 8) ∧ 42 + 2 * i + 1 < 78 := by
  rcases (show i = 0 ∨ i = 1 by omega) with rfl | rfl <;> exact ⟨rfl, rfl, by omega⟩
def q_i0 (I : zI) (P : zP) (v : Option Value) (I1 : zI) (J1 : zJ) (P1 : zP) : Prop := q_in I P 5 39 v I1 P1 ∧ zAc P1
set_option maxRecDepth 20000 in
theorem i_ac (I : zI) (J : zJ) (P : zP)  : z_Sp 5 yX0_init cX0_init 2 none 6 39 I J P [.ref 5] (q_i0 I P) := by
  refine z_met true (by decide +kernel) (fun _ => rfl) (Nat.le_of_ble_eq_true rfl) (by first | decide | omega) (fun V hV => ?_)
  show V 6 I J P 0 [.ref 5, .null] []
  refine r_aload_n hV dX0_init_0 rfl rfl ?_
  refine r_objinit hV dX0_init_1 oi_X0_3 (by decide) (Nat.le_of_ble_eq_true rfl) ?_
  refine r_aload_n hV dX0_init_4 rfl rfl ?_
  refine s_bipush hV dX0_init_5 (16) (by decide) ?_
  refine r_anewarray hV _ dX0_init_7 an_X0_9 (by first | rfl | assumption) ⟨by decide, rfl, by decide⟩ (by first | decide | omega) ?_
  refine r_putR hV dX0_init_10 fl_X0_11 pf_X0_11 (by first | decide | omega) (by first | rfl | assumption) ?_
  refine s_iconst hV dX0_init_13 (0) (by decide) ?_
  refine r_istore_n hV dX0_init_14 (Nat.le_of_ble_eq_true rfl) (z_st1_2_1 rfl) ?_
  have L15 : ∀ (k15 j : Nat) (I1 : zI) (J1 : zJ) (P1 : zP), 16 - j < k15 → j ≤ 16 → (∀ q, q ≤ 5 → I1 q = I q) → (∀ q, 5 < q → q < 7 + 2 * j → I1 q = fun _ => 0) → (∀ q, q < 5 → P1 q = P q) → (P1 5 0 = some 6) → (∀ i, i < j → P1 6 i = some (7 + 2 * i) ∧ P1 (7 + 2 * i) 6 = some (8 + 2 * i)) → V (7 + 2 * j) I1 J1 P1 15 [.ref 5, .int (iI (j : Int))] [] := by
    intro k15
    induction k15 with
    | zero => intro j I1  J1  P1  hk1 hk2; omega
    | succ k15 ih15 =>
      intro j I1  J1  P1  hk15 hl15 hI hz hP h50 hrow
      refine r_iload_n hV dX0_init_15 rfl ?_
      refine s_bipush hV dX0_init_16 (16) (by decide) ?_
      refine s_icmp_ge hV 40 dX0_init_18 (by decide) (by unfold z_rg; first | omega | (split <;> omega)) (by unfold z_rg; first | omega | (split <;> omega)) (fun c18 => ?_) (fun c18 => ?_)
      · have hj : j = 16 := by omega
        subst hj
        refine r_vret hV dX0_init_40 rfl rfl ?_
        refine ⟨⟨rfl, hI, fun q a b => hz q a (by omega), hP⟩, h50, fun z a b => (hrow z.toNat (by omega)).1, fun z a b => ?_⟩
        have hr := zsh_ring (i := z.toNat) (by omega)
        exact ⟨hr.2.2, hr.1, by rw [show 7 + 2 * z.toNat + 1 = 8 + 2 * z.toNat by omega]; exact hr.2.1, by rw [show 7 + 2 * z.toNat + 1 = 8 + 2 * z.toNat by omega]; exact (hrow z.toNat (by omega)).2⟩
      · refine r_aload_n hV dX0_init_21 rfl rfl ?_
        refine r_getR hV dX0_init_22 fl_X0_11 (by first | decide | omega) (by first | rfl | assumption) ((h50)) ?_
        refine r_iload_n hV dX0_init_25 rfl ?_
        refine r_new hV dX0_init_26 nw_X0_9 (zsh_ring (i := j) (by omega)).1 (by first | decide | omega) ?_
        refine r_dup hV dX0_init_29 rfl ?_
        refine r_in0 hV dX0_init_30 mi_X0_17 (i_st _ _ _ (7 + 2 * j) (zsh_ring (i := j) (by omega)).1 (by rw [show 7 + 2 * j + 1 = 8 + 2 * j by omega]; exact (zsh_ring (i := j) (by omega)).2.1)) (by decide) (by omega) (Nat.le_of_ble_eq_true rfl) (fun v2 I2 J2 P2 hq2 => ?_)
        obtain ⟨⟨rfl, x2, y2, w2⟩, p2⟩ := hq2
        show V (7 + 2 * j + 2) I2 J2 P2 _ _ _
        refine s_aastore hV dX0_init_33 (by first | decide | omega) (by first | decide | omega) (by first | rfl | exact (zsh_ring (i := j) (by omega)).1) (by first | rfl | exact (zsh_ring (i := j) (by omega)).1) (by decide) (by omega) (by omega) ?_
        refine s_iinc hV dX0_init_34 rfl (z_st1_2_1 rfl) ?_
        refine r_goto hV 15 dX0_init_37 (by decide) ?_
        generalize hP4 : zu P2 6 (zu (P2 6) ((j : Int)).toNat (some (7 + 2 * j))) = P4
        have w4 : ∀ q, q ≠ 6 → P4 q = P2 q := fun q h => by rw [← hP4, zu_n _ _ h]
        have v4 : ∀ i, i ≠ j → P4 6 i = P2 6 i := fun i h => by rw [← hP4, zu_s, Int.toNat_natCast, zu_n _ _ h]
        have s4 : P4 6 j = some (7 + 2 * j) := by rw [← hP4, zu_s, Int.toNat_natCast, zu_s]
        clear hP4
        have g2 : ∀ q, q < 7 + 2 * j → P2 q = P1 q := fun q h => (w2 q h).trans (zu_n _ _ (by omega))
        have hgo := ih15 (j + 1) I2 J2 P4 (by omega) (by omega) (fun q h => (x2 q (by omega)).trans ((zu_n _ _ (by omega)).trans (hI q h))) (fun q h1 h2 => by
          rcases (show q < 7 + 2 * j ∨ q = 7 + 2 * j ∨ q = 7 + 2 * j + 1 by omega) with h | h | h
          · exact (x2 q (by omega)).trans ((zu_n _ _ (by omega)).trans (hz q h1 h))
          · rw [h, x2 _ (by omega), zu_s]
          · exact y2 q (by omega) (by omega)) (fun q h => (w4 q (by omega)).trans ((g2 q (by omega)).trans (hP q h))) (by rw [w4 _ (by omega), g2 _ (by omega)]; exact h50) (fun i hi => by
          rcases (show i < j ∨ i = j by omega) with h | h
          · rw [v4 i (by omega), g2 6 (by omega), w4 _ (by omega), g2 _ (by omega)]; exact hrow i h
          · rw [h]
            refine ⟨s4, ?_⟩
            rw [w4 _ (by omega)]
            exact p2.trans (by congr 1; omega))
        rw [show 7 + 2 * (j + 1) = 7 + 2 * j + 2 by omega] at hgo
        exact hgo
  exact L15 17 0 _ _ _ (by omega) (by omega) (fun q h => zu_n _ _ (by omega)) (fun q h1 h2 => by rw [show q = 6 by omega, zu_s]) (fun q h => by rw [zu_n _ _ (by omega), zu_n _ _ (by omega)]) (by rw [zu_s, zu_s]) (fun i h => absurd h (by omega))

def q_i6 (I : zI) (P : zP) (v : Option Value) (I1 : zI) (J1 : zJ) (P1 : zP) : Prop := q_in I P 39 46 v I1 P1 ∧ zSl P1
set_option maxRecDepth 20000 in
theorem i_sl (I : zI) (J : zJ) (P : zP)  : z_Sp 5 yX6_init cX6_init 2 none 40 46 I J P [.ref 39] (q_i6 I P) := by
  refine z_met true (by decide +kernel) (fun _ => rfl) (Nat.le_of_ble_eq_true rfl) (by first | decide | omega) (fun V hV => ?_)
  show V 40 I J P 0 [.ref 39, .null] []
  refine r_aload_n hV dX6_init_0 rfl rfl ?_
  refine r_objinit hV dX6_init_1 oi_X6_3 (by decide) (Nat.le_of_ble_eq_true rfl) ?_
  refine r_aload_n hV dX6_init_4 rfl rfl ?_
  refine s_iconst hV dX6_init_5 (2) (by decide) ?_
  refine r_anewarray hV _ dX6_init_6 an_X6_9 (by first | rfl | assumption) ⟨by decide, rfl, by decide⟩ (by first | decide | omega) ?_
  refine r_putR hV dX6_init_9 fl_X6_11 pf_X6_11 (by first | decide | omega) (by first | rfl | assumption) ?_
  refine r_aload_n hV dX6_init_12 rfl rfl ?_
  refine s_iconst hV dX6_init_13 (2) (by decide) ?_
  refine r_newarray hV _ dX6_init_14 ac_boolean (by first | rfl | assumption) ⟨by decide, rfl, by decide⟩ (by first | decide | omega) ?_
  refine r_putR hV dX6_init_16 fl_X6_17 pf_X6_17 (by first | decide | omega) (by first | rfl | assumption) ?_
  refine s_iconst hV dX6_init_19 (0) (by decide) ?_
  refine r_istore_n hV dX6_init_20 (Nat.le_of_ble_eq_true rfl) (z_st1_2_1 rfl) ?_
  have L21 : ∀ (k21 j : Nat) (I1 : zI) (J1 : zJ) (P1 : zP), 2 - j < k21 → j ≤ 2 → (∀ q, q ≤ 39 → I1 q = I q) → (∀ q, 39 < q → q < 42 + 2 * j → I1 q = fun _ => 0) → (∀ q, q < 39 → P1 q = P q) → (P1 39 0 = some 40) → (P1 39 1 = some 41) → (∀ i, i < j → P1 40 i = some (42 + 2 * i) ∧ P1 (42 + 2 * i) 6 = some (43 + 2 * i)) → V (42 + 2 * j) I1 J1 P1 21 [.ref 39, .int (iI (j : Int))] [] := by
    intro k21
    induction k21 with
    | zero => intro j I1  J1  P1  hk1 hk2; omega
    | succ k21 ih21 =>
      intro j I1  J1  P1  hk21 hl21 hI hz hP h0 h1 hrow
      refine r_iload_n hV dX6_init_21 rfl ?_
      refine s_iconst hV dX6_init_22 (2) (by decide) ?_
      refine s_icmp_ge hV 45 dX6_init_23 (by decide) (by unfold z_rg; first | omega | (split <;> omega)) (by unfold z_rg; first | omega | (split <;> omega)) (fun c23 => ?_) (fun c23 => ?_)
      · have hj : j = 2 := by omega
        subst hj
        refine r_vret hV dX6_init_45 rfl rfl ?_
        refine ⟨⟨rfl, hI, fun q a b => hz q a (by omega), hP⟩, h0, h1, fun z a b => (hrow z.toNat (by omega)).1, fun z a b => ?_⟩
        have hr := zsh_slot (i := z.toNat) (by omega)
        exact ⟨hr.2.2, hr.1, by rw [show 42 + 2 * z.toNat + 1 = 43 + 2 * z.toNat by omega]; exact hr.2.1, by rw [show 42 + 2 * z.toNat + 1 = 43 + 2 * z.toNat by omega]; exact (hrow z.toNat (by omega)).2⟩
      · refine r_aload_n hV dX6_init_26 rfl rfl ?_
        refine r_getR hV dX6_init_27 fl_X6_11 (by first | decide | omega) (by first | rfl | assumption) h0 ?_
        refine r_iload_n hV dX6_init_30 rfl ?_
        refine r_new hV dX6_init_31 nw_X6_9 (zsh_slot (i := j) (by omega)).1 (by first | decide | omega) ?_
        refine r_dup hV dX6_init_34 rfl ?_
        refine r_in0 hV dX6_init_35 mi_X6_21 (i_st _ _ _ (42 + 2 * j) (zsh_slot (i := j) (by omega)).1 (by rw [show 42 + 2 * j + 1 = 43 + 2 * j by omega]; exact (zsh_slot (i := j) (by omega)).2.1)) (by decide) (by omega) (Nat.le_of_ble_eq_true rfl) (fun v2 I2 J2 P2 hq2 => ?_)
        obtain ⟨⟨rfl, x2, y2, w2⟩, p2⟩ := hq2
        show V (42 + 2 * j + 2) I2 J2 P2 _ _ _
        refine s_aastore hV dX6_init_38 (by first | decide | omega) (by first | decide | omega) (by first | rfl | exact (zsh_slot (i := j) (by omega)).1) (by first | rfl | exact (zsh_slot (i := j) (by omega)).1) (by decide) (by omega) (by omega) ?_
        refine s_iinc hV dX6_init_39 rfl (z_st1_2_1 rfl) ?_
        refine r_goto hV 21 dX6_init_42 (by decide) ?_
        generalize hP4 : zu P2 40 (zu (P2 40) ((j : Int)).toNat (some (42 + 2 * j))) = P4
        have w4 : ∀ q, q ≠ 40 → P4 q = P2 q := fun q h => by rw [← hP4, zu_n _ _ h]
        have v4 : ∀ i, i ≠ j → P4 40 i = P2 40 i := fun i h => by rw [← hP4, zu_s, Int.toNat_natCast, zu_n _ _ h]
        have s4 : P4 40 j = some (42 + 2 * j) := by rw [← hP4, zu_s, Int.toNat_natCast, zu_s]
        clear hP4
        have g2 : ∀ q, q < 42 + 2 * j → P2 q = P1 q := fun q h => (w2 q h).trans (zu_n _ _ (by omega))
        have hgo := ih21 (j + 1) I2 J2 P4 (by omega) (by omega) (fun q h => (x2 q (by omega)).trans ((zu_n _ _ (by omega)).trans (hI q h))) (fun q h1 h2 => by
          rcases (show q < 42 + 2 * j ∨ q = 42 + 2 * j ∨ q = 42 + 2 * j + 1 by omega) with h | h | h
          · exact (x2 q (by omega)).trans ((zu_n _ _ (by omega)).trans (hz q h1 h))
          · rw [h, x2 _ (by omega), zu_s]
          · exact y2 q (by omega) (by omega)) (fun q h => (w4 q (by omega)).trans ((g2 q (by omega)).trans (hP q h))) (by rw [w4 _ (by omega), g2 _ (by omega)]; exact h0) (by rw [w4 _ (by omega), g2 _ (by omega)]; exact h1) (fun i hi => by
          rcases (show i < j ∨ i = j by omega) with h | h
          · rw [v4 i (by omega), g2 40 (by omega), w4 _ (by omega), g2 _ (by omega)]; exact hrow i h
          · rw [h]
            refine ⟨s4, ?_⟩
            rw [w4 _ (by omega)]
            exact p2.trans (by congr 1; omega))
        rw [show 42 + 2 * (j + 1) = 42 + 2 * j + 2 by omega] at hgo
        exact hgo
  exact L21 3 0 _ _ _ (by omega) (by omega) (fun q h => by rw [zu_n _ _ (by omega), zu_n _ _ (by omega)]) (fun q h1 h2 => by
    rcases (show q = 40 ∨ q = 41 by omega) with rfl | rfl <;> rfl) (fun q h => by rw [zu_n _ _ (by omega), zu_n _ _ (by omega), zu_n _ _ (by omega), zu_n _ _ (by omega)]) rfl rfl (fun i h => absurd h (by omega))

theorem zAc_fr {P P1 : zP} (h : zAc P) (e : ∀ q, 5 ≤ q → q < 39 → P1 q = P q) : zAc P1 := by
  refine ⟨?_, fun z a b => ?_, fun z a b => zStn_fr (h.2.2 z a b) (e _ (by omega) (by omega))⟩
  · rw [e 5 (by omega) (by omega)]; exact h.1
  · rw [e 6 (by omega) (by omega)]; exact h.2.1 z a b
theorem zSl_fr {P P1 : zP} (h : zSl P) (e : ∀ q, 39 ≤ q → q < 46 → P1 q = P q) : zSl P1 := by
  refine ⟨?_, ?_, fun z a b => ?_, fun z a b => zStn_fr (h.2.2.2 z a b) (e _ (by omega) (by omega))⟩
  · rw [e 39 (by omega) (by omega)]; exact h.1
  · rw [e 39 (by omega) (by omega)]; exact h.2.1
  · rw [e 40 (by omega) (by omega)]; exact h.2.2.1 z a b
def q_i11 (v : Option Value) (I1 : zI) (J1 : zJ) (P1 : zP) : Prop := v = none ∧ cK P1 ∧ P1 0 10 = some 66 ∧ P1 0 11 = some 72 ∧ zRw P1 60 61 ∧ (∀ q, 1 ≤ q → q < 66 → I1 q = fun _ => 0) ∧ (I1 66 0 = iI 2 ∧ I1 66 1 = iI 0 ∧ I1 66 2 = iI 0 ∧ I1 66 3 = iI 0) ∧ z_ar I1 68 36 (f_ms (fun _ => 0)) ∧ (I1 69 = (fun _ => 0) ∧ I1 70 = (fun _ => 0) ∧ I1 71 = fun _ => 0) ∧ I1 75 = (fun _ => 0) ∧ I1 76 = (fun _ => 0) ∧ I1 77 = fun _ => 0
set_option maxRecDepth 20000 in
theorem i_own (I : zI) (J : zJ) (P : zP)  : z_Sp 6 yX11_init cX11_init 1 none 1 78 I J P [.ref 0] q_i11 := by
  refine z_met true (by decide +kernel) (fun _ => rfl) (Nat.le_of_ble_eq_true rfl) (by first | decide | omega) (fun V hV => ?_)
  show V 1 I J P 0 [.ref 0] []
  refine r_aload_n hV dX11_init_0 rfl rfl ?_
  refine r_objinit hV dX11_init_1 oi_X11_1 (by decide) (Nat.le_of_ble_eq_true rfl) ?_
  refine r_aload_n hV dX11_init_4 rfl rfl ?_
  refine r_new hV dX11_init_5 nw_X11_7 (by first | rfl | assumption) (by first | decide | omega) ?_
  refine r_dup hV dX11_init_8 rfl ?_
  refine r_in0 hV dX11_init_9 mi_X11_9 (i_tx _ _ _) (by decide) (by omega) (Nat.le_of_ble_eq_true rfl) (fun v1 I1 J1 P1 hq => ?_)
  obtain ⟨⟨rfl, x_, y_, c_⟩, d1⟩ := hq
  show V 3 I1 J1 P1 _ _ _
  have i1 : ∀ q, q < 1 → I1 q = I q := fun q h => (x_ q (by omega)).trans (zu_n _ _ (by omega))
  have z1 : ∀ q, 1 ≤ q → q < 3 → I1 q = fun _ => 0 := fun q h1 h2 => by
    rcases (show q = 1 ∨ 1 < q by omega) with rfl | h
    · rw [x_ _ (by omega), zu_s]
    · exact y_ q h h2
  have c1 : ∀ q, q < 1 → P1 q = P q := fun q h => (c_ q h).trans (zu_n _ _ (by omega))
  clear x_ y_ c_
  refine r_putR hV dX11_init_12 fl_X11_10 pf_X11_10 (by first | decide | omega) (by first | rfl | assumption) ?_
  generalize hQ1 : zu P1 0 (zu (P1 0) 0 (some 1)) = Q1
  have t1 : ∀ q, q ≠ 0 → Q1 q = P1 q := fun q h => by rw [← hQ1, zu_n _ _ h]
  have w1 : ∀ q, q ≠ 0 → q < 1 → Q1 q = P q := fun q h1 h2 => (t1 q h1).trans (c1 q h2)
  have v1 : ∀ j, j ≠ 0 → Q1 0 j = P 0 j := fun j h => by rw [← hQ1, zu_s, zu_n _ _ h, c1 0 (by omega)]
  have s1 : Q1 0 0 = some 1 := by rw [← hQ1, zu_s, zu_s]
  clear hQ1
  refine r_aload_n hV dX11_init_15 rfl rfl ?_
  refine r_new hV dX11_init_16 nw_X11_16 (by first | rfl | assumption) (by first | decide | omega) ?_
  refine r_dup hV dX11_init_19 rfl ?_
  refine r_in0 hV dX11_init_20 mi_X11_18 (i_st _ _ _ 3 rfl rfl) (by decide) (by omega) (Nat.le_of_ble_eq_true rfl) (fun v2 I2 J2 P2 hq => ?_)
  obtain ⟨⟨rfl, x_, y_, c_⟩, d2⟩ := hq
  show V 5 I2 J2 P2 _ _ _
  have i2 : ∀ q, q < 3 → I2 q = I1 q := fun q h => (x_ q (by omega)).trans (zu_n _ _ (by omega))
  have z2 : ∀ q, 3 ≤ q → q < 5 → I2 q = fun _ => 0 := fun q h1 h2 => by
    rcases (show q = 3 ∨ 3 < q by omega) with rfl | h
    · rw [x_ _ (by omega), zu_s]
    · exact y_ q h h2
  have c2 : ∀ q, q < 3 → P2 q = Q1 q := fun q h => (c_ q h).trans (zu_n _ _ (by omega))
  clear x_ y_ c_
  refine r_putR hV dX11_init_23 fl_X11_19 pf_X11_19 (by first | decide | omega) (by first | rfl | assumption) ?_
  generalize hQ2 : zu P2 0 (zu (P2 0) 1 (some 3)) = Q2
  have t2 : ∀ q, q ≠ 0 → Q2 q = P2 q := fun q h => by rw [← hQ2, zu_n _ _ h]
  have w2 : ∀ q, q ≠ 0 → q < 3 → Q2 q = Q1 q := fun q h1 h2 => (t2 q h1).trans (c2 q h2)
  have v2 : ∀ j, j ≠ 1 → Q2 0 j = Q1 0 j := fun j h => by rw [← hQ2, zu_s, zu_n _ _ h, c2 0 (by omega)]
  have s2 : Q2 0 1 = some 3 := by rw [← hQ2, zu_s, zu_s]
  clear hQ2
  refine r_aload_n hV dX11_init_26 rfl rfl ?_
  refine r_new hV dX11_init_27 nw_X11_23 (by first | rfl | assumption) (by first | decide | omega) ?_
  refine r_dup hV dX11_init_30 rfl ?_
  refine r_in0 hV dX11_init_31 mi_X11_25 (i_ac _ _ _) (by decide) (by omega) (Nat.le_of_ble_eq_true rfl) (fun v3 I3 J3 P3 hq => ?_)
  obtain ⟨⟨rfl, x_, y_, c_⟩, d3⟩ := hq
  show V 39 I3 J3 P3 _ _ _
  have i3 : ∀ q, q < 5 → I3 q = I2 q := fun q h => (x_ q (by omega)).trans (zu_n _ _ (by omega))
  have z3 : ∀ q, 5 ≤ q → q < 39 → I3 q = fun _ => 0 := fun q h1 h2 => by
    rcases (show q = 5 ∨ 5 < q by omega) with rfl | h
    · rw [x_ _ (by omega), zu_s]
    · exact y_ q h h2
  have c3 : ∀ q, q < 5 → P3 q = Q2 q := fun q h => (c_ q h).trans (zu_n _ _ (by omega))
  clear x_ y_ c_
  refine r_putR hV dX11_init_34 fl_X11_26 pf_X11_26 (by first | decide | omega) (by first | rfl | assumption) ?_
  generalize hQ3 : zu P3 0 (zu (P3 0) 2 (some 5)) = Q3
  have t3 : ∀ q, q ≠ 0 → Q3 q = P3 q := fun q h => by rw [← hQ3, zu_n _ _ h]
  have w3 : ∀ q, q ≠ 0 → q < 5 → Q3 q = Q2 q := fun q h1 h2 => (t3 q h1).trans (c3 q h2)
  have v3 : ∀ j, j ≠ 2 → Q3 0 j = Q2 0 j := fun j h => by rw [← hQ3, zu_s, zu_n _ _ h, c3 0 (by omega)]
  have s3 : Q3 0 2 = some 5 := by rw [← hQ3, zu_s, zu_s]
  clear hQ3
  refine r_aload_n hV dX11_init_37 rfl rfl ?_
  refine r_new hV dX11_init_38 nw_X11_30 (by first | rfl | assumption) (by first | decide | omega) ?_
  refine r_dup hV dX11_init_41 rfl ?_
  refine r_in0 hV dX11_init_42 mi_X11_32 (i_sl _ _ _) (by decide) (by omega) (Nat.le_of_ble_eq_true rfl) (fun v4 I4 J4 P4 hq => ?_)
  obtain ⟨⟨rfl, x_, y_, c_⟩, d4⟩ := hq
  show V 46 I4 J4 P4 _ _ _
  have i4 : ∀ q, q < 39 → I4 q = I3 q := fun q h => (x_ q (by omega)).trans (zu_n _ _ (by omega))
  have z4 : ∀ q, 39 ≤ q → q < 46 → I4 q = fun _ => 0 := fun q h1 h2 => by
    rcases (show q = 39 ∨ 39 < q by omega) with rfl | h
    · rw [x_ _ (by omega), zu_s]
    · exact y_ q h h2
  have c4 : ∀ q, q < 39 → P4 q = Q3 q := fun q h => (c_ q h).trans (zu_n _ _ (by omega))
  clear x_ y_ c_
  refine r_putR hV dX11_init_45 fl_X11_33 pf_X11_33 (by first | decide | omega) (by first | rfl | assumption) ?_
  generalize hQ4 : zu P4 0 (zu (P4 0) 3 (some 39)) = Q4
  have t4 : ∀ q, q ≠ 0 → Q4 q = P4 q := fun q h => by rw [← hQ4, zu_n _ _ h]
  have w4 : ∀ q, q ≠ 0 → q < 39 → Q4 q = Q3 q := fun q h1 h2 => (t4 q h1).trans (c4 q h2)
  have v4 : ∀ j, j ≠ 3 → Q4 0 j = Q3 0 j := fun j h => by rw [← hQ4, zu_s, zu_n _ _ h, c4 0 (by omega)]
  have s4 : Q4 0 3 = some 39 := by rw [← hQ4, zu_s, zu_s]
  clear hQ4
  refine r_aload_n hV dX11_init_48 rfl rfl ?_
  refine r_new hV dX11_init_49 nw_X11_37 (by first | rfl | assumption) (by first | decide | omega) ?_
  refine r_dup hV dX11_init_52 rfl ?_
  refine r_in0 hV dX11_init_53 mi_X11_39 (i_tr _ _ _ 46 rfl rfl rfl) (by decide) (by omega) (Nat.le_of_ble_eq_true rfl) (fun v5 I5 J5 P5 hq => ?_)
  obtain ⟨⟨rfl, x_, y_, c_⟩, d5⟩ := hq
  show V 49 I5 J5 P5 _ _ _
  have i5 : ∀ q, q < 46 → I5 q = I4 q := fun q h => (x_ q (by omega)).trans (zu_n _ _ (by omega))
  have z5 : ∀ q, 46 ≤ q → q < 49 → I5 q = fun _ => 0 := fun q h1 h2 => by
    rcases (show q = 46 ∨ 46 < q by omega) with rfl | h
    · rw [x_ _ (by omega), zu_s]
    · exact y_ q h h2
  have c5 : ∀ q, q < 46 → P5 q = Q4 q := fun q h => (c_ q h).trans (zu_n _ _ (by omega))
  clear x_ y_ c_
  refine r_putR hV dX11_init_56 fl_X11_40 pf_X11_40 (by first | decide | omega) (by first | rfl | assumption) ?_
  generalize hQ5 : zu P5 0 (zu (P5 0) 4 (some 46)) = Q5
  have t5 : ∀ q, q ≠ 0 → Q5 q = P5 q := fun q h => by rw [← hQ5, zu_n _ _ h]
  have w5 : ∀ q, q ≠ 0 → q < 46 → Q5 q = Q4 q := fun q h1 h2 => (t5 q h1).trans (c5 q h2)
  have v5 : ∀ j, j ≠ 4 → Q5 0 j = Q4 0 j := fun j h => by rw [← hQ5, zu_s, zu_n _ _ h, c5 0 (by omega)]
  have s5 : Q5 0 4 = some 46 := by rw [← hQ5, zu_s, zu_s]
  clear hQ5
  refine r_aload_n hV dX11_init_59 rfl rfl ?_
  refine r_new hV dX11_init_60 nw_X11_44 (by first | rfl | assumption) (by first | decide | omega) ?_
  refine r_dup hV dX11_init_63 rfl ?_
  refine r_in0 hV dX11_init_64 mi_X11_46 (i_pl _ _ _) (by decide) (by omega) (Nat.le_of_ble_eq_true rfl) (fun v6 I6 J6 P6 hq => ?_)
  obtain ⟨⟨rfl, x_, y_, c_⟩, d6⟩ := hq
  show V 58 I6 J6 P6 _ _ _
  have i6 : ∀ q, q < 49 → I6 q = I5 q := fun q h => (x_ q (by omega)).trans (zu_n _ _ (by omega))
  have z6 : ∀ q, 49 ≤ q → q < 58 → I6 q = fun _ => 0 := fun q h1 h2 => by
    rcases (show q = 49 ∨ 49 < q by omega) with rfl | h
    · rw [x_ _ (by omega), zu_s]
    · exact y_ q h h2
  have c6 : ∀ q, q < 49 → P6 q = Q5 q := fun q h => (c_ q h).trans (zu_n _ _ (by omega))
  clear x_ y_ c_
  refine r_putR hV dX11_init_67 fl_X11_47 pf_X11_47 (by first | decide | omega) (by first | rfl | assumption) ?_
  generalize hQ6 : zu P6 0 (zu (P6 0) 5 (some 49)) = Q6
  have t6 : ∀ q, q ≠ 0 → Q6 q = P6 q := fun q h => by rw [← hQ6, zu_n _ _ h]
  have w6 : ∀ q, q ≠ 0 → q < 49 → Q6 q = Q5 q := fun q h1 h2 => (t6 q h1).trans (c6 q h2)
  have v6 : ∀ j, j ≠ 5 → Q6 0 j = Q5 0 j := fun j h => by rw [← hQ6, zu_s, zu_n _ _ h, c6 0 (by omega)]
  have s6 : Q6 0 5 = some 49 := by rw [← hQ6, zu_s, zu_s]
  clear hQ6
  refine r_aload_n hV dX11_init_70 rfl rfl ?_
  refine r_new hV dX11_init_71 nw_X11_51 (by first | rfl | assumption) (by first | decide | omega) ?_
  refine r_dup hV dX11_init_74 rfl ?_
  refine r_in0 hV dX11_init_75 mi_X11_53 (i_tn _ _ _) (by decide) (by omega) (Nat.le_of_ble_eq_true rfl) (fun v7 I7 J7 P7 hq => ?_)
  obtain ⟨rfl, x_, y_, c_⟩ := hq
  show V 59 I7 J7 P7 _ _ _
  have i7 : ∀ q, q < 58 → I7 q = I6 q := fun q h => (x_ q (by omega)).trans (zu_n _ _ (by omega))
  have z7 : ∀ q, 58 ≤ q → q < 59 → I7 q = fun _ => 0 := fun q h1 h2 => by
    rcases (show q = 58 ∨ 58 < q by omega) with rfl | h
    · rw [x_ _ (by omega), zu_s]
    · exact y_ q h h2
  have c7 : ∀ q, q < 58 → P7 q = Q6 q := fun q h => (c_ q h).trans (zu_n _ _ (by omega))
  clear x_ y_ c_
  refine r_putR hV dX11_init_78 fl_X11_54 pf_X11_54 (by first | decide | omega) (by first | rfl | assumption) ?_
  generalize hQ7 : zu P7 0 (zu (P7 0) 6 (some 58)) = Q7
  have t7 : ∀ q, q ≠ 0 → Q7 q = P7 q := fun q h => by rw [← hQ7, zu_n _ _ h]
  have w7 : ∀ q, q ≠ 0 → q < 58 → Q7 q = Q6 q := fun q h1 h2 => (t7 q h1).trans (c7 q h2)
  have v7 : ∀ j, j ≠ 6 → Q7 0 j = Q6 0 j := fun j h => by rw [← hQ7, zu_s, zu_n _ _ h, c7 0 (by omega)]
  have s7 : Q7 0 6 = some 58 := by rw [← hQ7, zu_s, zu_s]
  clear hQ7
  refine r_aload_n hV dX11_init_81 rfl rfl ?_
  refine r_new hV dX11_init_82 nw_X11_58 (by first | rfl | assumption) (by first | decide | omega) ?_
  refine r_dup hV dX11_init_85 rfl ?_
  refine r_in0 hV dX11_init_86 mi_X11_60 (i_rw _ _ _) (by decide) (by omega) (Nat.le_of_ble_eq_true rfl) (fun v8 I8 J8 P8 hq => ?_)
  obtain ⟨⟨rfl, x_, y_, c_⟩, d8⟩ := hq
  show V 62 I8 J8 P8 _ _ _
  have i8 : ∀ q, q < 59 → I8 q = I7 q := fun q h => (x_ q (by omega)).trans (zu_n _ _ (by omega))
  have z8 : ∀ q, 59 ≤ q → q < 62 → I8 q = fun _ => 0 := fun q h1 h2 => by
    rcases (show q = 59 ∨ 59 < q by omega) with rfl | h
    · rw [x_ _ (by omega), zu_s]
    · exact y_ q h h2
  have c8 : ∀ q, q < 59 → P8 q = Q7 q := fun q h => (c_ q h).trans (zu_n _ _ (by omega))
  clear x_ y_ c_
  refine r_putR hV dX11_init_89 fl_X11_61 pf_X11_61 (by first | decide | omega) (by first | rfl | assumption) ?_
  generalize hQ8 : zu P8 0 (zu (P8 0) 7 (some 59)) = Q8
  have t8 : ∀ q, q ≠ 0 → Q8 q = P8 q := fun q h => by rw [← hQ8, zu_n _ _ h]
  have w8 : ∀ q, q ≠ 0 → q < 59 → Q8 q = Q7 q := fun q h1 h2 => (t8 q h1).trans (c8 q h2)
  have v8 : ∀ j, j ≠ 7 → Q8 0 j = Q7 0 j := fun j h => by rw [← hQ8, zu_s, zu_n _ _ h, c8 0 (by omega)]
  have s8 : Q8 0 7 = some 59 := by rw [← hQ8, zu_s, zu_s]
  clear hQ8
  refine r_aload_n hV dX11_init_92 rfl rfl ?_
  refine r_new hV dX11_init_93 nw_X11_65 (by first | rfl | assumption) (by first | decide | omega) ?_
  refine r_dup hV dX11_init_96 rfl ?_
  refine r_in0 hV dX11_init_97 mi_X11_67 (i_gs _ _ _) (by decide) (by omega) (Nat.le_of_ble_eq_true rfl) (fun v9 I9 J9 P9 hq => ?_)
  obtain ⟨⟨rfl, x_, y_, c_⟩, d9⟩ := hq
  show V 65 I9 J9 P9 _ _ _
  have i9 : ∀ q, q < 62 → I9 q = I8 q := fun q h => (x_ q (by omega)).trans (zu_n _ _ (by omega))
  have z9 : ∀ q, 62 ≤ q → q < 65 → I9 q = fun _ => 0 := fun q h1 h2 => by
    rcases (show q = 62 ∨ 62 < q by omega) with rfl | h
    · rw [x_ _ (by omega), zu_s]
    · exact y_ q h h2
  have c9 : ∀ q, q < 62 → P9 q = Q8 q := fun q h => (c_ q h).trans (zu_n _ _ (by omega))
  clear x_ y_ c_
  refine r_putR hV dX11_init_100 fl_X11_68 pf_X11_68 (by first | decide | omega) (by first | rfl | assumption) ?_
  generalize hQ9 : zu P9 0 (zu (P9 0) 8 (some 62)) = Q9
  have t9 : ∀ q, q ≠ 0 → Q9 q = P9 q := fun q h => by rw [← hQ9, zu_n _ _ h]
  have w9 : ∀ q, q ≠ 0 → q < 62 → Q9 q = Q8 q := fun q h1 h2 => (t9 q h1).trans (c9 q h2)
  have v9 : ∀ j, j ≠ 8 → Q9 0 j = Q8 0 j := fun j h => by rw [← hQ9, zu_s, zu_n _ _ h, c9 0 (by omega)]
  have s9 : Q9 0 8 = some 62 := by rw [← hQ9, zu_s, zu_s]
  clear hQ9
  refine r_aload_n hV dX11_init_103 rfl rfl ?_
  refine s_bipush hV dX11_init_104 (8) (by decide) ?_
  refine r_newarray hV _ dX11_init_106 ac_int (by first | rfl | assumption) ⟨by decide, rfl, by decide⟩ (by first | decide | omega) ?_
  generalize hI10 : zu I9 65 (fun _ => 0) = I10
  generalize hPP10 : zu Q9 65 (fun _ => none) = P10
  have i10 : ∀ q, q < 65 → I10 q = I9 q := fun q h => by rw [← hI10, zu_n _ _ (by omega)]
  have z10 : ∀ q, 65 ≤ q → q < 66 → I10 q = fun _ => 0 := fun q h1 h2 => by rw [show q = 65 by omega, ← hI10, zu_s]
  have c10 : ∀ q, q < 65 → P10 q = Q9 q := fun q h => by rw [← hPP10, zu_n _ _ (by omega)]
  clear hI10 hPP10
  refine r_putR hV dX11_init_108 fl_X11_72 pf_X11_72 (by first | decide | omega) (by first | rfl | assumption) ?_
  generalize hQ10 : zu P10 0 (zu (P10 0) 9 (some 65)) = Q10
  have t10 : ∀ q, q ≠ 0 → Q10 q = P10 q := fun q h => by rw [← hQ10, zu_n _ _ h]
  have w10 : ∀ q, q ≠ 0 → q < 65 → Q10 q = Q9 q := fun q h1 h2 => (t10 q h1).trans (c10 q h2)
  have v10 : ∀ j, j ≠ 9 → Q10 0 j = Q9 0 j := fun j h => by rw [← hQ10, zu_s, zu_n _ _ h, c10 0 (by omega)]
  have s10 : Q10 0 9 = some 65 := by rw [← hQ10, zu_s, zu_s]
  clear hQ10
  refine r_aload_n hV dX11_init_111 rfl rfl ?_
  refine r_new hV dX11_init_112 nw_X11_76 (by first | rfl | assumption) (by first | decide | omega) ?_
  refine r_dup hV dX11_init_115 rfl ?_
  refine r_in0 hV dX11_init_116 mi_X11_78 (i_day _ _ _ 66 rfl rfl rfl rfl rfl rfl) (by decide) (by omega) (Nat.le_of_ble_eq_true rfl) (fun v11 I11 J11 P11 hq => ?_)
  obtain ⟨rfl, x_, c_, d11, g11, l11, la11, lb11, lc11⟩ := hq
  show V 72 I11 J11 P11 _ _ _
  have i11 : ∀ q, q < 66 → I11 q = I10 q := fun q h => (x_ q h).trans (zu_n _ _ (by omega))
  have c11 : ∀ q, q < 66 → P11 q = Q10 q := fun q h => (c_ q h).trans (zu_n _ _ (by omega))
  clear x_ c_
  refine r_putR hV dX11_init_119 fl_X11_79 (pf_X11_79 _) (by first | decide | omega) (by first | rfl | assumption) ?_
  generalize hQ11 : zu P11 0 (zu (P11 0) 10 (some 66)) = Q11
  have t11 : ∀ q, q ≠ 0 → Q11 q = P11 q := fun q h => by rw [← hQ11, zu_n _ _ h]
  have w11 : ∀ q, q ≠ 0 → q < 66 → Q11 q = Q10 q := fun q h1 h2 => (t11 q h1).trans (c11 q h2)
  have v11 : ∀ j, j ≠ 10 → Q11 0 j = Q10 0 j := fun j h => by rw [← hQ11, zu_s, zu_n _ _ h, c11 0 (by omega)]
  have s11 : Q11 0 10 = some 66 := by rw [← hQ11, zu_s, zu_s]
  clear hQ11
  refine r_aload_n hV dX11_init_122 rfl rfl ?_
  refine r_new hV dX11_init_123 nw_X11_76 (by first | rfl | assumption) (by first | decide | omega) ?_
  refine r_dup hV dX11_init_126 rfl ?_
  refine r_in0 hV dX11_init_127 mi_X11_78 (i_day _ _ _ 72 rfl rfl rfl rfl rfl rfl) (by decide) (by omega) (Nat.le_of_ble_eq_true rfl) (fun v12 I12 J12 P12 hq => ?_)
  obtain ⟨rfl, x_, c_, d12, g12, l12, la12, lb12, lc12⟩ := hq
  show V 78 I12 J12 P12 _ _ _
  have i12 : ∀ q, q < 72 → I12 q = I11 q := fun q h => (x_ q h).trans (zu_n _ _ (by omega))
  have c12 : ∀ q, q < 72 → P12 q = Q11 q := fun q h => (c_ q h).trans (zu_n _ _ (by omega))
  clear x_ c_
  refine r_putR hV dX11_init_130 fl_X11_83 (pf_X11_83 _) (by first | decide | omega) (by first | rfl | assumption) ?_
  generalize hQ12 : zu P12 0 (zu (P12 0) 11 (some 72)) = Q12
  have t12 : ∀ q, q ≠ 0 → Q12 q = P12 q := fun q h => by rw [← hQ12, zu_n _ _ h]
  have w12 : ∀ q, q ≠ 0 → q < 72 → Q12 q = Q11 q := fun q h1 h2 => (t12 q h1).trans (c12 q h2)
  have v12 : ∀ j, j ≠ 11 → Q12 0 j = Q11 0 j := fun j h => by rw [← hQ12, zu_s, zu_n _ _ h, c12 0 (by omega)]
  have s12 : Q12 0 11 = some 72 := by rw [← hQ12, zu_s, zu_s]
  clear hQ12
  refine r_vret hV dX11_init_133 rfl rfl ?_
  have F11 : ∀ q, q ≠ 0 → q < 72 → Q12 q = Q11 q := w12
  have F0_11 : ∀ j, j < 11 → Q12 0 j = Q11 0 j := fun j h => v12 j (by omega)
  have H11 : ∀ q, q < 72 → I12 q = I11 q := i12
  have F10 : ∀ q, q ≠ 0 → q < 66 → Q12 q = Q10 q := fun q h1 h2 => (F11 q h1 (by omega)).trans (w11 q h1 (by omega))
  have F0_10 : ∀ j, j < 10 → Q12 0 j = Q10 0 j := fun j h => (F0_11 j (by omega)).trans (v11 j (by omega))
  have H10 : ∀ q, q < 66 → I12 q = I10 q := fun q h => (H11 q (by omega)).trans (i11 q (by omega))
  have F9 : ∀ q, q ≠ 0 → q < 65 → Q12 q = Q9 q := fun q h1 h2 => (F10 q h1 (by omega)).trans (w10 q h1 (by omega))
  have F0_9 : ∀ j, j < 9 → Q12 0 j = Q9 0 j := fun j h => (F0_10 j (by omega)).trans (v10 j (by omega))
  have H9 : ∀ q, q < 65 → I12 q = I9 q := fun q h => (H10 q (by omega)).trans (i10 q (by omega))
  have F8 : ∀ q, q ≠ 0 → q < 62 → Q12 q = Q8 q := fun q h1 h2 => (F9 q h1 (by omega)).trans (w9 q h1 (by omega))
  have F0_8 : ∀ j, j < 8 → Q12 0 j = Q8 0 j := fun j h => (F0_9 j (by omega)).trans (v9 j (by omega))
  have H8 : ∀ q, q < 62 → I12 q = I8 q := fun q h => (H9 q (by omega)).trans (i9 q (by omega))
  have F7 : ∀ q, q ≠ 0 → q < 59 → Q12 q = Q7 q := fun q h1 h2 => (F8 q h1 (by omega)).trans (w8 q h1 (by omega))
  have F0_7 : ∀ j, j < 7 → Q12 0 j = Q7 0 j := fun j h => (F0_8 j (by omega)).trans (v8 j (by omega))
  have H7 : ∀ q, q < 59 → I12 q = I7 q := fun q h => (H8 q (by omega)).trans (i8 q (by omega))
  have F6 : ∀ q, q ≠ 0 → q < 58 → Q12 q = Q6 q := fun q h1 h2 => (F7 q h1 (by omega)).trans (w7 q h1 (by omega))
  have F0_6 : ∀ j, j < 6 → Q12 0 j = Q6 0 j := fun j h => (F0_7 j (by omega)).trans (v7 j (by omega))
  have H6 : ∀ q, q < 58 → I12 q = I6 q := fun q h => (H7 q (by omega)).trans (i7 q (by omega))
  have F5 : ∀ q, q ≠ 0 → q < 49 → Q12 q = Q5 q := fun q h1 h2 => (F6 q h1 (by omega)).trans (w6 q h1 (by omega))
  have F0_5 : ∀ j, j < 5 → Q12 0 j = Q5 0 j := fun j h => (F0_6 j (by omega)).trans (v6 j (by omega))
  have H5 : ∀ q, q < 49 → I12 q = I5 q := fun q h => (H6 q (by omega)).trans (i6 q (by omega))
  have F4 : ∀ q, q ≠ 0 → q < 46 → Q12 q = Q4 q := fun q h1 h2 => (F5 q h1 (by omega)).trans (w5 q h1 (by omega))
  have F0_4 : ∀ j, j < 4 → Q12 0 j = Q4 0 j := fun j h => (F0_5 j (by omega)).trans (v5 j (by omega))
  have H4 : ∀ q, q < 46 → I12 q = I4 q := fun q h => (H5 q (by omega)).trans (i5 q (by omega))
  have F3 : ∀ q, q ≠ 0 → q < 39 → Q12 q = Q3 q := fun q h1 h2 => (F4 q h1 (by omega)).trans (w4 q h1 (by omega))
  have F0_3 : ∀ j, j < 3 → Q12 0 j = Q3 0 j := fun j h => (F0_4 j (by omega)).trans (v4 j (by omega))
  have H3 : ∀ q, q < 39 → I12 q = I3 q := fun q h => (H4 q (by omega)).trans (i4 q (by omega))
  have F2 : ∀ q, q ≠ 0 → q < 5 → Q12 q = Q2 q := fun q h1 h2 => (F3 q h1 (by omega)).trans (w3 q h1 (by omega))
  have F0_2 : ∀ j, j < 2 → Q12 0 j = Q2 0 j := fun j h => (F0_3 j (by omega)).trans (v3 j (by omega))
  have H2 : ∀ q, q < 5 → I12 q = I2 q := fun q h => (H3 q (by omega)).trans (i3 q (by omega))
  have F1 : ∀ q, q ≠ 0 → q < 3 → Q12 q = Q1 q := fun q h1 h2 => (F2 q h1 (by omega)).trans (w2 q h1 (by omega))
  have F0_1 : ∀ j, j < 1 → Q12 0 j = Q1 0 j := fun j h => (F0_2 j (by omega)).trans (v2 j (by omega))
  have H1 : ∀ q, q < 3 → I12 q = I1 q := fun q h => (H2 q (by omega)).trans (i2 q (by omega))
  have G1 : ∀ q, q ≠ 0 → q < 3 → Q12 q = P1 q := fun q h1 h2 => (F1 q h1 h2).trans (t1 q h1)
  have G2 : ∀ q, q ≠ 0 → q < 5 → Q12 q = P2 q := fun q h1 h2 => (F2 q h1 h2).trans (t2 q h1)
  have G3 : ∀ q, q ≠ 0 → q < 39 → Q12 q = P3 q := fun q h1 h2 => (F3 q h1 h2).trans (t3 q h1)
  have G4 : ∀ q, q ≠ 0 → q < 46 → Q12 q = P4 q := fun q h1 h2 => (F4 q h1 h2).trans (t4 q h1)
  have G5 : ∀ q, q ≠ 0 → q < 49 → Q12 q = P5 q := fun q h1 h2 => (F5 q h1 h2).trans (t5 q h1)
  have G6 : ∀ q, q ≠ 0 → q < 58 → Q12 q = P6 q := fun q h1 h2 => (F6 q h1 h2).trans (t6 q h1)
  have G7 : ∀ q, q ≠ 0 → q < 59 → Q12 q = P7 q := fun q h1 h2 => (F7 q h1 h2).trans (t7 q h1)
  have G8 : ∀ q, q ≠ 0 → q < 62 → Q12 q = P8 q := fun q h1 h2 => (F8 q h1 h2).trans (t8 q h1)
  have G9 : ∀ q, q ≠ 0 → q < 65 → Q12 q = P9 q := fun q h1 h2 => (F9 q h1 h2).trans (t9 q h1)
  have G10 : ∀ q, q ≠ 0 → q < 66 → Q12 q = P10 q := fun q h1 h2 => (F10 q h1 h2).trans (t10 q h1)
  have G11 : ∀ q, q ≠ 0 → q < 72 → Q12 q = P11 q := fun q h1 h2 => (F11 q h1 h2).trans (t11 q h1)
  have G12 : ∀ q, q ≠ 0 → Q12 q = P12 q := t12
  refine ⟨rfl, ⟨(F0_1 0 (by omega)).trans s1, (F0_2 1 (by omega)).trans s2, (F0_3 2 (by omega)).trans s3, (F0_4 3 (by omega)).trans s4, (F0_5 4 (by omega)).trans s5, (F0_6 5 (by omega)).trans s6, (F0_7 6 (by omega)).trans s7, (F0_8 7 (by omega)).trans s8, (F0_9 8 (by omega)).trans s9, (F0_10 9 (by omega)).trans s10, (congrFun (G1 1 (by omega) (by omega)) 0).trans d1, ⟨by omega, rfl, rfl, (congrFun (G2 3 (by omega) (by omega)) 6).trans d2⟩, zAc_fr d3 (fun q a b => G3 q (by omega) (by omega)), zSl_fr d4 (fun q a b => G4 q (by omega) (by omega)), ⟨by omega, (congrFun (G5 46 (by omega) (by omega)) 1).trans d5.1, (congrFun (G5 46 (by omega) (by omega)) 2).trans d5.2⟩, ⟨by omega, (congrFun (G6 50 (by omega) (by omega)) 1).trans d6.2.1.1, (congrFun (G6 50 (by omega) (by omega)) 2).trans d6.2.1.2⟩, ⟨by omega, (congrFun (G6 53 (by omega) (by omega)) 1).trans d6.2.2.1, (congrFun (G6 53 (by omega) (by omega)) 2).trans d6.2.2.2⟩, ?_, ⟨(congrFun (G9 62 (by omega) (by omega)) 0).trans d9.1, (congrFun (G9 62 (by omega) (by omega)) 1).trans d9.2⟩, ⟨by omega, (congrFun (G11 66 (by omega) (by omega)) 4).trans d11.1, (congrFun (G11 66 (by omega) (by omega)) 5).trans d11.2.1, (congrFun (G11 66 (by omega) (by omega)) 6).trans d11.2.2.1, (congrFun (G11 66 (by omega) (by omega)) 7).trans d11.2.2.2.1, (congrFun (G11 66 (by omega) (by omega)) 8).trans d11.2.2.2.2⟩, ⟨by omega, (congrFun (G12 72 (by omega)) 4).trans d12.1, (congrFun (G12 72 (by omega)) 5).trans d12.2.1, (congrFun (G12 72 (by omega)) 6).trans d12.2.2.1, (congrFun (G12 72 (by omega)) 7).trans d12.2.2.2.1, (congrFun (G12 72 (by omega)) 8).trans d12.2.2.2.2⟩⟩, (F0_11 10 (by omega)).trans s11, s12, ⟨by omega, by omega, by omega, (congrFun (G8 59 (by omega) (by omega)) 0).trans d8.1, (congrFun (G8 59 (by omega) (by omega)) 1).trans d8.2⟩, fun q h1 h2 => ?_, ⟨(congrFun (H11 66 (by omega)) 0).trans g11.1, (congrFun (H11 66 (by omega)) 1).trans g11.2.1, (congrFun (H11 66 (by omega)) 2).trans g11.2.2.1, (congrFun (H11 66 (by omega)) 3).trans g11.2.2.2⟩, z_ar_fr l11 (H11 68 (by omega)), ⟨(H11 69 (by omega)).trans la11, (H11 70 (by omega)).trans lb11, (H11 71 (by omega)).trans lc11⟩, la12, lb12, lc12⟩
  · have e := G6 49 (by omega) (by omega)
    unfold zPn
    rw [e]
    exact d6.1
  · rcases (show (1 ≤ q ∧ q < 3) ∨ (3 ≤ q ∧ q < 5) ∨ (5 ≤ q ∧ q < 39) ∨ (39 ≤ q ∧ q < 46) ∨ (46 ≤ q ∧ q < 49) ∨ (49 ≤ q ∧ q < 58) ∨ (58 ≤ q ∧ q < 59) ∨ (59 ≤ q ∧ q < 62) ∨ (62 ≤ q ∧ q < 65) ∨ (65 ≤ q ∧ q < 66) by omega) with h | h | h | h | h | h | h | h | h | h
    · exact (H1 q (by omega)).trans (z1 q h.1 h.2)
    · exact (H2 q (by omega)).trans (z2 q h.1 h.2)
    · exact (H3 q (by omega)).trans (z3 q h.1 h.2)
    · exact (H4 q (by omega)).trans (z4 q h.1 h.2)
    · exact (H5 q (by omega)).trans (z5 q h.1 h.2)
    · exact (H6 q (by omega)).trans (z6 q h.1 h.2)
    · exact (H7 q (by omega)).trans (z7 q h.1 h.2)
    · exact (H8 q (by omega)).trans (z8 q h.1 h.2)
    · exact (H9 q (by omega)).trans (z9 q h.1 h.2)
    · exact (H10 q (by omega)).trans (z10 q h.1 h.2)

def q_i12 (I : zI) (P : zP) (v : Option Value) (I1 : zI) (J1 : zJ) (P1 : zP) : Prop := v = none ∧ mK P1 ∧ (∀ q, q < 78 → I1 q = I q ∧ P1 q = P q) ∧ I1 78 4 = iI 2 ∧ (∀ k, k ≠ 4 → I1 78 k = I 78 k) ∧ z_ar I1 80 36 (mRf (fun _ => 0)) ∧ ∀ q, 78 < q → q < 108 → q ≠ 80 → I1 q = fun _ => 0
set_option maxRecDepth 20000 in
theorem i_mod (I : zI) (J : zJ) (P : zP)  : z_Sp 3 yX12_init cX12_init 2 none 79 108 I J P [.ref 78] (q_i12 I P) := by
  refine z_met true (by decide +kernel) (fun _ => rfl) (Nat.le_of_ble_eq_true rfl) (by first | decide | omega) (fun V hV => ?_)
  show V 79 I J P 0 [.ref 78, .null] []
  refine r_aload_n hV dX12_init_0 rfl rfl ?_
  refine r_objinit hV dX12_init_1 oi_X12_1 (by decide) (Nat.le_of_ble_eq_true rfl) ?_
  refine r_aload_n hV dX12_init_4 rfl rfl ?_
  refine s_bipush hV dX12_init_5 (80) (by decide) ?_
  refine r_newarray hV _ dX12_init_7 ac_int (by first | rfl | assumption) ⟨by decide, rfl, by decide⟩ (by first | decide | omega) ?_
  refine r_putR hV dX12_init_9 fl_X12_7 pf_X12_7 (by first | decide | omega) (by first | rfl | assumption) ?_
  generalize hI1 : zu I 79 (fun _ => 0) = I1
  generalize hP1 : zu (zu P 79 (fun _ => none)) 78 (zu ((zu P 79 (fun _ => none)) 78) 1 (some 79)) = P1
  have z1 : ∀ q, 78 < q → q < 80 → I1 q = fun _ => 0 := fun q h1 h2 => by
    rcases (show q = 79 ∨ q < 79 by omega) with rfl | h
    · rw [← hI1, zu_s]
    · omega
  have g1 : ∀ q, q < 78 → I1 q = I q ∧ P1 q = P q := fun q h => ⟨by rw [← hI1, zu_n _ _ (by omega)], by rw [← hP1, zu_n _ _ (by omega), zu_n _ _ (by omega)]⟩
  have s1 : I1 78 = I 78 := by rw [← hI1, zu_n _ _ (by omega)]
  have p1_1 : P1 78 1 = some 79 := by rw [← hP1, zu_s, zu_s]
  clear hI1 hP1
  refine r_aload_n hV dX12_init_12 rfl rfl ?_
  refine s_iconst hV dX12_init_13 (2) (by decide) ?_
  refine r_putI hV dX12_init_14 fl_X12_13 (pf_X12_13 _) (z_okI_int rfl _) (by first | decide | omega) (by first | rfl | assumption) ?_
  generalize hI1a : zu I1 78 (zu (I1 78) 4 (iI 2)) = I1a
  have z1a : ∀ q, 78 < q → q < 80 → I1a q = fun _ => 0 := fun q h1 h2 => by rw [← hI1a, zu_n _ _ (by omega)]; exact z1 q h1 h2
  have g1a : ∀ q, q < 78 → I1a q = I q ∧ P1 q = P q := fun q h => ⟨by rw [← hI1a, zu_n _ _ (by omega)]; exact (g1 q h).1, (g1 q h).2⟩
  have q4 : I1a 78 4 = iI 2 := by rw [← hI1a, zu_s, zu_s]
  have qk : ∀ k, k ≠ 4 → I1a 78 k = I 78 k := fun k h => by rw [← hI1a, zu_s, zu_n _ _ h, s1]
  clear hI1a
  refine r_aload_n hV dX12_init_17 rfl rfl ?_
  refine s_bipush hV dX12_init_18 (36) (by decide) ?_
  refine r_newarray hV _ dX12_init_20 ac_int (by first | rfl | assumption) ⟨by decide, rfl, by decide⟩ (by first | decide | omega) ?_
  refine r_putR hV dX12_init_22 fl_X12_17 pf_X12_17 (by first | decide | omega) (by first | rfl | assumption) ?_
  generalize hI2 : zu I1a 80 (fun _ => 0) = I2
  generalize hP2 : zu (zu P1 80 (fun _ => none)) 78 (zu ((zu P1 80 (fun _ => none)) 78) 7 (some 80)) = P2
  have z2 : ∀ q, 78 < q → q < 81 → I2 q = fun _ => 0 := fun q h1 h2 => by
    rcases (show q = 80 ∨ q < 80 by omega) with rfl | h
    · rw [← hI2, zu_s]
    · rw [← hI2, zu_n _ _ (by omega)]; exact z1a q h1 h
  have g2 : ∀ q, q < 78 → I2 q = I q ∧ P2 q = P q := fun q h => ⟨by rw [← hI2, zu_n _ _ (by omega)]; exact (g1a q h).1, by rw [← hP2, zu_n _ _ (by omega), zu_n _ _ (by omega)]; exact (g1 q h).2⟩
  have s2 : I2 78 = I1a 78 := by rw [← hI2, zu_n _ _ (by omega)]
  have p2_7 : P2 78 7 = some 80 := by rw [← hP2, zu_s, zu_s]
  have p2_1 : P2 78 1 = some 79 := by rw [← hP2, zu_s, zu_n _ _ (by omega), zu_n _ _ (by omega)]; exact p1_1
  clear hI2 hP2 p1_1
  refine r_aload_n hV dX12_init_25 rfl rfl ?_
  refine s_bipush hV dX12_init_26 (6) (by decide) ?_
  refine r_newarray hV _ dX12_init_28 ac_int (by first | rfl | assumption) ⟨by decide, rfl, by decide⟩ (by first | decide | omega) ?_
  refine r_putR hV dX12_init_30 fl_X12_20 pf_X12_20 (by first | decide | omega) (by first | rfl | assumption) ?_
  generalize hI3 : zu I2 81 (fun _ => 0) = I3
  generalize hP3 : zu (zu P2 81 (fun _ => none)) 78 (zu ((zu P2 81 (fun _ => none)) 78) 9 (some 81)) = P3
  have z3 : ∀ q, 78 < q → q < 82 → I3 q = fun _ => 0 := fun q h1 h2 => by
    rcases (show q = 81 ∨ q < 81 by omega) with rfl | h
    · rw [← hI3, zu_s]
    · rw [← hI3, zu_n _ _ (by omega)]; exact z2 q h1 h
  have g3 : ∀ q, q < 78 → I3 q = I q ∧ P3 q = P q := fun q h => ⟨by rw [← hI3, zu_n _ _ (by omega)]; exact (g2 q h).1, by rw [← hP3, zu_n _ _ (by omega), zu_n _ _ (by omega)]; exact (g2 q h).2⟩
  have s3 : I3 78 = I1a 78 := by rw [← hI3, zu_n _ _ (by omega)]; exact s2
  have p3_9 : P3 78 9 = some 81 := by rw [← hP3, zu_s, zu_s]
  have p3_1 : P3 78 1 = some 79 := by rw [← hP3, zu_s, zu_n _ _ (by omega), zu_n _ _ (by omega)]; exact p2_1
  have p3_7 : P3 78 7 = some 80 := by rw [← hP3, zu_s, zu_n _ _ (by omega), zu_n _ _ (by omega)]; exact p2_7
  clear hI3 hP3 z2 g2 s2 p2_1 p2_7
  refine r_aload_n hV dX12_init_33 rfl rfl ?_
  refine s_bipush hV dX12_init_34 (6) (by decide) ?_
  refine r_newarray hV _ dX12_init_36 ac_int (by first | rfl | assumption) ⟨by decide, rfl, by decide⟩ (by first | decide | omega) ?_
  refine r_putR hV dX12_init_38 fl_X12_23 pf_X12_23 (by first | decide | omega) (by first | rfl | assumption) ?_
  generalize hI4 : zu I3 82 (fun _ => 0) = I4
  generalize hP4 : zu (zu P3 82 (fun _ => none)) 78 (zu ((zu P3 82 (fun _ => none)) 78) 10 (some 82)) = P4
  have z4 : ∀ q, 78 < q → q < 83 → I4 q = fun _ => 0 := fun q h1 h2 => by
    rcases (show q = 82 ∨ q < 82 by omega) with rfl | h
    · rw [← hI4, zu_s]
    · rw [← hI4, zu_n _ _ (by omega)]; exact z3 q h1 h
  have g4 : ∀ q, q < 78 → I4 q = I q ∧ P4 q = P q := fun q h => ⟨by rw [← hI4, zu_n _ _ (by omega)]; exact (g3 q h).1, by rw [← hP4, zu_n _ _ (by omega), zu_n _ _ (by omega)]; exact (g3 q h).2⟩
  have s4 : I4 78 = I1a 78 := by rw [← hI4, zu_n _ _ (by omega)]; exact s3
  have p4_10 : P4 78 10 = some 82 := by rw [← hP4, zu_s, zu_s]
  have p4_1 : P4 78 1 = some 79 := by rw [← hP4, zu_s, zu_n _ _ (by omega), zu_n _ _ (by omega)]; exact p3_1
  have p4_7 : P4 78 7 = some 80 := by rw [← hP4, zu_s, zu_n _ _ (by omega), zu_n _ _ (by omega)]; exact p3_7
  have p4_9 : P4 78 9 = some 81 := by rw [← hP4, zu_s, zu_n _ _ (by omega), zu_n _ _ (by omega)]; exact p3_9
  clear hI4 hP4 z3 g3 s3 p3_1 p3_7 p3_9
  refine r_aload_n hV dX12_init_41 rfl rfl ?_
  refine s_bipush hV dX12_init_42 (6) (by decide) ?_
  refine r_newarray hV _ dX12_init_44 ac_int (by first | rfl | assumption) ⟨by decide, rfl, by decide⟩ (by first | decide | omega) ?_
  refine r_putR hV dX12_init_46 fl_X12_26 pf_X12_26 (by first | decide | omega) (by first | rfl | assumption) ?_
  generalize hI5 : zu I4 83 (fun _ => 0) = I5
  generalize hP5 : zu (zu P4 83 (fun _ => none)) 78 (zu ((zu P4 83 (fun _ => none)) 78) 11 (some 83)) = P5
  have z5 : ∀ q, 78 < q → q < 84 → I5 q = fun _ => 0 := fun q h1 h2 => by
    rcases (show q = 83 ∨ q < 83 by omega) with rfl | h
    · rw [← hI5, zu_s]
    · rw [← hI5, zu_n _ _ (by omega)]; exact z4 q h1 h
  have g5 : ∀ q, q < 78 → I5 q = I q ∧ P5 q = P q := fun q h => ⟨by rw [← hI5, zu_n _ _ (by omega)]; exact (g4 q h).1, by rw [← hP5, zu_n _ _ (by omega), zu_n _ _ (by omega)]; exact (g4 q h).2⟩
  have s5 : I5 78 = I1a 78 := by rw [← hI5, zu_n _ _ (by omega)]; exact s4
  have p5_11 : P5 78 11 = some 83 := by rw [← hP5, zu_s, zu_s]
  have p5_1 : P5 78 1 = some 79 := by rw [← hP5, zu_s, zu_n _ _ (by omega), zu_n _ _ (by omega)]; exact p4_1
  have p5_7 : P5 78 7 = some 80 := by rw [← hP5, zu_s, zu_n _ _ (by omega), zu_n _ _ (by omega)]; exact p4_7
  have p5_9 : P5 78 9 = some 81 := by rw [← hP5, zu_s, zu_n _ _ (by omega), zu_n _ _ (by omega)]; exact p4_9
  have p5_10 : P5 78 10 = some 82 := by rw [← hP5, zu_s, zu_n _ _ (by omega), zu_n _ _ (by omega)]; exact p4_10
  clear hI5 hP5 z4 g4 s4 p4_1 p4_7 p4_9 p4_10
  refine r_aload_n hV dX12_init_49 rfl rfl ?_
  refine s_bipush hV dX12_init_50 (36) (by decide) ?_
  refine r_newarray hV _ dX12_init_52 ac_int (by first | rfl | assumption) ⟨by decide, rfl, by decide⟩ (by first | decide | omega) ?_
  refine r_putR hV dX12_init_54 fl_X12_29 pf_X12_29 (by first | decide | omega) (by first | rfl | assumption) ?_
  generalize hI6 : zu I5 84 (fun _ => 0) = I6
  generalize hP6 : zu (zu P5 84 (fun _ => none)) 78 (zu ((zu P5 84 (fun _ => none)) 78) 16 (some 84)) = P6
  have z6 : ∀ q, 78 < q → q < 85 → I6 q = fun _ => 0 := fun q h1 h2 => by
    rcases (show q = 84 ∨ q < 84 by omega) with rfl | h
    · rw [← hI6, zu_s]
    · rw [← hI6, zu_n _ _ (by omega)]; exact z5 q h1 h
  have g6 : ∀ q, q < 78 → I6 q = I q ∧ P6 q = P q := fun q h => ⟨by rw [← hI6, zu_n _ _ (by omega)]; exact (g5 q h).1, by rw [← hP6, zu_n _ _ (by omega), zu_n _ _ (by omega)]; exact (g5 q h).2⟩
  have s6 : I6 78 = I1a 78 := by rw [← hI6, zu_n _ _ (by omega)]; exact s5
  have p6_16 : P6 78 16 = some 84 := by rw [← hP6, zu_s, zu_s]
  have p6_1 : P6 78 1 = some 79 := by rw [← hP6, zu_s, zu_n _ _ (by omega), zu_n _ _ (by omega)]; exact p5_1
  have p6_7 : P6 78 7 = some 80 := by rw [← hP6, zu_s, zu_n _ _ (by omega), zu_n _ _ (by omega)]; exact p5_7
  have p6_9 : P6 78 9 = some 81 := by rw [← hP6, zu_s, zu_n _ _ (by omega), zu_n _ _ (by omega)]; exact p5_9
  have p6_10 : P6 78 10 = some 82 := by rw [← hP6, zu_s, zu_n _ _ (by omega), zu_n _ _ (by omega)]; exact p5_10
  have p6_11 : P6 78 11 = some 83 := by rw [← hP6, zu_s, zu_n _ _ (by omega), zu_n _ _ (by omega)]; exact p5_11
  clear hI6 hP6 z5 g5 s5 p5_1 p5_7 p5_9 p5_10 p5_11
  refine r_aload_n hV dX12_init_57 rfl rfl ?_
  refine s_bipush hV dX12_init_58 (6) (by decide) ?_
  refine r_newarray hV _ dX12_init_60 ac_int (by first | rfl | assumption) ⟨by decide, rfl, by decide⟩ (by first | decide | omega) ?_
  refine r_putR hV dX12_init_62 fl_X12_32 pf_X12_32 (by first | decide | omega) (by first | rfl | assumption) ?_
  generalize hI7 : zu I6 85 (fun _ => 0) = I7
  generalize hP7 : zu (zu P6 85 (fun _ => none)) 78 (zu ((zu P6 85 (fun _ => none)) 78) 17 (some 85)) = P7
  have z7 : ∀ q, 78 < q → q < 86 → I7 q = fun _ => 0 := fun q h1 h2 => by
    rcases (show q = 85 ∨ q < 85 by omega) with rfl | h
    · rw [← hI7, zu_s]
    · rw [← hI7, zu_n _ _ (by omega)]; exact z6 q h1 h
  have g7 : ∀ q, q < 78 → I7 q = I q ∧ P7 q = P q := fun q h => ⟨by rw [← hI7, zu_n _ _ (by omega)]; exact (g6 q h).1, by rw [← hP7, zu_n _ _ (by omega), zu_n _ _ (by omega)]; exact (g6 q h).2⟩
  have s7 : I7 78 = I1a 78 := by rw [← hI7, zu_n _ _ (by omega)]; exact s6
  have p7_17 : P7 78 17 = some 85 := by rw [← hP7, zu_s, zu_s]
  have p7_1 : P7 78 1 = some 79 := by rw [← hP7, zu_s, zu_n _ _ (by omega), zu_n _ _ (by omega)]; exact p6_1
  have p7_7 : P7 78 7 = some 80 := by rw [← hP7, zu_s, zu_n _ _ (by omega), zu_n _ _ (by omega)]; exact p6_7
  have p7_9 : P7 78 9 = some 81 := by rw [← hP7, zu_s, zu_n _ _ (by omega), zu_n _ _ (by omega)]; exact p6_9
  have p7_10 : P7 78 10 = some 82 := by rw [← hP7, zu_s, zu_n _ _ (by omega), zu_n _ _ (by omega)]; exact p6_10
  have p7_11 : P7 78 11 = some 83 := by rw [← hP7, zu_s, zu_n _ _ (by omega), zu_n _ _ (by omega)]; exact p6_11
  have p7_16 : P7 78 16 = some 84 := by rw [← hP7, zu_s, zu_n _ _ (by omega), zu_n _ _ (by omega)]; exact p6_16
  clear hI7 hP7 z6 g6 s6 p6_1 p6_7 p6_9 p6_10 p6_11 p6_16
  refine r_aload_n hV dX12_init_65 rfl rfl ?_
  refine s_bipush hV dX12_init_66 (6) (by decide) ?_
  refine r_newarray hV _ dX12_init_68 ac_int (by first | rfl | assumption) ⟨by decide, rfl, by decide⟩ (by first | decide | omega) ?_
  refine r_putR hV dX12_init_70 fl_X12_35 pf_X12_35 (by first | decide | omega) (by first | rfl | assumption) ?_
  generalize hI8 : zu I7 86 (fun _ => 0) = I8
  generalize hP8 : zu (zu P7 86 (fun _ => none)) 78 (zu ((zu P7 86 (fun _ => none)) 78) 18 (some 86)) = P8
  have z8 : ∀ q, 78 < q → q < 87 → I8 q = fun _ => 0 := fun q h1 h2 => by
    rcases (show q = 86 ∨ q < 86 by omega) with rfl | h
    · rw [← hI8, zu_s]
    · rw [← hI8, zu_n _ _ (by omega)]; exact z7 q h1 h
  have g8 : ∀ q, q < 78 → I8 q = I q ∧ P8 q = P q := fun q h => ⟨by rw [← hI8, zu_n _ _ (by omega)]; exact (g7 q h).1, by rw [← hP8, zu_n _ _ (by omega), zu_n _ _ (by omega)]; exact (g7 q h).2⟩
  have s8 : I8 78 = I1a 78 := by rw [← hI8, zu_n _ _ (by omega)]; exact s7
  have p8_18 : P8 78 18 = some 86 := by rw [← hP8, zu_s, zu_s]
  have p8_1 : P8 78 1 = some 79 := by rw [← hP8, zu_s, zu_n _ _ (by omega), zu_n _ _ (by omega)]; exact p7_1
  have p8_7 : P8 78 7 = some 80 := by rw [← hP8, zu_s, zu_n _ _ (by omega), zu_n _ _ (by omega)]; exact p7_7
  have p8_9 : P8 78 9 = some 81 := by rw [← hP8, zu_s, zu_n _ _ (by omega), zu_n _ _ (by omega)]; exact p7_9
  have p8_10 : P8 78 10 = some 82 := by rw [← hP8, zu_s, zu_n _ _ (by omega), zu_n _ _ (by omega)]; exact p7_10
  have p8_11 : P8 78 11 = some 83 := by rw [← hP8, zu_s, zu_n _ _ (by omega), zu_n _ _ (by omega)]; exact p7_11
  have p8_16 : P8 78 16 = some 84 := by rw [← hP8, zu_s, zu_n _ _ (by omega), zu_n _ _ (by omega)]; exact p7_16
  have p8_17 : P8 78 17 = some 85 := by rw [← hP8, zu_s, zu_n _ _ (by omega), zu_n _ _ (by omega)]; exact p7_17
  clear hI8 hP8 z7 g7 s7 p7_1 p7_7 p7_9 p7_10 p7_11 p7_16 p7_17
  refine r_aload_n hV dX12_init_73 rfl rfl ?_
  refine s_bipush hV dX12_init_74 (6) (by decide) ?_
  refine r_newarray hV _ dX12_init_76 ac_int (by first | rfl | assumption) ⟨by decide, rfl, by decide⟩ (by first | decide | omega) ?_
  refine r_putR hV dX12_init_78 fl_X12_38 pf_X12_38 (by first | decide | omega) (by first | rfl | assumption) ?_
  generalize hI9 : zu I8 87 (fun _ => 0) = I9
  generalize hP9 : zu (zu P8 87 (fun _ => none)) 78 (zu ((zu P8 87 (fun _ => none)) 78) 19 (some 87)) = P9
  have z9 : ∀ q, 78 < q → q < 88 → I9 q = fun _ => 0 := fun q h1 h2 => by
    rcases (show q = 87 ∨ q < 87 by omega) with rfl | h
    · rw [← hI9, zu_s]
    · rw [← hI9, zu_n _ _ (by omega)]; exact z8 q h1 h
  have g9 : ∀ q, q < 78 → I9 q = I q ∧ P9 q = P q := fun q h => ⟨by rw [← hI9, zu_n _ _ (by omega)]; exact (g8 q h).1, by rw [← hP9, zu_n _ _ (by omega), zu_n _ _ (by omega)]; exact (g8 q h).2⟩
  have s9 : I9 78 = I1a 78 := by rw [← hI9, zu_n _ _ (by omega)]; exact s8
  have p9_19 : P9 78 19 = some 87 := by rw [← hP9, zu_s, zu_s]
  have p9_1 : P9 78 1 = some 79 := by rw [← hP9, zu_s, zu_n _ _ (by omega), zu_n _ _ (by omega)]; exact p8_1
  have p9_7 : P9 78 7 = some 80 := by rw [← hP9, zu_s, zu_n _ _ (by omega), zu_n _ _ (by omega)]; exact p8_7
  have p9_9 : P9 78 9 = some 81 := by rw [← hP9, zu_s, zu_n _ _ (by omega), zu_n _ _ (by omega)]; exact p8_9
  have p9_10 : P9 78 10 = some 82 := by rw [← hP9, zu_s, zu_n _ _ (by omega), zu_n _ _ (by omega)]; exact p8_10
  have p9_11 : P9 78 11 = some 83 := by rw [← hP9, zu_s, zu_n _ _ (by omega), zu_n _ _ (by omega)]; exact p8_11
  have p9_16 : P9 78 16 = some 84 := by rw [← hP9, zu_s, zu_n _ _ (by omega), zu_n _ _ (by omega)]; exact p8_16
  have p9_17 : P9 78 17 = some 85 := by rw [← hP9, zu_s, zu_n _ _ (by omega), zu_n _ _ (by omega)]; exact p8_17
  have p9_18 : P9 78 18 = some 86 := by rw [← hP9, zu_s, zu_n _ _ (by omega), zu_n _ _ (by omega)]; exact p8_18
  clear hI9 hP9 z8 g8 s8 p8_1 p8_7 p8_9 p8_10 p8_11 p8_16 p8_17 p8_18
  refine r_aload_n hV dX12_init_81 rfl rfl ?_
  refine s_iconst hV dX12_init_82 (2) (by decide) ?_
  refine r_newarray hV _ dX12_init_83 ac_int (by first | rfl | assumption) ⟨by decide, rfl, by decide⟩ (by first | decide | omega) ?_
  refine r_putR hV dX12_init_85 fl_X12_41 pf_X12_41 (by first | decide | omega) (by first | rfl | assumption) ?_
  generalize hI10 : zu I9 88 (fun _ => 0) = I10
  generalize hP10 : zu (zu P9 88 (fun _ => none)) 78 (zu ((zu P9 88 (fun _ => none)) 78) 20 (some 88)) = P10
  have z10 : ∀ q, 78 < q → q < 89 → I10 q = fun _ => 0 := fun q h1 h2 => by
    rcases (show q = 88 ∨ q < 88 by omega) with rfl | h
    · rw [← hI10, zu_s]
    · rw [← hI10, zu_n _ _ (by omega)]; exact z9 q h1 h
  have g10 : ∀ q, q < 78 → I10 q = I q ∧ P10 q = P q := fun q h => ⟨by rw [← hI10, zu_n _ _ (by omega)]; exact (g9 q h).1, by rw [← hP10, zu_n _ _ (by omega), zu_n _ _ (by omega)]; exact (g9 q h).2⟩
  have s10 : I10 78 = I1a 78 := by rw [← hI10, zu_n _ _ (by omega)]; exact s9
  have p10_20 : P10 78 20 = some 88 := by rw [← hP10, zu_s, zu_s]
  have p10_1 : P10 78 1 = some 79 := by rw [← hP10, zu_s, zu_n _ _ (by omega), zu_n _ _ (by omega)]; exact p9_1
  have p10_7 : P10 78 7 = some 80 := by rw [← hP10, zu_s, zu_n _ _ (by omega), zu_n _ _ (by omega)]; exact p9_7
  have p10_9 : P10 78 9 = some 81 := by rw [← hP10, zu_s, zu_n _ _ (by omega), zu_n _ _ (by omega)]; exact p9_9
  have p10_10 : P10 78 10 = some 82 := by rw [← hP10, zu_s, zu_n _ _ (by omega), zu_n _ _ (by omega)]; exact p9_10
  have p10_11 : P10 78 11 = some 83 := by rw [← hP10, zu_s, zu_n _ _ (by omega), zu_n _ _ (by omega)]; exact p9_11
  have p10_16 : P10 78 16 = some 84 := by rw [← hP10, zu_s, zu_n _ _ (by omega), zu_n _ _ (by omega)]; exact p9_16
  have p10_17 : P10 78 17 = some 85 := by rw [← hP10, zu_s, zu_n _ _ (by omega), zu_n _ _ (by omega)]; exact p9_17
  have p10_18 : P10 78 18 = some 86 := by rw [← hP10, zu_s, zu_n _ _ (by omega), zu_n _ _ (by omega)]; exact p9_18
  have p10_19 : P10 78 19 = some 87 := by rw [← hP10, zu_s, zu_n _ _ (by omega), zu_n _ _ (by omega)]; exact p9_19
  clear hI10 hP10 z9 g9 s9 p9_1 p9_7 p9_9 p9_10 p9_11 p9_16 p9_17 p9_18 p9_19
  refine r_aload_n hV dX12_init_88 rfl rfl ?_
  refine s_bipush hV dX12_init_89 (8) (by decide) ?_
  refine r_newarray hV _ dX12_init_91 ac_int (by first | rfl | assumption) ⟨by decide, rfl, by decide⟩ (by first | decide | omega) ?_
  refine r_putR hV dX12_init_93 fl_X12_44 pf_X12_44 (by first | decide | omega) (by first | rfl | assumption) ?_
  generalize hI11 : zu I10 89 (fun _ => 0) = I11
  generalize hP11 : zu (zu P10 89 (fun _ => none)) 78 (zu ((zu P10 89 (fun _ => none)) 78) 25 (some 89)) = P11
  have z11 : ∀ q, 78 < q → q < 90 → I11 q = fun _ => 0 := fun q h1 h2 => by
    rcases (show q = 89 ∨ q < 89 by omega) with rfl | h
    · rw [← hI11, zu_s]
    · rw [← hI11, zu_n _ _ (by omega)]; exact z10 q h1 h
  have g11 : ∀ q, q < 78 → I11 q = I q ∧ P11 q = P q := fun q h => ⟨by rw [← hI11, zu_n _ _ (by omega)]; exact (g10 q h).1, by rw [← hP11, zu_n _ _ (by omega), zu_n _ _ (by omega)]; exact (g10 q h).2⟩
  have s11 : I11 78 = I1a 78 := by rw [← hI11, zu_n _ _ (by omega)]; exact s10
  have p11_25 : P11 78 25 = some 89 := by rw [← hP11, zu_s, zu_s]
  have p11_1 : P11 78 1 = some 79 := by rw [← hP11, zu_s, zu_n _ _ (by omega), zu_n _ _ (by omega)]; exact p10_1
  have p11_7 : P11 78 7 = some 80 := by rw [← hP11, zu_s, zu_n _ _ (by omega), zu_n _ _ (by omega)]; exact p10_7
  have p11_9 : P11 78 9 = some 81 := by rw [← hP11, zu_s, zu_n _ _ (by omega), zu_n _ _ (by omega)]; exact p10_9
  have p11_10 : P11 78 10 = some 82 := by rw [← hP11, zu_s, zu_n _ _ (by omega), zu_n _ _ (by omega)]; exact p10_10
  have p11_11 : P11 78 11 = some 83 := by rw [← hP11, zu_s, zu_n _ _ (by omega), zu_n _ _ (by omega)]; exact p10_11
  have p11_16 : P11 78 16 = some 84 := by rw [← hP11, zu_s, zu_n _ _ (by omega), zu_n _ _ (by omega)]; exact p10_16
  have p11_17 : P11 78 17 = some 85 := by rw [← hP11, zu_s, zu_n _ _ (by omega), zu_n _ _ (by omega)]; exact p10_17
  have p11_18 : P11 78 18 = some 86 := by rw [← hP11, zu_s, zu_n _ _ (by omega), zu_n _ _ (by omega)]; exact p10_18
  have p11_19 : P11 78 19 = some 87 := by rw [← hP11, zu_s, zu_n _ _ (by omega), zu_n _ _ (by omega)]; exact p10_19
  have p11_20 : P11 78 20 = some 88 := by rw [← hP11, zu_s, zu_n _ _ (by omega), zu_n _ _ (by omega)]; exact p10_20
  clear hI11 hP11 z10 g10 s10 p10_1 p10_7 p10_9 p10_10 p10_11 p10_16 p10_17 p10_18 p10_19 p10_20
  refine r_aload_n hV dX12_init_96 rfl rfl ?_
  refine s_sipush hV dX12_init_97 (448) (by decide) ?_
  refine r_newarray hV _ dX12_init_100 ac_int (by first | rfl | assumption) ⟨by decide, rfl, by decide⟩ (by first | decide | omega) ?_
  refine r_putR hV dX12_init_102 fl_X12_47 pf_X12_47 (by first | decide | omega) (by first | rfl | assumption) ?_
  generalize hI12 : zu I11 90 (fun _ => 0) = I12
  generalize hP12 : zu (zu P11 90 (fun _ => none)) 78 (zu ((zu P11 90 (fun _ => none)) 78) 26 (some 90)) = P12
  have z12 : ∀ q, 78 < q → q < 91 → I12 q = fun _ => 0 := fun q h1 h2 => by
    rcases (show q = 90 ∨ q < 90 by omega) with rfl | h
    · rw [← hI12, zu_s]
    · rw [← hI12, zu_n _ _ (by omega)]; exact z11 q h1 h
  have g12 : ∀ q, q < 78 → I12 q = I q ∧ P12 q = P q := fun q h => ⟨by rw [← hI12, zu_n _ _ (by omega)]; exact (g11 q h).1, by rw [← hP12, zu_n _ _ (by omega), zu_n _ _ (by omega)]; exact (g11 q h).2⟩
  have s12 : I12 78 = I1a 78 := by rw [← hI12, zu_n _ _ (by omega)]; exact s11
  have p12_26 : P12 78 26 = some 90 := by rw [← hP12, zu_s, zu_s]
  have p12_1 : P12 78 1 = some 79 := by rw [← hP12, zu_s, zu_n _ _ (by omega), zu_n _ _ (by omega)]; exact p11_1
  have p12_7 : P12 78 7 = some 80 := by rw [← hP12, zu_s, zu_n _ _ (by omega), zu_n _ _ (by omega)]; exact p11_7
  have p12_9 : P12 78 9 = some 81 := by rw [← hP12, zu_s, zu_n _ _ (by omega), zu_n _ _ (by omega)]; exact p11_9
  have p12_10 : P12 78 10 = some 82 := by rw [← hP12, zu_s, zu_n _ _ (by omega), zu_n _ _ (by omega)]; exact p11_10
  have p12_11 : P12 78 11 = some 83 := by rw [← hP12, zu_s, zu_n _ _ (by omega), zu_n _ _ (by omega)]; exact p11_11
  have p12_16 : P12 78 16 = some 84 := by rw [← hP12, zu_s, zu_n _ _ (by omega), zu_n _ _ (by omega)]; exact p11_16
  have p12_17 : P12 78 17 = some 85 := by rw [← hP12, zu_s, zu_n _ _ (by omega), zu_n _ _ (by omega)]; exact p11_17
  have p12_18 : P12 78 18 = some 86 := by rw [← hP12, zu_s, zu_n _ _ (by omega), zu_n _ _ (by omega)]; exact p11_18
  have p12_19 : P12 78 19 = some 87 := by rw [← hP12, zu_s, zu_n _ _ (by omega), zu_n _ _ (by omega)]; exact p11_19
  have p12_20 : P12 78 20 = some 88 := by rw [← hP12, zu_s, zu_n _ _ (by omega), zu_n _ _ (by omega)]; exact p11_20
  have p12_25 : P12 78 25 = some 89 := by rw [← hP12, zu_s, zu_n _ _ (by omega), zu_n _ _ (by omega)]; exact p11_25
  clear hI12 hP12 z11 g11 s11 p11_1 p11_7 p11_9 p11_10 p11_11 p11_16 p11_17 p11_18 p11_19 p11_20 p11_25
  refine r_aload_n hV dX12_init_105 rfl rfl ?_
  refine s_bipush hV dX12_init_106 (56) (by decide) ?_
  refine r_newarray hV _ dX12_init_108 ac_int (by first | rfl | assumption) ⟨by decide, rfl, by decide⟩ (by first | decide | omega) ?_
  refine r_putR hV dX12_init_110 fl_X12_50 pf_X12_50 (by first | decide | omega) (by first | rfl | assumption) ?_
  generalize hI13 : zu I12 91 (fun _ => 0) = I13
  generalize hP13 : zu (zu P12 91 (fun _ => none)) 78 (zu ((zu P12 91 (fun _ => none)) 78) 28 (some 91)) = P13
  have z13 : ∀ q, 78 < q → q < 92 → I13 q = fun _ => 0 := fun q h1 h2 => by
    rcases (show q = 91 ∨ q < 91 by omega) with rfl | h
    · rw [← hI13, zu_s]
    · rw [← hI13, zu_n _ _ (by omega)]; exact z12 q h1 h
  have g13 : ∀ q, q < 78 → I13 q = I q ∧ P13 q = P q := fun q h => ⟨by rw [← hI13, zu_n _ _ (by omega)]; exact (g12 q h).1, by rw [← hP13, zu_n _ _ (by omega), zu_n _ _ (by omega)]; exact (g12 q h).2⟩
  have s13 : I13 78 = I1a 78 := by rw [← hI13, zu_n _ _ (by omega)]; exact s12
  have p13_28 : P13 78 28 = some 91 := by rw [← hP13, zu_s, zu_s]
  have p13_1 : P13 78 1 = some 79 := by rw [← hP13, zu_s, zu_n _ _ (by omega), zu_n _ _ (by omega)]; exact p12_1
  have p13_7 : P13 78 7 = some 80 := by rw [← hP13, zu_s, zu_n _ _ (by omega), zu_n _ _ (by omega)]; exact p12_7
  have p13_9 : P13 78 9 = some 81 := by rw [← hP13, zu_s, zu_n _ _ (by omega), zu_n _ _ (by omega)]; exact p12_9
  have p13_10 : P13 78 10 = some 82 := by rw [← hP13, zu_s, zu_n _ _ (by omega), zu_n _ _ (by omega)]; exact p12_10
  have p13_11 : P13 78 11 = some 83 := by rw [← hP13, zu_s, zu_n _ _ (by omega), zu_n _ _ (by omega)]; exact p12_11
  have p13_16 : P13 78 16 = some 84 := by rw [← hP13, zu_s, zu_n _ _ (by omega), zu_n _ _ (by omega)]; exact p12_16
  have p13_17 : P13 78 17 = some 85 := by rw [← hP13, zu_s, zu_n _ _ (by omega), zu_n _ _ (by omega)]; exact p12_17
  have p13_18 : P13 78 18 = some 86 := by rw [← hP13, zu_s, zu_n _ _ (by omega), zu_n _ _ (by omega)]; exact p12_18
  have p13_19 : P13 78 19 = some 87 := by rw [← hP13, zu_s, zu_n _ _ (by omega), zu_n _ _ (by omega)]; exact p12_19
  have p13_20 : P13 78 20 = some 88 := by rw [← hP13, zu_s, zu_n _ _ (by omega), zu_n _ _ (by omega)]; exact p12_20
  have p13_25 : P13 78 25 = some 89 := by rw [← hP13, zu_s, zu_n _ _ (by omega), zu_n _ _ (by omega)]; exact p12_25
  have p13_26 : P13 78 26 = some 90 := by rw [← hP13, zu_s, zu_n _ _ (by omega), zu_n _ _ (by omega)]; exact p12_26
  clear hI13 hP13 z12 g12 s12 p12_1 p12_7 p12_9 p12_10 p12_11 p12_16 p12_17 p12_18 p12_19 p12_20 p12_25 p12_26
  refine r_aload_n hV dX12_init_113 rfl rfl ?_
  refine s_iconst hV dX12_init_114 (2) (by decide) ?_
  refine r_newarray hV _ dX12_init_115 ac_boolean (by first | rfl | assumption) ⟨by decide, rfl, by decide⟩ (by first | decide | omega) ?_
  refine r_putR hV dX12_init_117 fl_X12_53 pf_X12_53 (by first | decide | omega) (by first | rfl | assumption) ?_
  generalize hI14 : zu I13 92 (fun _ => 0) = I14
  generalize hP14 : zu (zu P13 92 (fun _ => none)) 78 (zu ((zu P13 92 (fun _ => none)) 78) 29 (some 92)) = P14
  have z14 : ∀ q, 78 < q → q < 93 → I14 q = fun _ => 0 := fun q h1 h2 => by
    rcases (show q = 92 ∨ q < 92 by omega) with rfl | h
    · rw [← hI14, zu_s]
    · rw [← hI14, zu_n _ _ (by omega)]; exact z13 q h1 h
  have g14 : ∀ q, q < 78 → I14 q = I q ∧ P14 q = P q := fun q h => ⟨by rw [← hI14, zu_n _ _ (by omega)]; exact (g13 q h).1, by rw [← hP14, zu_n _ _ (by omega), zu_n _ _ (by omega)]; exact (g13 q h).2⟩
  have s14 : I14 78 = I1a 78 := by rw [← hI14, zu_n _ _ (by omega)]; exact s13
  have p14_29 : P14 78 29 = some 92 := by rw [← hP14, zu_s, zu_s]
  have p14_1 : P14 78 1 = some 79 := by rw [← hP14, zu_s, zu_n _ _ (by omega), zu_n _ _ (by omega)]; exact p13_1
  have p14_7 : P14 78 7 = some 80 := by rw [← hP14, zu_s, zu_n _ _ (by omega), zu_n _ _ (by omega)]; exact p13_7
  have p14_9 : P14 78 9 = some 81 := by rw [← hP14, zu_s, zu_n _ _ (by omega), zu_n _ _ (by omega)]; exact p13_9
  have p14_10 : P14 78 10 = some 82 := by rw [← hP14, zu_s, zu_n _ _ (by omega), zu_n _ _ (by omega)]; exact p13_10
  have p14_11 : P14 78 11 = some 83 := by rw [← hP14, zu_s, zu_n _ _ (by omega), zu_n _ _ (by omega)]; exact p13_11
  have p14_16 : P14 78 16 = some 84 := by rw [← hP14, zu_s, zu_n _ _ (by omega), zu_n _ _ (by omega)]; exact p13_16
  have p14_17 : P14 78 17 = some 85 := by rw [← hP14, zu_s, zu_n _ _ (by omega), zu_n _ _ (by omega)]; exact p13_17
  have p14_18 : P14 78 18 = some 86 := by rw [← hP14, zu_s, zu_n _ _ (by omega), zu_n _ _ (by omega)]; exact p13_18
  have p14_19 : P14 78 19 = some 87 := by rw [← hP14, zu_s, zu_n _ _ (by omega), zu_n _ _ (by omega)]; exact p13_19
  have p14_20 : P14 78 20 = some 88 := by rw [← hP14, zu_s, zu_n _ _ (by omega), zu_n _ _ (by omega)]; exact p13_20
  have p14_25 : P14 78 25 = some 89 := by rw [← hP14, zu_s, zu_n _ _ (by omega), zu_n _ _ (by omega)]; exact p13_25
  have p14_26 : P14 78 26 = some 90 := by rw [← hP14, zu_s, zu_n _ _ (by omega), zu_n _ _ (by omega)]; exact p13_26
  have p14_28 : P14 78 28 = some 91 := by rw [← hP14, zu_s, zu_n _ _ (by omega), zu_n _ _ (by omega)]; exact p13_28
  clear hI14 hP14 z13 g13 s13 p13_1 p13_7 p13_9 p13_10 p13_11 p13_16 p13_17 p13_18 p13_19 p13_20 p13_25 p13_26 p13_28
  refine r_aload_n hV dX12_init_120 rfl rfl ?_
  refine s_sipush hV dX12_init_121 (128) (by decide) ?_
  refine r_newarray hV _ dX12_init_124 ac_int (by first | rfl | assumption) ⟨by decide, rfl, by decide⟩ (by first | decide | omega) ?_
  refine r_putR hV dX12_init_126 fl_X12_57 pf_X12_57 (by first | decide | omega) (by first | rfl | assumption) ?_
  generalize hI15 : zu I14 93 (fun _ => 0) = I15
  generalize hP15 : zu (zu P14 93 (fun _ => none)) 78 (zu ((zu P14 93 (fun _ => none)) 78) 30 (some 93)) = P15
  have z15 : ∀ q, 78 < q → q < 94 → I15 q = fun _ => 0 := fun q h1 h2 => by
    rcases (show q = 93 ∨ q < 93 by omega) with rfl | h
    · rw [← hI15, zu_s]
    · rw [← hI15, zu_n _ _ (by omega)]; exact z14 q h1 h
  have g15 : ∀ q, q < 78 → I15 q = I q ∧ P15 q = P q := fun q h => ⟨by rw [← hI15, zu_n _ _ (by omega)]; exact (g14 q h).1, by rw [← hP15, zu_n _ _ (by omega), zu_n _ _ (by omega)]; exact (g14 q h).2⟩
  have s15 : I15 78 = I1a 78 := by rw [← hI15, zu_n _ _ (by omega)]; exact s14
  have p15_30 : P15 78 30 = some 93 := by rw [← hP15, zu_s, zu_s]
  have p15_1 : P15 78 1 = some 79 := by rw [← hP15, zu_s, zu_n _ _ (by omega), zu_n _ _ (by omega)]; exact p14_1
  have p15_7 : P15 78 7 = some 80 := by rw [← hP15, zu_s, zu_n _ _ (by omega), zu_n _ _ (by omega)]; exact p14_7
  have p15_9 : P15 78 9 = some 81 := by rw [← hP15, zu_s, zu_n _ _ (by omega), zu_n _ _ (by omega)]; exact p14_9
  have p15_10 : P15 78 10 = some 82 := by rw [← hP15, zu_s, zu_n _ _ (by omega), zu_n _ _ (by omega)]; exact p14_10
  have p15_11 : P15 78 11 = some 83 := by rw [← hP15, zu_s, zu_n _ _ (by omega), zu_n _ _ (by omega)]; exact p14_11
  have p15_16 : P15 78 16 = some 84 := by rw [← hP15, zu_s, zu_n _ _ (by omega), zu_n _ _ (by omega)]; exact p14_16
  have p15_17 : P15 78 17 = some 85 := by rw [← hP15, zu_s, zu_n _ _ (by omega), zu_n _ _ (by omega)]; exact p14_17
  have p15_18 : P15 78 18 = some 86 := by rw [← hP15, zu_s, zu_n _ _ (by omega), zu_n _ _ (by omega)]; exact p14_18
  have p15_19 : P15 78 19 = some 87 := by rw [← hP15, zu_s, zu_n _ _ (by omega), zu_n _ _ (by omega)]; exact p14_19
  have p15_20 : P15 78 20 = some 88 := by rw [← hP15, zu_s, zu_n _ _ (by omega), zu_n _ _ (by omega)]; exact p14_20
  have p15_25 : P15 78 25 = some 89 := by rw [← hP15, zu_s, zu_n _ _ (by omega), zu_n _ _ (by omega)]; exact p14_25
  have p15_26 : P15 78 26 = some 90 := by rw [← hP15, zu_s, zu_n _ _ (by omega), zu_n _ _ (by omega)]; exact p14_26
  have p15_28 : P15 78 28 = some 91 := by rw [← hP15, zu_s, zu_n _ _ (by omega), zu_n _ _ (by omega)]; exact p14_28
  have p15_29 : P15 78 29 = some 92 := by rw [← hP15, zu_s, zu_n _ _ (by omega), zu_n _ _ (by omega)]; exact p14_29
  clear hI15 hP15 z14 g14 s14 p14_1 p14_7 p14_9 p14_10 p14_11 p14_16 p14_17 p14_18 p14_19 p14_20 p14_25 p14_26 p14_28 p14_29
  refine r_aload_n hV dX12_init_129 rfl rfl ?_
  refine s_sipush hV dX12_init_130 (384) (by decide) ?_
  refine r_newarray hV _ dX12_init_133 ac_int (by first | rfl | assumption) ⟨by decide, rfl, by decide⟩ (by first | decide | omega) ?_
  refine r_putR hV dX12_init_135 fl_X12_60 pf_X12_60 (by first | decide | omega) (by first | rfl | assumption) ?_
  generalize hI16 : zu I15 94 (fun _ => 0) = I16
  generalize hP16 : zu (zu P15 94 (fun _ => none)) 78 (zu ((zu P15 94 (fun _ => none)) 78) 31 (some 94)) = P16
  have z16 : ∀ q, 78 < q → q < 95 → I16 q = fun _ => 0 := fun q h1 h2 => by
    rcases (show q = 94 ∨ q < 94 by omega) with rfl | h
    · rw [← hI16, zu_s]
    · rw [← hI16, zu_n _ _ (by omega)]; exact z15 q h1 h
  have g16 : ∀ q, q < 78 → I16 q = I q ∧ P16 q = P q := fun q h => ⟨by rw [← hI16, zu_n _ _ (by omega)]; exact (g15 q h).1, by rw [← hP16, zu_n _ _ (by omega), zu_n _ _ (by omega)]; exact (g15 q h).2⟩
  have s16 : I16 78 = I1a 78 := by rw [← hI16, zu_n _ _ (by omega)]; exact s15
  have p16_31 : P16 78 31 = some 94 := by rw [← hP16, zu_s, zu_s]
  have p16_1 : P16 78 1 = some 79 := by rw [← hP16, zu_s, zu_n _ _ (by omega), zu_n _ _ (by omega)]; exact p15_1
  have p16_7 : P16 78 7 = some 80 := by rw [← hP16, zu_s, zu_n _ _ (by omega), zu_n _ _ (by omega)]; exact p15_7
  have p16_9 : P16 78 9 = some 81 := by rw [← hP16, zu_s, zu_n _ _ (by omega), zu_n _ _ (by omega)]; exact p15_9
  have p16_10 : P16 78 10 = some 82 := by rw [← hP16, zu_s, zu_n _ _ (by omega), zu_n _ _ (by omega)]; exact p15_10
  have p16_11 : P16 78 11 = some 83 := by rw [← hP16, zu_s, zu_n _ _ (by omega), zu_n _ _ (by omega)]; exact p15_11
  have p16_16 : P16 78 16 = some 84 := by rw [← hP16, zu_s, zu_n _ _ (by omega), zu_n _ _ (by omega)]; exact p15_16
  have p16_17 : P16 78 17 = some 85 := by rw [← hP16, zu_s, zu_n _ _ (by omega), zu_n _ _ (by omega)]; exact p15_17
  have p16_18 : P16 78 18 = some 86 := by rw [← hP16, zu_s, zu_n _ _ (by omega), zu_n _ _ (by omega)]; exact p15_18
  have p16_19 : P16 78 19 = some 87 := by rw [← hP16, zu_s, zu_n _ _ (by omega), zu_n _ _ (by omega)]; exact p15_19
  have p16_20 : P16 78 20 = some 88 := by rw [← hP16, zu_s, zu_n _ _ (by omega), zu_n _ _ (by omega)]; exact p15_20
  have p16_25 : P16 78 25 = some 89 := by rw [← hP16, zu_s, zu_n _ _ (by omega), zu_n _ _ (by omega)]; exact p15_25
  have p16_26 : P16 78 26 = some 90 := by rw [← hP16, zu_s, zu_n _ _ (by omega), zu_n _ _ (by omega)]; exact p15_26
  have p16_28 : P16 78 28 = some 91 := by rw [← hP16, zu_s, zu_n _ _ (by omega), zu_n _ _ (by omega)]; exact p15_28
  have p16_29 : P16 78 29 = some 92 := by rw [← hP16, zu_s, zu_n _ _ (by omega), zu_n _ _ (by omega)]; exact p15_29
  have p16_30 : P16 78 30 = some 93 := by rw [← hP16, zu_s, zu_n _ _ (by omega), zu_n _ _ (by omega)]; exact p15_30
  clear hI16 hP16 z15 g15 s15 p15_1 p15_7 p15_9 p15_10 p15_11 p15_16 p15_17 p15_18 p15_19 p15_20 p15_25 p15_26 p15_28 p15_29 p15_30
  refine r_aload_n hV dX12_init_138 rfl rfl ?_
  refine s_bipush hV dX12_init_139 (9) (by decide) ?_
  refine r_newarray hV _ dX12_init_141 ac_int (by first | rfl | assumption) ⟨by decide, rfl, by decide⟩ (by first | decide | omega) ?_
  refine r_putR hV dX12_init_143 fl_X12_63 pf_X12_63 (by first | decide | omega) (by first | rfl | assumption) ?_
  generalize hI17 : zu I16 95 (fun _ => 0) = I17
  generalize hP17 : zu (zu P16 95 (fun _ => none)) 78 (zu ((zu P16 95 (fun _ => none)) 78) 36 (some 95)) = P17
  have z17 : ∀ q, 78 < q → q < 96 → I17 q = fun _ => 0 := fun q h1 h2 => by
    rcases (show q = 95 ∨ q < 95 by omega) with rfl | h
    · rw [← hI17, zu_s]
    · rw [← hI17, zu_n _ _ (by omega)]; exact z16 q h1 h
  have g17 : ∀ q, q < 78 → I17 q = I q ∧ P17 q = P q := fun q h => ⟨by rw [← hI17, zu_n _ _ (by omega)]; exact (g16 q h).1, by rw [← hP17, zu_n _ _ (by omega), zu_n _ _ (by omega)]; exact (g16 q h).2⟩
  have s17 : I17 78 = I1a 78 := by rw [← hI17, zu_n _ _ (by omega)]; exact s16
  have p17_36 : P17 78 36 = some 95 := by rw [← hP17, zu_s, zu_s]
  have p17_1 : P17 78 1 = some 79 := by rw [← hP17, zu_s, zu_n _ _ (by omega), zu_n _ _ (by omega)]; exact p16_1
  have p17_7 : P17 78 7 = some 80 := by rw [← hP17, zu_s, zu_n _ _ (by omega), zu_n _ _ (by omega)]; exact p16_7
  have p17_9 : P17 78 9 = some 81 := by rw [← hP17, zu_s, zu_n _ _ (by omega), zu_n _ _ (by omega)]; exact p16_9
  have p17_10 : P17 78 10 = some 82 := by rw [← hP17, zu_s, zu_n _ _ (by omega), zu_n _ _ (by omega)]; exact p16_10
  have p17_11 : P17 78 11 = some 83 := by rw [← hP17, zu_s, zu_n _ _ (by omega), zu_n _ _ (by omega)]; exact p16_11
  have p17_16 : P17 78 16 = some 84 := by rw [← hP17, zu_s, zu_n _ _ (by omega), zu_n _ _ (by omega)]; exact p16_16
  have p17_17 : P17 78 17 = some 85 := by rw [← hP17, zu_s, zu_n _ _ (by omega), zu_n _ _ (by omega)]; exact p16_17
  have p17_18 : P17 78 18 = some 86 := by rw [← hP17, zu_s, zu_n _ _ (by omega), zu_n _ _ (by omega)]; exact p16_18
  have p17_19 : P17 78 19 = some 87 := by rw [← hP17, zu_s, zu_n _ _ (by omega), zu_n _ _ (by omega)]; exact p16_19
  have p17_20 : P17 78 20 = some 88 := by rw [← hP17, zu_s, zu_n _ _ (by omega), zu_n _ _ (by omega)]; exact p16_20
  have p17_25 : P17 78 25 = some 89 := by rw [← hP17, zu_s, zu_n _ _ (by omega), zu_n _ _ (by omega)]; exact p16_25
  have p17_26 : P17 78 26 = some 90 := by rw [← hP17, zu_s, zu_n _ _ (by omega), zu_n _ _ (by omega)]; exact p16_26
  have p17_28 : P17 78 28 = some 91 := by rw [← hP17, zu_s, zu_n _ _ (by omega), zu_n _ _ (by omega)]; exact p16_28
  have p17_29 : P17 78 29 = some 92 := by rw [← hP17, zu_s, zu_n _ _ (by omega), zu_n _ _ (by omega)]; exact p16_29
  have p17_30 : P17 78 30 = some 93 := by rw [← hP17, zu_s, zu_n _ _ (by omega), zu_n _ _ (by omega)]; exact p16_30
  have p17_31 : P17 78 31 = some 94 := by rw [← hP17, zu_s, zu_n _ _ (by omega), zu_n _ _ (by omega)]; exact p16_31
  clear hI17 hP17 z16 g16 s16 p16_1 p16_7 p16_9 p16_10 p16_11 p16_16 p16_17 p16_18 p16_19 p16_20 p16_25 p16_26 p16_28 p16_29 p16_30 p16_31
  refine r_aload_n hV dX12_init_146 rfl rfl ?_
  refine s_bipush hV dX12_init_147 (9) (by decide) ?_
  refine r_newarray hV _ dX12_init_149 ac_int (by first | rfl | assumption) ⟨by decide, rfl, by decide⟩ (by first | decide | omega) ?_
  refine r_putR hV dX12_init_151 fl_X12_66 pf_X12_66 (by first | decide | omega) (by first | rfl | assumption) ?_
  generalize hI18 : zu I17 96 (fun _ => 0) = I18
  generalize hP18 : zu (zu P17 96 (fun _ => none)) 78 (zu ((zu P17 96 (fun _ => none)) 78) 37 (some 96)) = P18
  have z18 : ∀ q, 78 < q → q < 97 → I18 q = fun _ => 0 := fun q h1 h2 => by
    rcases (show q = 96 ∨ q < 96 by omega) with rfl | h
    · rw [← hI18, zu_s]
    · rw [← hI18, zu_n _ _ (by omega)]; exact z17 q h1 h
  have g18 : ∀ q, q < 78 → I18 q = I q ∧ P18 q = P q := fun q h => ⟨by rw [← hI18, zu_n _ _ (by omega)]; exact (g17 q h).1, by rw [← hP18, zu_n _ _ (by omega), zu_n _ _ (by omega)]; exact (g17 q h).2⟩
  have s18 : I18 78 = I1a 78 := by rw [← hI18, zu_n _ _ (by omega)]; exact s17
  have p18_37 : P18 78 37 = some 96 := by rw [← hP18, zu_s, zu_s]
  have p18_1 : P18 78 1 = some 79 := by rw [← hP18, zu_s, zu_n _ _ (by omega), zu_n _ _ (by omega)]; exact p17_1
  have p18_7 : P18 78 7 = some 80 := by rw [← hP18, zu_s, zu_n _ _ (by omega), zu_n _ _ (by omega)]; exact p17_7
  have p18_9 : P18 78 9 = some 81 := by rw [← hP18, zu_s, zu_n _ _ (by omega), zu_n _ _ (by omega)]; exact p17_9
  have p18_10 : P18 78 10 = some 82 := by rw [← hP18, zu_s, zu_n _ _ (by omega), zu_n _ _ (by omega)]; exact p17_10
  have p18_11 : P18 78 11 = some 83 := by rw [← hP18, zu_s, zu_n _ _ (by omega), zu_n _ _ (by omega)]; exact p17_11
  have p18_16 : P18 78 16 = some 84 := by rw [← hP18, zu_s, zu_n _ _ (by omega), zu_n _ _ (by omega)]; exact p17_16
  have p18_17 : P18 78 17 = some 85 := by rw [← hP18, zu_s, zu_n _ _ (by omega), zu_n _ _ (by omega)]; exact p17_17
  have p18_18 : P18 78 18 = some 86 := by rw [← hP18, zu_s, zu_n _ _ (by omega), zu_n _ _ (by omega)]; exact p17_18
  have p18_19 : P18 78 19 = some 87 := by rw [← hP18, zu_s, zu_n _ _ (by omega), zu_n _ _ (by omega)]; exact p17_19
  have p18_20 : P18 78 20 = some 88 := by rw [← hP18, zu_s, zu_n _ _ (by omega), zu_n _ _ (by omega)]; exact p17_20
  have p18_25 : P18 78 25 = some 89 := by rw [← hP18, zu_s, zu_n _ _ (by omega), zu_n _ _ (by omega)]; exact p17_25
  have p18_26 : P18 78 26 = some 90 := by rw [← hP18, zu_s, zu_n _ _ (by omega), zu_n _ _ (by omega)]; exact p17_26
  have p18_28 : P18 78 28 = some 91 := by rw [← hP18, zu_s, zu_n _ _ (by omega), zu_n _ _ (by omega)]; exact p17_28
  have p18_29 : P18 78 29 = some 92 := by rw [← hP18, zu_s, zu_n _ _ (by omega), zu_n _ _ (by omega)]; exact p17_29
  have p18_30 : P18 78 30 = some 93 := by rw [← hP18, zu_s, zu_n _ _ (by omega), zu_n _ _ (by omega)]; exact p17_30
  have p18_31 : P18 78 31 = some 94 := by rw [← hP18, zu_s, zu_n _ _ (by omega), zu_n _ _ (by omega)]; exact p17_31
  have p18_36 : P18 78 36 = some 95 := by rw [← hP18, zu_s, zu_n _ _ (by omega), zu_n _ _ (by omega)]; exact p17_36
  clear hI18 hP18 z17 g17 s17 p17_1 p17_7 p17_9 p17_10 p17_11 p17_16 p17_17 p17_18 p17_19 p17_20 p17_25 p17_26 p17_28 p17_29 p17_30 p17_31 p17_36
  refine r_aload_n hV dX12_init_154 rfl rfl ?_
  refine s_bipush hV dX12_init_155 (9) (by decide) ?_
  refine r_newarray hV _ dX12_init_157 ac_int (by first | rfl | assumption) ⟨by decide, rfl, by decide⟩ (by first | decide | omega) ?_
  refine r_putR hV dX12_init_159 fl_X12_69 pf_X12_69 (by first | decide | omega) (by first | rfl | assumption) ?_
  generalize hI19 : zu I18 97 (fun _ => 0) = I19
  generalize hP19 : zu (zu P18 97 (fun _ => none)) 78 (zu ((zu P18 97 (fun _ => none)) 78) 38 (some 97)) = P19
  have z19 : ∀ q, 78 < q → q < 98 → I19 q = fun _ => 0 := fun q h1 h2 => by
    rcases (show q = 97 ∨ q < 97 by omega) with rfl | h
    · rw [← hI19, zu_s]
    · rw [← hI19, zu_n _ _ (by omega)]; exact z18 q h1 h
  have g19 : ∀ q, q < 78 → I19 q = I q ∧ P19 q = P q := fun q h => ⟨by rw [← hI19, zu_n _ _ (by omega)]; exact (g18 q h).1, by rw [← hP19, zu_n _ _ (by omega), zu_n _ _ (by omega)]; exact (g18 q h).2⟩
  have s19 : I19 78 = I1a 78 := by rw [← hI19, zu_n _ _ (by omega)]; exact s18
  have p19_38 : P19 78 38 = some 97 := by rw [← hP19, zu_s, zu_s]
  have p19_1 : P19 78 1 = some 79 := by rw [← hP19, zu_s, zu_n _ _ (by omega), zu_n _ _ (by omega)]; exact p18_1
  have p19_7 : P19 78 7 = some 80 := by rw [← hP19, zu_s, zu_n _ _ (by omega), zu_n _ _ (by omega)]; exact p18_7
  have p19_9 : P19 78 9 = some 81 := by rw [← hP19, zu_s, zu_n _ _ (by omega), zu_n _ _ (by omega)]; exact p18_9
  have p19_10 : P19 78 10 = some 82 := by rw [← hP19, zu_s, zu_n _ _ (by omega), zu_n _ _ (by omega)]; exact p18_10
  have p19_11 : P19 78 11 = some 83 := by rw [← hP19, zu_s, zu_n _ _ (by omega), zu_n _ _ (by omega)]; exact p18_11
  have p19_16 : P19 78 16 = some 84 := by rw [← hP19, zu_s, zu_n _ _ (by omega), zu_n _ _ (by omega)]; exact p18_16
  have p19_17 : P19 78 17 = some 85 := by rw [← hP19, zu_s, zu_n _ _ (by omega), zu_n _ _ (by omega)]; exact p18_17
  have p19_18 : P19 78 18 = some 86 := by rw [← hP19, zu_s, zu_n _ _ (by omega), zu_n _ _ (by omega)]; exact p18_18
  have p19_19 : P19 78 19 = some 87 := by rw [← hP19, zu_s, zu_n _ _ (by omega), zu_n _ _ (by omega)]; exact p18_19
  have p19_20 : P19 78 20 = some 88 := by rw [← hP19, zu_s, zu_n _ _ (by omega), zu_n _ _ (by omega)]; exact p18_20
  have p19_25 : P19 78 25 = some 89 := by rw [← hP19, zu_s, zu_n _ _ (by omega), zu_n _ _ (by omega)]; exact p18_25
  have p19_26 : P19 78 26 = some 90 := by rw [← hP19, zu_s, zu_n _ _ (by omega), zu_n _ _ (by omega)]; exact p18_26
  have p19_28 : P19 78 28 = some 91 := by rw [← hP19, zu_s, zu_n _ _ (by omega), zu_n _ _ (by omega)]; exact p18_28
  have p19_29 : P19 78 29 = some 92 := by rw [← hP19, zu_s, zu_n _ _ (by omega), zu_n _ _ (by omega)]; exact p18_29
  have p19_30 : P19 78 30 = some 93 := by rw [← hP19, zu_s, zu_n _ _ (by omega), zu_n _ _ (by omega)]; exact p18_30
  have p19_31 : P19 78 31 = some 94 := by rw [← hP19, zu_s, zu_n _ _ (by omega), zu_n _ _ (by omega)]; exact p18_31
  have p19_36 : P19 78 36 = some 95 := by rw [← hP19, zu_s, zu_n _ _ (by omega), zu_n _ _ (by omega)]; exact p18_36
  have p19_37 : P19 78 37 = some 96 := by rw [← hP19, zu_s, zu_n _ _ (by omega), zu_n _ _ (by omega)]; exact p18_37
  clear hI19 hP19 z18 g18 s18 p18_1 p18_7 p18_9 p18_10 p18_11 p18_16 p18_17 p18_18 p18_19 p18_20 p18_25 p18_26 p18_28 p18_29 p18_30 p18_31 p18_36 p18_37
  refine r_aload_n hV dX12_init_162 rfl rfl ?_
  refine s_bipush hV dX12_init_163 (9) (by decide) ?_
  refine r_newarray hV _ dX12_init_165 ac_int (by first | rfl | assumption) ⟨by decide, rfl, by decide⟩ (by first | decide | omega) ?_
  refine r_putR hV dX12_init_167 fl_X12_72 pf_X12_72 (by first | decide | omega) (by first | rfl | assumption) ?_
  generalize hI20 : zu I19 98 (fun _ => 0) = I20
  generalize hP20 : zu (zu P19 98 (fun _ => none)) 78 (zu ((zu P19 98 (fun _ => none)) 78) 39 (some 98)) = P20
  have z20 : ∀ q, 78 < q → q < 99 → I20 q = fun _ => 0 := fun q h1 h2 => by
    rcases (show q = 98 ∨ q < 98 by omega) with rfl | h
    · rw [← hI20, zu_s]
    · rw [← hI20, zu_n _ _ (by omega)]; exact z19 q h1 h
  have g20 : ∀ q, q < 78 → I20 q = I q ∧ P20 q = P q := fun q h => ⟨by rw [← hI20, zu_n _ _ (by omega)]; exact (g19 q h).1, by rw [← hP20, zu_n _ _ (by omega), zu_n _ _ (by omega)]; exact (g19 q h).2⟩
  have s20 : I20 78 = I1a 78 := by rw [← hI20, zu_n _ _ (by omega)]; exact s19
  have p20_39 : P20 78 39 = some 98 := by rw [← hP20, zu_s, zu_s]
  have p20_1 : P20 78 1 = some 79 := by rw [← hP20, zu_s, zu_n _ _ (by omega), zu_n _ _ (by omega)]; exact p19_1
  have p20_7 : P20 78 7 = some 80 := by rw [← hP20, zu_s, zu_n _ _ (by omega), zu_n _ _ (by omega)]; exact p19_7
  have p20_9 : P20 78 9 = some 81 := by rw [← hP20, zu_s, zu_n _ _ (by omega), zu_n _ _ (by omega)]; exact p19_9
  have p20_10 : P20 78 10 = some 82 := by rw [← hP20, zu_s, zu_n _ _ (by omega), zu_n _ _ (by omega)]; exact p19_10
  have p20_11 : P20 78 11 = some 83 := by rw [← hP20, zu_s, zu_n _ _ (by omega), zu_n _ _ (by omega)]; exact p19_11
  have p20_16 : P20 78 16 = some 84 := by rw [← hP20, zu_s, zu_n _ _ (by omega), zu_n _ _ (by omega)]; exact p19_16
  have p20_17 : P20 78 17 = some 85 := by rw [← hP20, zu_s, zu_n _ _ (by omega), zu_n _ _ (by omega)]; exact p19_17
  have p20_18 : P20 78 18 = some 86 := by rw [← hP20, zu_s, zu_n _ _ (by omega), zu_n _ _ (by omega)]; exact p19_18
  have p20_19 : P20 78 19 = some 87 := by rw [← hP20, zu_s, zu_n _ _ (by omega), zu_n _ _ (by omega)]; exact p19_19
  have p20_20 : P20 78 20 = some 88 := by rw [← hP20, zu_s, zu_n _ _ (by omega), zu_n _ _ (by omega)]; exact p19_20
  have p20_25 : P20 78 25 = some 89 := by rw [← hP20, zu_s, zu_n _ _ (by omega), zu_n _ _ (by omega)]; exact p19_25
  have p20_26 : P20 78 26 = some 90 := by rw [← hP20, zu_s, zu_n _ _ (by omega), zu_n _ _ (by omega)]; exact p19_26
  have p20_28 : P20 78 28 = some 91 := by rw [← hP20, zu_s, zu_n _ _ (by omega), zu_n _ _ (by omega)]; exact p19_28
  have p20_29 : P20 78 29 = some 92 := by rw [← hP20, zu_s, zu_n _ _ (by omega), zu_n _ _ (by omega)]; exact p19_29
  have p20_30 : P20 78 30 = some 93 := by rw [← hP20, zu_s, zu_n _ _ (by omega), zu_n _ _ (by omega)]; exact p19_30
  have p20_31 : P20 78 31 = some 94 := by rw [← hP20, zu_s, zu_n _ _ (by omega), zu_n _ _ (by omega)]; exact p19_31
  have p20_36 : P20 78 36 = some 95 := by rw [← hP20, zu_s, zu_n _ _ (by omega), zu_n _ _ (by omega)]; exact p19_36
  have p20_37 : P20 78 37 = some 96 := by rw [← hP20, zu_s, zu_n _ _ (by omega), zu_n _ _ (by omega)]; exact p19_37
  have p20_38 : P20 78 38 = some 97 := by rw [← hP20, zu_s, zu_n _ _ (by omega), zu_n _ _ (by omega)]; exact p19_38
  clear hI20 hP20 z19 g19 s19 p19_1 p19_7 p19_9 p19_10 p19_11 p19_16 p19_17 p19_18 p19_19 p19_20 p19_25 p19_26 p19_28 p19_29 p19_30 p19_31 p19_36 p19_37 p19_38
  refine r_aload_n hV dX12_init_170 rfl rfl ?_
  refine s_bipush hV dX12_init_171 (9) (by decide) ?_
  refine r_newarray hV _ dX12_init_173 ac_int (by first | rfl | assumption) ⟨by decide, rfl, by decide⟩ (by first | decide | omega) ?_
  refine r_putR hV dX12_init_175 fl_X12_75 pf_X12_75 (by first | decide | omega) (by first | rfl | assumption) ?_
  generalize hI21 : zu I20 99 (fun _ => 0) = I21
  generalize hP21 : zu (zu P20 99 (fun _ => none)) 78 (zu ((zu P20 99 (fun _ => none)) 78) 40 (some 99)) = P21
  have z21 : ∀ q, 78 < q → q < 100 → I21 q = fun _ => 0 := fun q h1 h2 => by
    rcases (show q = 99 ∨ q < 99 by omega) with rfl | h
    · rw [← hI21, zu_s]
    · rw [← hI21, zu_n _ _ (by omega)]; exact z20 q h1 h
  have g21 : ∀ q, q < 78 → I21 q = I q ∧ P21 q = P q := fun q h => ⟨by rw [← hI21, zu_n _ _ (by omega)]; exact (g20 q h).1, by rw [← hP21, zu_n _ _ (by omega), zu_n _ _ (by omega)]; exact (g20 q h).2⟩
  have s21 : I21 78 = I1a 78 := by rw [← hI21, zu_n _ _ (by omega)]; exact s20
  have p21_40 : P21 78 40 = some 99 := by rw [← hP21, zu_s, zu_s]
  have p21_1 : P21 78 1 = some 79 := by rw [← hP21, zu_s, zu_n _ _ (by omega), zu_n _ _ (by omega)]; exact p20_1
  have p21_7 : P21 78 7 = some 80 := by rw [← hP21, zu_s, zu_n _ _ (by omega), zu_n _ _ (by omega)]; exact p20_7
  have p21_9 : P21 78 9 = some 81 := by rw [← hP21, zu_s, zu_n _ _ (by omega), zu_n _ _ (by omega)]; exact p20_9
  have p21_10 : P21 78 10 = some 82 := by rw [← hP21, zu_s, zu_n _ _ (by omega), zu_n _ _ (by omega)]; exact p20_10
  have p21_11 : P21 78 11 = some 83 := by rw [← hP21, zu_s, zu_n _ _ (by omega), zu_n _ _ (by omega)]; exact p20_11
  have p21_16 : P21 78 16 = some 84 := by rw [← hP21, zu_s, zu_n _ _ (by omega), zu_n _ _ (by omega)]; exact p20_16
  have p21_17 : P21 78 17 = some 85 := by rw [← hP21, zu_s, zu_n _ _ (by omega), zu_n _ _ (by omega)]; exact p20_17
  have p21_18 : P21 78 18 = some 86 := by rw [← hP21, zu_s, zu_n _ _ (by omega), zu_n _ _ (by omega)]; exact p20_18
  have p21_19 : P21 78 19 = some 87 := by rw [← hP21, zu_s, zu_n _ _ (by omega), zu_n _ _ (by omega)]; exact p20_19
  have p21_20 : P21 78 20 = some 88 := by rw [← hP21, zu_s, zu_n _ _ (by omega), zu_n _ _ (by omega)]; exact p20_20
  have p21_25 : P21 78 25 = some 89 := by rw [← hP21, zu_s, zu_n _ _ (by omega), zu_n _ _ (by omega)]; exact p20_25
  have p21_26 : P21 78 26 = some 90 := by rw [← hP21, zu_s, zu_n _ _ (by omega), zu_n _ _ (by omega)]; exact p20_26
  have p21_28 : P21 78 28 = some 91 := by rw [← hP21, zu_s, zu_n _ _ (by omega), zu_n _ _ (by omega)]; exact p20_28
  have p21_29 : P21 78 29 = some 92 := by rw [← hP21, zu_s, zu_n _ _ (by omega), zu_n _ _ (by omega)]; exact p20_29
  have p21_30 : P21 78 30 = some 93 := by rw [← hP21, zu_s, zu_n _ _ (by omega), zu_n _ _ (by omega)]; exact p20_30
  have p21_31 : P21 78 31 = some 94 := by rw [← hP21, zu_s, zu_n _ _ (by omega), zu_n _ _ (by omega)]; exact p20_31
  have p21_36 : P21 78 36 = some 95 := by rw [← hP21, zu_s, zu_n _ _ (by omega), zu_n _ _ (by omega)]; exact p20_36
  have p21_37 : P21 78 37 = some 96 := by rw [← hP21, zu_s, zu_n _ _ (by omega), zu_n _ _ (by omega)]; exact p20_37
  have p21_38 : P21 78 38 = some 97 := by rw [← hP21, zu_s, zu_n _ _ (by omega), zu_n _ _ (by omega)]; exact p20_38
  have p21_39 : P21 78 39 = some 98 := by rw [← hP21, zu_s, zu_n _ _ (by omega), zu_n _ _ (by omega)]; exact p20_39
  clear hI21 hP21 z20 g20 s20 p20_1 p20_7 p20_9 p20_10 p20_11 p20_16 p20_17 p20_18 p20_19 p20_20 p20_25 p20_26 p20_28 p20_29 p20_30 p20_31 p20_36 p20_37 p20_38 p20_39
  refine r_aload_n hV dX12_init_178 rfl rfl ?_
  refine s_bipush hV dX12_init_179 (9) (by decide) ?_
  refine r_newarray hV _ dX12_init_181 ac_int (by first | rfl | assumption) ⟨by decide, rfl, by decide⟩ (by first | decide | omega) ?_
  refine r_putR hV dX12_init_183 fl_X12_78 pf_X12_78 (by first | decide | omega) (by first | rfl | assumption) ?_
  generalize hI22 : zu I21 100 (fun _ => 0) = I22
  generalize hP22 : zu (zu P21 100 (fun _ => none)) 78 (zu ((zu P21 100 (fun _ => none)) 78) 41 (some 100)) = P22
  have z22 : ∀ q, 78 < q → q < 101 → I22 q = fun _ => 0 := fun q h1 h2 => by
    rcases (show q = 100 ∨ q < 100 by omega) with rfl | h
    · rw [← hI22, zu_s]
    · rw [← hI22, zu_n _ _ (by omega)]; exact z21 q h1 h
  have g22 : ∀ q, q < 78 → I22 q = I q ∧ P22 q = P q := fun q h => ⟨by rw [← hI22, zu_n _ _ (by omega)]; exact (g21 q h).1, by rw [← hP22, zu_n _ _ (by omega), zu_n _ _ (by omega)]; exact (g21 q h).2⟩
  have s22 : I22 78 = I1a 78 := by rw [← hI22, zu_n _ _ (by omega)]; exact s21
  have p22_41 : P22 78 41 = some 100 := by rw [← hP22, zu_s, zu_s]
  have p22_1 : P22 78 1 = some 79 := by rw [← hP22, zu_s, zu_n _ _ (by omega), zu_n _ _ (by omega)]; exact p21_1
  have p22_7 : P22 78 7 = some 80 := by rw [← hP22, zu_s, zu_n _ _ (by omega), zu_n _ _ (by omega)]; exact p21_7
  have p22_9 : P22 78 9 = some 81 := by rw [← hP22, zu_s, zu_n _ _ (by omega), zu_n _ _ (by omega)]; exact p21_9
  have p22_10 : P22 78 10 = some 82 := by rw [← hP22, zu_s, zu_n _ _ (by omega), zu_n _ _ (by omega)]; exact p21_10
  have p22_11 : P22 78 11 = some 83 := by rw [← hP22, zu_s, zu_n _ _ (by omega), zu_n _ _ (by omega)]; exact p21_11
  have p22_16 : P22 78 16 = some 84 := by rw [← hP22, zu_s, zu_n _ _ (by omega), zu_n _ _ (by omega)]; exact p21_16
  have p22_17 : P22 78 17 = some 85 := by rw [← hP22, zu_s, zu_n _ _ (by omega), zu_n _ _ (by omega)]; exact p21_17
  have p22_18 : P22 78 18 = some 86 := by rw [← hP22, zu_s, zu_n _ _ (by omega), zu_n _ _ (by omega)]; exact p21_18
  have p22_19 : P22 78 19 = some 87 := by rw [← hP22, zu_s, zu_n _ _ (by omega), zu_n _ _ (by omega)]; exact p21_19
  have p22_20 : P22 78 20 = some 88 := by rw [← hP22, zu_s, zu_n _ _ (by omega), zu_n _ _ (by omega)]; exact p21_20
  have p22_25 : P22 78 25 = some 89 := by rw [← hP22, zu_s, zu_n _ _ (by omega), zu_n _ _ (by omega)]; exact p21_25
  have p22_26 : P22 78 26 = some 90 := by rw [← hP22, zu_s, zu_n _ _ (by omega), zu_n _ _ (by omega)]; exact p21_26
  have p22_28 : P22 78 28 = some 91 := by rw [← hP22, zu_s, zu_n _ _ (by omega), zu_n _ _ (by omega)]; exact p21_28
  have p22_29 : P22 78 29 = some 92 := by rw [← hP22, zu_s, zu_n _ _ (by omega), zu_n _ _ (by omega)]; exact p21_29
  have p22_30 : P22 78 30 = some 93 := by rw [← hP22, zu_s, zu_n _ _ (by omega), zu_n _ _ (by omega)]; exact p21_30
  have p22_31 : P22 78 31 = some 94 := by rw [← hP22, zu_s, zu_n _ _ (by omega), zu_n _ _ (by omega)]; exact p21_31
  have p22_36 : P22 78 36 = some 95 := by rw [← hP22, zu_s, zu_n _ _ (by omega), zu_n _ _ (by omega)]; exact p21_36
  have p22_37 : P22 78 37 = some 96 := by rw [← hP22, zu_s, zu_n _ _ (by omega), zu_n _ _ (by omega)]; exact p21_37
  have p22_38 : P22 78 38 = some 97 := by rw [← hP22, zu_s, zu_n _ _ (by omega), zu_n _ _ (by omega)]; exact p21_38
  have p22_39 : P22 78 39 = some 98 := by rw [← hP22, zu_s, zu_n _ _ (by omega), zu_n _ _ (by omega)]; exact p21_39
  have p22_40 : P22 78 40 = some 99 := by rw [← hP22, zu_s, zu_n _ _ (by omega), zu_n _ _ (by omega)]; exact p21_40
  clear hI22 hP22 z21 g21 s21 p21_1 p21_7 p21_9 p21_10 p21_11 p21_16 p21_17 p21_18 p21_19 p21_20 p21_25 p21_26 p21_28 p21_29 p21_30 p21_31 p21_36 p21_37 p21_38 p21_39 p21_40
  refine r_aload_n hV dX12_init_186 rfl rfl ?_
  refine s_bipush hV dX12_init_187 (9) (by decide) ?_
  refine r_newarray hV _ dX12_init_189 ac_int (by first | rfl | assumption) ⟨by decide, rfl, by decide⟩ (by first | decide | omega) ?_
  refine r_putR hV dX12_init_191 fl_X12_81 pf_X12_81 (by first | decide | omega) (by first | rfl | assumption) ?_
  generalize hI23 : zu I22 101 (fun _ => 0) = I23
  generalize hP23 : zu (zu P22 101 (fun _ => none)) 78 (zu ((zu P22 101 (fun _ => none)) 78) 42 (some 101)) = P23
  have z23 : ∀ q, 78 < q → q < 102 → I23 q = fun _ => 0 := fun q h1 h2 => by
    rcases (show q = 101 ∨ q < 101 by omega) with rfl | h
    · rw [← hI23, zu_s]
    · rw [← hI23, zu_n _ _ (by omega)]; exact z22 q h1 h
  have g23 : ∀ q, q < 78 → I23 q = I q ∧ P23 q = P q := fun q h => ⟨by rw [← hI23, zu_n _ _ (by omega)]; exact (g22 q h).1, by rw [← hP23, zu_n _ _ (by omega), zu_n _ _ (by omega)]; exact (g22 q h).2⟩
  have s23 : I23 78 = I1a 78 := by rw [← hI23, zu_n _ _ (by omega)]; exact s22
  have p23_42 : P23 78 42 = some 101 := by rw [← hP23, zu_s, zu_s]
  have p23_1 : P23 78 1 = some 79 := by rw [← hP23, zu_s, zu_n _ _ (by omega), zu_n _ _ (by omega)]; exact p22_1
  have p23_7 : P23 78 7 = some 80 := by rw [← hP23, zu_s, zu_n _ _ (by omega), zu_n _ _ (by omega)]; exact p22_7
  have p23_9 : P23 78 9 = some 81 := by rw [← hP23, zu_s, zu_n _ _ (by omega), zu_n _ _ (by omega)]; exact p22_9
  have p23_10 : P23 78 10 = some 82 := by rw [← hP23, zu_s, zu_n _ _ (by omega), zu_n _ _ (by omega)]; exact p22_10
  have p23_11 : P23 78 11 = some 83 := by rw [← hP23, zu_s, zu_n _ _ (by omega), zu_n _ _ (by omega)]; exact p22_11
  have p23_16 : P23 78 16 = some 84 := by rw [← hP23, zu_s, zu_n _ _ (by omega), zu_n _ _ (by omega)]; exact p22_16
  have p23_17 : P23 78 17 = some 85 := by rw [← hP23, zu_s, zu_n _ _ (by omega), zu_n _ _ (by omega)]; exact p22_17
  have p23_18 : P23 78 18 = some 86 := by rw [← hP23, zu_s, zu_n _ _ (by omega), zu_n _ _ (by omega)]; exact p22_18
  have p23_19 : P23 78 19 = some 87 := by rw [← hP23, zu_s, zu_n _ _ (by omega), zu_n _ _ (by omega)]; exact p22_19
  have p23_20 : P23 78 20 = some 88 := by rw [← hP23, zu_s, zu_n _ _ (by omega), zu_n _ _ (by omega)]; exact p22_20
  have p23_25 : P23 78 25 = some 89 := by rw [← hP23, zu_s, zu_n _ _ (by omega), zu_n _ _ (by omega)]; exact p22_25
  have p23_26 : P23 78 26 = some 90 := by rw [← hP23, zu_s, zu_n _ _ (by omega), zu_n _ _ (by omega)]; exact p22_26
  have p23_28 : P23 78 28 = some 91 := by rw [← hP23, zu_s, zu_n _ _ (by omega), zu_n _ _ (by omega)]; exact p22_28
  have p23_29 : P23 78 29 = some 92 := by rw [← hP23, zu_s, zu_n _ _ (by omega), zu_n _ _ (by omega)]; exact p22_29
  have p23_30 : P23 78 30 = some 93 := by rw [← hP23, zu_s, zu_n _ _ (by omega), zu_n _ _ (by omega)]; exact p22_30
  have p23_31 : P23 78 31 = some 94 := by rw [← hP23, zu_s, zu_n _ _ (by omega), zu_n _ _ (by omega)]; exact p22_31
  have p23_36 : P23 78 36 = some 95 := by rw [← hP23, zu_s, zu_n _ _ (by omega), zu_n _ _ (by omega)]; exact p22_36
  have p23_37 : P23 78 37 = some 96 := by rw [← hP23, zu_s, zu_n _ _ (by omega), zu_n _ _ (by omega)]; exact p22_37
  have p23_38 : P23 78 38 = some 97 := by rw [← hP23, zu_s, zu_n _ _ (by omega), zu_n _ _ (by omega)]; exact p22_38
  have p23_39 : P23 78 39 = some 98 := by rw [← hP23, zu_s, zu_n _ _ (by omega), zu_n _ _ (by omega)]; exact p22_39
  have p23_40 : P23 78 40 = some 99 := by rw [← hP23, zu_s, zu_n _ _ (by omega), zu_n _ _ (by omega)]; exact p22_40
  have p23_41 : P23 78 41 = some 100 := by rw [← hP23, zu_s, zu_n _ _ (by omega), zu_n _ _ (by omega)]; exact p22_41
  clear hI23 hP23 z22 g22 s22 p22_1 p22_7 p22_9 p22_10 p22_11 p22_16 p22_17 p22_18 p22_19 p22_20 p22_25 p22_26 p22_28 p22_29 p22_30 p22_31 p22_36 p22_37 p22_38 p22_39 p22_40 p22_41
  refine r_aload_n hV dX12_init_194 rfl rfl ?_
  refine s_bipush hV dX12_init_195 (9) (by decide) ?_
  refine r_newarray hV _ dX12_init_197 ac_int (by first | rfl | assumption) ⟨by decide, rfl, by decide⟩ (by first | decide | omega) ?_
  refine r_putR hV dX12_init_199 fl_X12_84 pf_X12_84 (by first | decide | omega) (by first | rfl | assumption) ?_
  generalize hI24 : zu I23 102 (fun _ => 0) = I24
  generalize hP24 : zu (zu P23 102 (fun _ => none)) 78 (zu ((zu P23 102 (fun _ => none)) 78) 43 (some 102)) = P24
  have z24 : ∀ q, 78 < q → q < 103 → I24 q = fun _ => 0 := fun q h1 h2 => by
    rcases (show q = 102 ∨ q < 102 by omega) with rfl | h
    · rw [← hI24, zu_s]
    · rw [← hI24, zu_n _ _ (by omega)]; exact z23 q h1 h
  have g24 : ∀ q, q < 78 → I24 q = I q ∧ P24 q = P q := fun q h => ⟨by rw [← hI24, zu_n _ _ (by omega)]; exact (g23 q h).1, by rw [← hP24, zu_n _ _ (by omega), zu_n _ _ (by omega)]; exact (g23 q h).2⟩
  have s24 : I24 78 = I1a 78 := by rw [← hI24, zu_n _ _ (by omega)]; exact s23
  have p24_43 : P24 78 43 = some 102 := by rw [← hP24, zu_s, zu_s]
  have p24_1 : P24 78 1 = some 79 := by rw [← hP24, zu_s, zu_n _ _ (by omega), zu_n _ _ (by omega)]; exact p23_1
  have p24_7 : P24 78 7 = some 80 := by rw [← hP24, zu_s, zu_n _ _ (by omega), zu_n _ _ (by omega)]; exact p23_7
  have p24_9 : P24 78 9 = some 81 := by rw [← hP24, zu_s, zu_n _ _ (by omega), zu_n _ _ (by omega)]; exact p23_9
  have p24_10 : P24 78 10 = some 82 := by rw [← hP24, zu_s, zu_n _ _ (by omega), zu_n _ _ (by omega)]; exact p23_10
  have p24_11 : P24 78 11 = some 83 := by rw [← hP24, zu_s, zu_n _ _ (by omega), zu_n _ _ (by omega)]; exact p23_11
  have p24_16 : P24 78 16 = some 84 := by rw [← hP24, zu_s, zu_n _ _ (by omega), zu_n _ _ (by omega)]; exact p23_16
  have p24_17 : P24 78 17 = some 85 := by rw [← hP24, zu_s, zu_n _ _ (by omega), zu_n _ _ (by omega)]; exact p23_17
  have p24_18 : P24 78 18 = some 86 := by rw [← hP24, zu_s, zu_n _ _ (by omega), zu_n _ _ (by omega)]; exact p23_18
  have p24_19 : P24 78 19 = some 87 := by rw [← hP24, zu_s, zu_n _ _ (by omega), zu_n _ _ (by omega)]; exact p23_19
  have p24_20 : P24 78 20 = some 88 := by rw [← hP24, zu_s, zu_n _ _ (by omega), zu_n _ _ (by omega)]; exact p23_20
  have p24_25 : P24 78 25 = some 89 := by rw [← hP24, zu_s, zu_n _ _ (by omega), zu_n _ _ (by omega)]; exact p23_25
  have p24_26 : P24 78 26 = some 90 := by rw [← hP24, zu_s, zu_n _ _ (by omega), zu_n _ _ (by omega)]; exact p23_26
  have p24_28 : P24 78 28 = some 91 := by rw [← hP24, zu_s, zu_n _ _ (by omega), zu_n _ _ (by omega)]; exact p23_28
  have p24_29 : P24 78 29 = some 92 := by rw [← hP24, zu_s, zu_n _ _ (by omega), zu_n _ _ (by omega)]; exact p23_29
  have p24_30 : P24 78 30 = some 93 := by rw [← hP24, zu_s, zu_n _ _ (by omega), zu_n _ _ (by omega)]; exact p23_30
  have p24_31 : P24 78 31 = some 94 := by rw [← hP24, zu_s, zu_n _ _ (by omega), zu_n _ _ (by omega)]; exact p23_31
  have p24_36 : P24 78 36 = some 95 := by rw [← hP24, zu_s, zu_n _ _ (by omega), zu_n _ _ (by omega)]; exact p23_36
  have p24_37 : P24 78 37 = some 96 := by rw [← hP24, zu_s, zu_n _ _ (by omega), zu_n _ _ (by omega)]; exact p23_37
  have p24_38 : P24 78 38 = some 97 := by rw [← hP24, zu_s, zu_n _ _ (by omega), zu_n _ _ (by omega)]; exact p23_38
  have p24_39 : P24 78 39 = some 98 := by rw [← hP24, zu_s, zu_n _ _ (by omega), zu_n _ _ (by omega)]; exact p23_39
  have p24_40 : P24 78 40 = some 99 := by rw [← hP24, zu_s, zu_n _ _ (by omega), zu_n _ _ (by omega)]; exact p23_40
  have p24_41 : P24 78 41 = some 100 := by rw [← hP24, zu_s, zu_n _ _ (by omega), zu_n _ _ (by omega)]; exact p23_41
  have p24_42 : P24 78 42 = some 101 := by rw [← hP24, zu_s, zu_n _ _ (by omega), zu_n _ _ (by omega)]; exact p23_42
  clear hI24 hP24 z23 g23 s23 p23_1 p23_7 p23_9 p23_10 p23_11 p23_16 p23_17 p23_18 p23_19 p23_20 p23_25 p23_26 p23_28 p23_29 p23_30 p23_31 p23_36 p23_37 p23_38 p23_39 p23_40 p23_41 p23_42
  refine r_aload_n hV dX12_init_202 rfl rfl ?_
  refine s_bipush hV dX12_init_203 (9) (by decide) ?_
  refine r_newarray hV _ dX12_init_205 ac_int (by first | rfl | assumption) ⟨by decide, rfl, by decide⟩ (by first | decide | omega) ?_
  refine r_putR hV dX12_init_207 fl_X12_87 pf_X12_87 (by first | decide | omega) (by first | rfl | assumption) ?_
  generalize hI25 : zu I24 103 (fun _ => 0) = I25
  generalize hP25 : zu (zu P24 103 (fun _ => none)) 78 (zu ((zu P24 103 (fun _ => none)) 78) 44 (some 103)) = P25
  have z25 : ∀ q, 78 < q → q < 104 → I25 q = fun _ => 0 := fun q h1 h2 => by
    rcases (show q = 103 ∨ q < 103 by omega) with rfl | h
    · rw [← hI25, zu_s]
    · rw [← hI25, zu_n _ _ (by omega)]; exact z24 q h1 h
  have g25 : ∀ q, q < 78 → I25 q = I q ∧ P25 q = P q := fun q h => ⟨by rw [← hI25, zu_n _ _ (by omega)]; exact (g24 q h).1, by rw [← hP25, zu_n _ _ (by omega), zu_n _ _ (by omega)]; exact (g24 q h).2⟩
  have s25 : I25 78 = I1a 78 := by rw [← hI25, zu_n _ _ (by omega)]; exact s24
  have p25_44 : P25 78 44 = some 103 := by rw [← hP25, zu_s, zu_s]
  have p25_1 : P25 78 1 = some 79 := by rw [← hP25, zu_s, zu_n _ _ (by omega), zu_n _ _ (by omega)]; exact p24_1
  have p25_7 : P25 78 7 = some 80 := by rw [← hP25, zu_s, zu_n _ _ (by omega), zu_n _ _ (by omega)]; exact p24_7
  have p25_9 : P25 78 9 = some 81 := by rw [← hP25, zu_s, zu_n _ _ (by omega), zu_n _ _ (by omega)]; exact p24_9
  have p25_10 : P25 78 10 = some 82 := by rw [← hP25, zu_s, zu_n _ _ (by omega), zu_n _ _ (by omega)]; exact p24_10
  have p25_11 : P25 78 11 = some 83 := by rw [← hP25, zu_s, zu_n _ _ (by omega), zu_n _ _ (by omega)]; exact p24_11
  have p25_16 : P25 78 16 = some 84 := by rw [← hP25, zu_s, zu_n _ _ (by omega), zu_n _ _ (by omega)]; exact p24_16
  have p25_17 : P25 78 17 = some 85 := by rw [← hP25, zu_s, zu_n _ _ (by omega), zu_n _ _ (by omega)]; exact p24_17
  have p25_18 : P25 78 18 = some 86 := by rw [← hP25, zu_s, zu_n _ _ (by omega), zu_n _ _ (by omega)]; exact p24_18
  have p25_19 : P25 78 19 = some 87 := by rw [← hP25, zu_s, zu_n _ _ (by omega), zu_n _ _ (by omega)]; exact p24_19
  have p25_20 : P25 78 20 = some 88 := by rw [← hP25, zu_s, zu_n _ _ (by omega), zu_n _ _ (by omega)]; exact p24_20
  have p25_25 : P25 78 25 = some 89 := by rw [← hP25, zu_s, zu_n _ _ (by omega), zu_n _ _ (by omega)]; exact p24_25
  have p25_26 : P25 78 26 = some 90 := by rw [← hP25, zu_s, zu_n _ _ (by omega), zu_n _ _ (by omega)]; exact p24_26
  have p25_28 : P25 78 28 = some 91 := by rw [← hP25, zu_s, zu_n _ _ (by omega), zu_n _ _ (by omega)]; exact p24_28
  have p25_29 : P25 78 29 = some 92 := by rw [← hP25, zu_s, zu_n _ _ (by omega), zu_n _ _ (by omega)]; exact p24_29
  have p25_30 : P25 78 30 = some 93 := by rw [← hP25, zu_s, zu_n _ _ (by omega), zu_n _ _ (by omega)]; exact p24_30
  have p25_31 : P25 78 31 = some 94 := by rw [← hP25, zu_s, zu_n _ _ (by omega), zu_n _ _ (by omega)]; exact p24_31
  have p25_36 : P25 78 36 = some 95 := by rw [← hP25, zu_s, zu_n _ _ (by omega), zu_n _ _ (by omega)]; exact p24_36
  have p25_37 : P25 78 37 = some 96 := by rw [← hP25, zu_s, zu_n _ _ (by omega), zu_n _ _ (by omega)]; exact p24_37
  have p25_38 : P25 78 38 = some 97 := by rw [← hP25, zu_s, zu_n _ _ (by omega), zu_n _ _ (by omega)]; exact p24_38
  have p25_39 : P25 78 39 = some 98 := by rw [← hP25, zu_s, zu_n _ _ (by omega), zu_n _ _ (by omega)]; exact p24_39
  have p25_40 : P25 78 40 = some 99 := by rw [← hP25, zu_s, zu_n _ _ (by omega), zu_n _ _ (by omega)]; exact p24_40
  have p25_41 : P25 78 41 = some 100 := by rw [← hP25, zu_s, zu_n _ _ (by omega), zu_n _ _ (by omega)]; exact p24_41
  have p25_42 : P25 78 42 = some 101 := by rw [← hP25, zu_s, zu_n _ _ (by omega), zu_n _ _ (by omega)]; exact p24_42
  have p25_43 : P25 78 43 = some 102 := by rw [← hP25, zu_s, zu_n _ _ (by omega), zu_n _ _ (by omega)]; exact p24_43
  clear hI25 hP25 z24 g24 s24 p24_1 p24_7 p24_9 p24_10 p24_11 p24_16 p24_17 p24_18 p24_19 p24_20 p24_25 p24_26 p24_28 p24_29 p24_30 p24_31 p24_36 p24_37 p24_38 p24_39 p24_40 p24_41 p24_42 p24_43
  refine r_aload_n hV dX12_init_210 rfl rfl ?_
  refine s_bipush hV dX12_init_211 (9) (by decide) ?_
  refine r_newarray hV _ dX12_init_213 ac_int (by first | rfl | assumption) ⟨by decide, rfl, by decide⟩ (by first | decide | omega) ?_
  refine r_putR hV dX12_init_215 fl_X12_90 pf_X12_90 (by first | decide | omega) (by first | rfl | assumption) ?_
  generalize hI26 : zu I25 104 (fun _ => 0) = I26
  generalize hP26 : zu (zu P25 104 (fun _ => none)) 78 (zu ((zu P25 104 (fun _ => none)) 78) 45 (some 104)) = P26
  have z26 : ∀ q, 78 < q → q < 105 → I26 q = fun _ => 0 := fun q h1 h2 => by
    rcases (show q = 104 ∨ q < 104 by omega) with rfl | h
    · rw [← hI26, zu_s]
    · rw [← hI26, zu_n _ _ (by omega)]; exact z25 q h1 h
  have g26 : ∀ q, q < 78 → I26 q = I q ∧ P26 q = P q := fun q h => ⟨by rw [← hI26, zu_n _ _ (by omega)]; exact (g25 q h).1, by rw [← hP26, zu_n _ _ (by omega), zu_n _ _ (by omega)]; exact (g25 q h).2⟩
  have s26 : I26 78 = I1a 78 := by rw [← hI26, zu_n _ _ (by omega)]; exact s25
  have p26_45 : P26 78 45 = some 104 := by rw [← hP26, zu_s, zu_s]
  have p26_1 : P26 78 1 = some 79 := by rw [← hP26, zu_s, zu_n _ _ (by omega), zu_n _ _ (by omega)]; exact p25_1
  have p26_7 : P26 78 7 = some 80 := by rw [← hP26, zu_s, zu_n _ _ (by omega), zu_n _ _ (by omega)]; exact p25_7
  have p26_9 : P26 78 9 = some 81 := by rw [← hP26, zu_s, zu_n _ _ (by omega), zu_n _ _ (by omega)]; exact p25_9
  have p26_10 : P26 78 10 = some 82 := by rw [← hP26, zu_s, zu_n _ _ (by omega), zu_n _ _ (by omega)]; exact p25_10
  have p26_11 : P26 78 11 = some 83 := by rw [← hP26, zu_s, zu_n _ _ (by omega), zu_n _ _ (by omega)]; exact p25_11
  have p26_16 : P26 78 16 = some 84 := by rw [← hP26, zu_s, zu_n _ _ (by omega), zu_n _ _ (by omega)]; exact p25_16
  have p26_17 : P26 78 17 = some 85 := by rw [← hP26, zu_s, zu_n _ _ (by omega), zu_n _ _ (by omega)]; exact p25_17
  have p26_18 : P26 78 18 = some 86 := by rw [← hP26, zu_s, zu_n _ _ (by omega), zu_n _ _ (by omega)]; exact p25_18
  have p26_19 : P26 78 19 = some 87 := by rw [← hP26, zu_s, zu_n _ _ (by omega), zu_n _ _ (by omega)]; exact p25_19
  have p26_20 : P26 78 20 = some 88 := by rw [← hP26, zu_s, zu_n _ _ (by omega), zu_n _ _ (by omega)]; exact p25_20
  have p26_25 : P26 78 25 = some 89 := by rw [← hP26, zu_s, zu_n _ _ (by omega), zu_n _ _ (by omega)]; exact p25_25
  have p26_26 : P26 78 26 = some 90 := by rw [← hP26, zu_s, zu_n _ _ (by omega), zu_n _ _ (by omega)]; exact p25_26
  have p26_28 : P26 78 28 = some 91 := by rw [← hP26, zu_s, zu_n _ _ (by omega), zu_n _ _ (by omega)]; exact p25_28
  have p26_29 : P26 78 29 = some 92 := by rw [← hP26, zu_s, zu_n _ _ (by omega), zu_n _ _ (by omega)]; exact p25_29
  have p26_30 : P26 78 30 = some 93 := by rw [← hP26, zu_s, zu_n _ _ (by omega), zu_n _ _ (by omega)]; exact p25_30
  have p26_31 : P26 78 31 = some 94 := by rw [← hP26, zu_s, zu_n _ _ (by omega), zu_n _ _ (by omega)]; exact p25_31
  have p26_36 : P26 78 36 = some 95 := by rw [← hP26, zu_s, zu_n _ _ (by omega), zu_n _ _ (by omega)]; exact p25_36
  have p26_37 : P26 78 37 = some 96 := by rw [← hP26, zu_s, zu_n _ _ (by omega), zu_n _ _ (by omega)]; exact p25_37
  have p26_38 : P26 78 38 = some 97 := by rw [← hP26, zu_s, zu_n _ _ (by omega), zu_n _ _ (by omega)]; exact p25_38
  have p26_39 : P26 78 39 = some 98 := by rw [← hP26, zu_s, zu_n _ _ (by omega), zu_n _ _ (by omega)]; exact p25_39
  have p26_40 : P26 78 40 = some 99 := by rw [← hP26, zu_s, zu_n _ _ (by omega), zu_n _ _ (by omega)]; exact p25_40
  have p26_41 : P26 78 41 = some 100 := by rw [← hP26, zu_s, zu_n _ _ (by omega), zu_n _ _ (by omega)]; exact p25_41
  have p26_42 : P26 78 42 = some 101 := by rw [← hP26, zu_s, zu_n _ _ (by omega), zu_n _ _ (by omega)]; exact p25_42
  have p26_43 : P26 78 43 = some 102 := by rw [← hP26, zu_s, zu_n _ _ (by omega), zu_n _ _ (by omega)]; exact p25_43
  have p26_44 : P26 78 44 = some 103 := by rw [← hP26, zu_s, zu_n _ _ (by omega), zu_n _ _ (by omega)]; exact p25_44
  clear hI26 hP26 z25 g25 s25 p25_1 p25_7 p25_9 p25_10 p25_11 p25_16 p25_17 p25_18 p25_19 p25_20 p25_25 p25_26 p25_28 p25_29 p25_30 p25_31 p25_36 p25_37 p25_38 p25_39 p25_40 p25_41 p25_42 p25_43 p25_44
  refine r_aload_n hV dX12_init_218 rfl rfl ?_
  refine s_bipush hV dX12_init_219 (9) (by decide) ?_
  refine r_newarray hV _ dX12_init_221 ac_int (by first | rfl | assumption) ⟨by decide, rfl, by decide⟩ (by first | decide | omega) ?_
  refine r_putR hV dX12_init_223 fl_X12_93 pf_X12_93 (by first | decide | omega) (by first | rfl | assumption) ?_
  generalize hI27 : zu I26 105 (fun _ => 0) = I27
  generalize hP27 : zu (zu P26 105 (fun _ => none)) 78 (zu ((zu P26 105 (fun _ => none)) 78) 46 (some 105)) = P27
  have z27 : ∀ q, 78 < q → q < 106 → I27 q = fun _ => 0 := fun q h1 h2 => by
    rcases (show q = 105 ∨ q < 105 by omega) with rfl | h
    · rw [← hI27, zu_s]
    · rw [← hI27, zu_n _ _ (by omega)]; exact z26 q h1 h
  have g27 : ∀ q, q < 78 → I27 q = I q ∧ P27 q = P q := fun q h => ⟨by rw [← hI27, zu_n _ _ (by omega)]; exact (g26 q h).1, by rw [← hP27, zu_n _ _ (by omega), zu_n _ _ (by omega)]; exact (g26 q h).2⟩
  have s27 : I27 78 = I1a 78 := by rw [← hI27, zu_n _ _ (by omega)]; exact s26
  have p27_46 : P27 78 46 = some 105 := by rw [← hP27, zu_s, zu_s]
  have p27_1 : P27 78 1 = some 79 := by rw [← hP27, zu_s, zu_n _ _ (by omega), zu_n _ _ (by omega)]; exact p26_1
  have p27_7 : P27 78 7 = some 80 := by rw [← hP27, zu_s, zu_n _ _ (by omega), zu_n _ _ (by omega)]; exact p26_7
  have p27_9 : P27 78 9 = some 81 := by rw [← hP27, zu_s, zu_n _ _ (by omega), zu_n _ _ (by omega)]; exact p26_9
  have p27_10 : P27 78 10 = some 82 := by rw [← hP27, zu_s, zu_n _ _ (by omega), zu_n _ _ (by omega)]; exact p26_10
  have p27_11 : P27 78 11 = some 83 := by rw [← hP27, zu_s, zu_n _ _ (by omega), zu_n _ _ (by omega)]; exact p26_11
  have p27_16 : P27 78 16 = some 84 := by rw [← hP27, zu_s, zu_n _ _ (by omega), zu_n _ _ (by omega)]; exact p26_16
  have p27_17 : P27 78 17 = some 85 := by rw [← hP27, zu_s, zu_n _ _ (by omega), zu_n _ _ (by omega)]; exact p26_17
  have p27_18 : P27 78 18 = some 86 := by rw [← hP27, zu_s, zu_n _ _ (by omega), zu_n _ _ (by omega)]; exact p26_18
  have p27_19 : P27 78 19 = some 87 := by rw [← hP27, zu_s, zu_n _ _ (by omega), zu_n _ _ (by omega)]; exact p26_19
  have p27_20 : P27 78 20 = some 88 := by rw [← hP27, zu_s, zu_n _ _ (by omega), zu_n _ _ (by omega)]; exact p26_20
  have p27_25 : P27 78 25 = some 89 := by rw [← hP27, zu_s, zu_n _ _ (by omega), zu_n _ _ (by omega)]; exact p26_25
  have p27_26 : P27 78 26 = some 90 := by rw [← hP27, zu_s, zu_n _ _ (by omega), zu_n _ _ (by omega)]; exact p26_26
  have p27_28 : P27 78 28 = some 91 := by rw [← hP27, zu_s, zu_n _ _ (by omega), zu_n _ _ (by omega)]; exact p26_28
  have p27_29 : P27 78 29 = some 92 := by rw [← hP27, zu_s, zu_n _ _ (by omega), zu_n _ _ (by omega)]; exact p26_29
  have p27_30 : P27 78 30 = some 93 := by rw [← hP27, zu_s, zu_n _ _ (by omega), zu_n _ _ (by omega)]; exact p26_30
  have p27_31 : P27 78 31 = some 94 := by rw [← hP27, zu_s, zu_n _ _ (by omega), zu_n _ _ (by omega)]; exact p26_31
  have p27_36 : P27 78 36 = some 95 := by rw [← hP27, zu_s, zu_n _ _ (by omega), zu_n _ _ (by omega)]; exact p26_36
  have p27_37 : P27 78 37 = some 96 := by rw [← hP27, zu_s, zu_n _ _ (by omega), zu_n _ _ (by omega)]; exact p26_37
  have p27_38 : P27 78 38 = some 97 := by rw [← hP27, zu_s, zu_n _ _ (by omega), zu_n _ _ (by omega)]; exact p26_38
  have p27_39 : P27 78 39 = some 98 := by rw [← hP27, zu_s, zu_n _ _ (by omega), zu_n _ _ (by omega)]; exact p26_39
  have p27_40 : P27 78 40 = some 99 := by rw [← hP27, zu_s, zu_n _ _ (by omega), zu_n _ _ (by omega)]; exact p26_40
  have p27_41 : P27 78 41 = some 100 := by rw [← hP27, zu_s, zu_n _ _ (by omega), zu_n _ _ (by omega)]; exact p26_41
  have p27_42 : P27 78 42 = some 101 := by rw [← hP27, zu_s, zu_n _ _ (by omega), zu_n _ _ (by omega)]; exact p26_42
  have p27_43 : P27 78 43 = some 102 := by rw [← hP27, zu_s, zu_n _ _ (by omega), zu_n _ _ (by omega)]; exact p26_43
  have p27_44 : P27 78 44 = some 103 := by rw [← hP27, zu_s, zu_n _ _ (by omega), zu_n _ _ (by omega)]; exact p26_44
  have p27_45 : P27 78 45 = some 104 := by rw [← hP27, zu_s, zu_n _ _ (by omega), zu_n _ _ (by omega)]; exact p26_45
  clear hI27 hP27 z26 g26 s26 p26_1 p26_7 p26_9 p26_10 p26_11 p26_16 p26_17 p26_18 p26_19 p26_20 p26_25 p26_26 p26_28 p26_29 p26_30 p26_31 p26_36 p26_37 p26_38 p26_39 p26_40 p26_41 p26_42 p26_43 p26_44 p26_45
  refine r_aload_n hV dX12_init_226 rfl rfl ?_
  refine s_sipush hV dX12_init_227 (6000) (by decide) ?_
  refine r_newarray hV _ dX12_init_230 ac_long (by first | rfl | assumption) ⟨by decide, rfl, by decide⟩ (by first | decide | omega) ?_
  refine r_putR hV dX12_init_232 fl_X12_96 pf_X12_96 (by first | decide | omega) (by first | rfl | assumption) ?_
  generalize hI28 : zu I27 106 (fun _ => 0) = I28
  generalize hP28 : zu (zu P27 106 (fun _ => none)) 78 (zu ((zu P27 106 (fun _ => none)) 78) 47 (some 106)) = P28
  have z28 : ∀ q, 78 < q → q < 107 → I28 q = fun _ => 0 := fun q h1 h2 => by
    rcases (show q = 106 ∨ q < 106 by omega) with rfl | h
    · rw [← hI28, zu_s]
    · rw [← hI28, zu_n _ _ (by omega)]; exact z27 q h1 h
  have g28 : ∀ q, q < 78 → I28 q = I q ∧ P28 q = P q := fun q h => ⟨by rw [← hI28, zu_n _ _ (by omega)]; exact (g27 q h).1, by rw [← hP28, zu_n _ _ (by omega), zu_n _ _ (by omega)]; exact (g27 q h).2⟩
  have s28 : I28 78 = I1a 78 := by rw [← hI28, zu_n _ _ (by omega)]; exact s27
  have p28_47 : P28 78 47 = some 106 := by rw [← hP28, zu_s, zu_s]
  have p28_1 : P28 78 1 = some 79 := by rw [← hP28, zu_s, zu_n _ _ (by omega), zu_n _ _ (by omega)]; exact p27_1
  have p28_7 : P28 78 7 = some 80 := by rw [← hP28, zu_s, zu_n _ _ (by omega), zu_n _ _ (by omega)]; exact p27_7
  have p28_9 : P28 78 9 = some 81 := by rw [← hP28, zu_s, zu_n _ _ (by omega), zu_n _ _ (by omega)]; exact p27_9
  have p28_10 : P28 78 10 = some 82 := by rw [← hP28, zu_s, zu_n _ _ (by omega), zu_n _ _ (by omega)]; exact p27_10
  have p28_11 : P28 78 11 = some 83 := by rw [← hP28, zu_s, zu_n _ _ (by omega), zu_n _ _ (by omega)]; exact p27_11
  have p28_16 : P28 78 16 = some 84 := by rw [← hP28, zu_s, zu_n _ _ (by omega), zu_n _ _ (by omega)]; exact p27_16
  have p28_17 : P28 78 17 = some 85 := by rw [← hP28, zu_s, zu_n _ _ (by omega), zu_n _ _ (by omega)]; exact p27_17
  have p28_18 : P28 78 18 = some 86 := by rw [← hP28, zu_s, zu_n _ _ (by omega), zu_n _ _ (by omega)]; exact p27_18
  have p28_19 : P28 78 19 = some 87 := by rw [← hP28, zu_s, zu_n _ _ (by omega), zu_n _ _ (by omega)]; exact p27_19
  have p28_20 : P28 78 20 = some 88 := by rw [← hP28, zu_s, zu_n _ _ (by omega), zu_n _ _ (by omega)]; exact p27_20
  have p28_25 : P28 78 25 = some 89 := by rw [← hP28, zu_s, zu_n _ _ (by omega), zu_n _ _ (by omega)]; exact p27_25
  have p28_26 : P28 78 26 = some 90 := by rw [← hP28, zu_s, zu_n _ _ (by omega), zu_n _ _ (by omega)]; exact p27_26
  have p28_28 : P28 78 28 = some 91 := by rw [← hP28, zu_s, zu_n _ _ (by omega), zu_n _ _ (by omega)]; exact p27_28
  have p28_29 : P28 78 29 = some 92 := by rw [← hP28, zu_s, zu_n _ _ (by omega), zu_n _ _ (by omega)]; exact p27_29
  have p28_30 : P28 78 30 = some 93 := by rw [← hP28, zu_s, zu_n _ _ (by omega), zu_n _ _ (by omega)]; exact p27_30
  have p28_31 : P28 78 31 = some 94 := by rw [← hP28, zu_s, zu_n _ _ (by omega), zu_n _ _ (by omega)]; exact p27_31
  have p28_36 : P28 78 36 = some 95 := by rw [← hP28, zu_s, zu_n _ _ (by omega), zu_n _ _ (by omega)]; exact p27_36
  have p28_37 : P28 78 37 = some 96 := by rw [← hP28, zu_s, zu_n _ _ (by omega), zu_n _ _ (by omega)]; exact p27_37
  have p28_38 : P28 78 38 = some 97 := by rw [← hP28, zu_s, zu_n _ _ (by omega), zu_n _ _ (by omega)]; exact p27_38
  have p28_39 : P28 78 39 = some 98 := by rw [← hP28, zu_s, zu_n _ _ (by omega), zu_n _ _ (by omega)]; exact p27_39
  have p28_40 : P28 78 40 = some 99 := by rw [← hP28, zu_s, zu_n _ _ (by omega), zu_n _ _ (by omega)]; exact p27_40
  have p28_41 : P28 78 41 = some 100 := by rw [← hP28, zu_s, zu_n _ _ (by omega), zu_n _ _ (by omega)]; exact p27_41
  have p28_42 : P28 78 42 = some 101 := by rw [← hP28, zu_s, zu_n _ _ (by omega), zu_n _ _ (by omega)]; exact p27_42
  have p28_43 : P28 78 43 = some 102 := by rw [← hP28, zu_s, zu_n _ _ (by omega), zu_n _ _ (by omega)]; exact p27_43
  have p28_44 : P28 78 44 = some 103 := by rw [← hP28, zu_s, zu_n _ _ (by omega), zu_n _ _ (by omega)]; exact p27_44
  have p28_45 : P28 78 45 = some 104 := by rw [← hP28, zu_s, zu_n _ _ (by omega), zu_n _ _ (by omega)]; exact p27_45
  have p28_46 : P28 78 46 = some 105 := by rw [← hP28, zu_s, zu_n _ _ (by omega), zu_n _ _ (by omega)]; exact p27_46
  clear hI28 hP28 z27 g27 s27 p27_1 p27_7 p27_9 p27_10 p27_11 p27_16 p27_17 p27_18 p27_19 p27_20 p27_25 p27_26 p27_28 p27_29 p27_30 p27_31 p27_36 p27_37 p27_38 p27_39 p27_40 p27_41 p27_42 p27_43 p27_44 p27_45 p27_46
  refine r_aload_n hV dX12_init_235 rfl rfl ?_
  refine s_sipush hV dX12_init_236 (6000) (by decide) ?_
  refine r_newarray hV _ dX12_init_239 ac_long (by first | rfl | assumption) ⟨by decide, rfl, by decide⟩ (by first | decide | omega) ?_
  refine r_putR hV dX12_init_241 fl_X12_100 pf_X12_100 (by first | decide | omega) (by first | rfl | assumption) ?_
  generalize hI29 : zu I28 107 (fun _ => 0) = I29
  generalize hP29 : zu (zu P28 107 (fun _ => none)) 78 (zu ((zu P28 107 (fun _ => none)) 78) 48 (some 107)) = P29
  have z29 : ∀ q, 78 < q → q < 108 → I29 q = fun _ => 0 := fun q h1 h2 => by
    rcases (show q = 107 ∨ q < 107 by omega) with rfl | h
    · rw [← hI29, zu_s]
    · rw [← hI29, zu_n _ _ (by omega)]; exact z28 q h1 h
  have g29 : ∀ q, q < 78 → I29 q = I q ∧ P29 q = P q := fun q h => ⟨by rw [← hI29, zu_n _ _ (by omega)]; exact (g28 q h).1, by rw [← hP29, zu_n _ _ (by omega), zu_n _ _ (by omega)]; exact (g28 q h).2⟩
  have s29 : I29 78 = I1a 78 := by rw [← hI29, zu_n _ _ (by omega)]; exact s28
  have p29_48 : P29 78 48 = some 107 := by rw [← hP29, zu_s, zu_s]
  have p29_1 : P29 78 1 = some 79 := by rw [← hP29, zu_s, zu_n _ _ (by omega), zu_n _ _ (by omega)]; exact p28_1
  have p29_7 : P29 78 7 = some 80 := by rw [← hP29, zu_s, zu_n _ _ (by omega), zu_n _ _ (by omega)]; exact p28_7
  have p29_9 : P29 78 9 = some 81 := by rw [← hP29, zu_s, zu_n _ _ (by omega), zu_n _ _ (by omega)]; exact p28_9
  have p29_10 : P29 78 10 = some 82 := by rw [← hP29, zu_s, zu_n _ _ (by omega), zu_n _ _ (by omega)]; exact p28_10
  have p29_11 : P29 78 11 = some 83 := by rw [← hP29, zu_s, zu_n _ _ (by omega), zu_n _ _ (by omega)]; exact p28_11
  have p29_16 : P29 78 16 = some 84 := by rw [← hP29, zu_s, zu_n _ _ (by omega), zu_n _ _ (by omega)]; exact p28_16
  have p29_17 : P29 78 17 = some 85 := by rw [← hP29, zu_s, zu_n _ _ (by omega), zu_n _ _ (by omega)]; exact p28_17
  have p29_18 : P29 78 18 = some 86 := by rw [← hP29, zu_s, zu_n _ _ (by omega), zu_n _ _ (by omega)]; exact p28_18
  have p29_19 : P29 78 19 = some 87 := by rw [← hP29, zu_s, zu_n _ _ (by omega), zu_n _ _ (by omega)]; exact p28_19
  have p29_20 : P29 78 20 = some 88 := by rw [← hP29, zu_s, zu_n _ _ (by omega), zu_n _ _ (by omega)]; exact p28_20
  have p29_25 : P29 78 25 = some 89 := by rw [← hP29, zu_s, zu_n _ _ (by omega), zu_n _ _ (by omega)]; exact p28_25
  have p29_26 : P29 78 26 = some 90 := by rw [← hP29, zu_s, zu_n _ _ (by omega), zu_n _ _ (by omega)]; exact p28_26
  have p29_28 : P29 78 28 = some 91 := by rw [← hP29, zu_s, zu_n _ _ (by omega), zu_n _ _ (by omega)]; exact p28_28
  have p29_29 : P29 78 29 = some 92 := by rw [← hP29, zu_s, zu_n _ _ (by omega), zu_n _ _ (by omega)]; exact p28_29
  have p29_30 : P29 78 30 = some 93 := by rw [← hP29, zu_s, zu_n _ _ (by omega), zu_n _ _ (by omega)]; exact p28_30
  have p29_31 : P29 78 31 = some 94 := by rw [← hP29, zu_s, zu_n _ _ (by omega), zu_n _ _ (by omega)]; exact p28_31
  have p29_36 : P29 78 36 = some 95 := by rw [← hP29, zu_s, zu_n _ _ (by omega), zu_n _ _ (by omega)]; exact p28_36
  have p29_37 : P29 78 37 = some 96 := by rw [← hP29, zu_s, zu_n _ _ (by omega), zu_n _ _ (by omega)]; exact p28_37
  have p29_38 : P29 78 38 = some 97 := by rw [← hP29, zu_s, zu_n _ _ (by omega), zu_n _ _ (by omega)]; exact p28_38
  have p29_39 : P29 78 39 = some 98 := by rw [← hP29, zu_s, zu_n _ _ (by omega), zu_n _ _ (by omega)]; exact p28_39
  have p29_40 : P29 78 40 = some 99 := by rw [← hP29, zu_s, zu_n _ _ (by omega), zu_n _ _ (by omega)]; exact p28_40
  have p29_41 : P29 78 41 = some 100 := by rw [← hP29, zu_s, zu_n _ _ (by omega), zu_n _ _ (by omega)]; exact p28_41
  have p29_42 : P29 78 42 = some 101 := by rw [← hP29, zu_s, zu_n _ _ (by omega), zu_n _ _ (by omega)]; exact p28_42
  have p29_43 : P29 78 43 = some 102 := by rw [← hP29, zu_s, zu_n _ _ (by omega), zu_n _ _ (by omega)]; exact p28_43
  have p29_44 : P29 78 44 = some 103 := by rw [← hP29, zu_s, zu_n _ _ (by omega), zu_n _ _ (by omega)]; exact p28_44
  have p29_45 : P29 78 45 = some 104 := by rw [← hP29, zu_s, zu_n _ _ (by omega), zu_n _ _ (by omega)]; exact p28_45
  have p29_46 : P29 78 46 = some 105 := by rw [← hP29, zu_s, zu_n _ _ (by omega), zu_n _ _ (by omega)]; exact p28_46
  have p29_47 : P29 78 47 = some 106 := by rw [← hP29, zu_s, zu_n _ _ (by omega), zu_n _ _ (by omega)]; exact p28_47
  clear hI29 hP29 z28 g28 s28 p28_1 p28_7 p28_9 p28_10 p28_11 p28_16 p28_17 p28_18 p28_19 p28_20 p28_25 p28_26 p28_28 p28_29 p28_30 p28_31 p28_36 p28_37 p28_38 p28_39 p28_40 p28_41 p28_42 p28_43 p28_44 p28_45 p28_46 p28_47
  refine s_iconst hV dX12_init_244 (0) (by decide) ?_
  refine r_istore_n hV dX12_init_245 (Nat.le_of_ble_eq_true rfl) (z_st1_2_1 rfl) ?_
  have L246 : ∀ (k246 j : Nat) (IX : zI) (JX : zJ), 36 - j < k246 → j ≤ 36 → (z_ar IX 80 (j : Int) (mRf (fun _ => 0))) → (∀ q, q ≠ 80 → IX q = I29 q) → V 108 IX JX P29 246 [.ref 78, .int (iI (j : Int))] [] := by
    intro k246
    induction k246 with
    | zero => intro j IX  JX  hk1 hk2; omega
    | succ k246 ih246 =>
      intro j IX  JX  hk246 hl246 hz hfr
      refine r_iload_n hV dX12_init_246 rfl ?_
      refine s_bipush hV dX12_init_247 (36) (by decide) ?_
      refine s_icmp_ge hV 281 dX12_init_249 (by decide) (by unfold z_rg; first | omega | (split <;> omega)) (by unfold z_rg; first | omega | (split <;> omega)) (fun c249 => ?_) (fun c249 => ?_)
      · refine r_vret hV dX12_init_281 rfl rfl ?_
        rw [show j = 36 by omega] at hz
        refine ⟨rfl, ⟨p29_1, p29_7, p29_9, p29_10, p29_11, p29_16, p29_17, p29_18, p29_19, p29_20, p29_25, p29_26, p29_28, p29_29, p29_30, p29_31, p29_36, p29_37, p29_38, p29_39, p29_40, p29_41, p29_42, p29_43, p29_44, p29_45, p29_46, p29_47, p29_48⟩, fun q h => ⟨(hfr q (by omega)).trans (g29 q h).1, (g29 q h).2⟩, (congrFun ((hfr 78 (by omega)).trans s29) 4).trans q4, fun k h => (congrFun ((hfr 78 (by omega)).trans s29) k).trans (qk k h), hz, fun q h1 h2 h3 => (hfr q h3).trans (z29 q h1 h2)⟩
      · refine r_aload_n hV dX12_init_252 rfl rfl ?_
        refine r_getR hV dX12_init_253 fl_X12_17 (by first | decide | omega) (by first | rfl | assumption) p29_7 ?_
        refine r_iload_n hV dX12_init_256 rfl ?_
        refine r_iload_n hV dX12_init_257 rfl ?_
        refine s_bipush hV dX12_init_258 (6) (by decide) ?_
        refine s_idiv hV dX12_init_260 (by unfold z_rg; first | omega | (split <;> omega)) (by unfold z_rg; first | omega | (split <;> omega)) (by omega) (by omega) ?_
        refine r_iload_n hV dX12_init_261 rfl ?_
        refine s_bipush hV dX12_init_262 (6) (by decide) ?_
        refine s_irem hV dX12_init_264 (by unfold z_rg; first | omega | (split <;> omega)) (by unfold z_rg; first | omega | (split <;> omega)) (by omega) (by omega) ?_
        refine s_icmp_ne hV 272 dX12_init_265 (by decide) (by unfold z_rg; first | omega | (split <;> omega)) (by unfold z_rg; first | omega | (split <;> omega)) (fun c265 => ?_) (fun c265 => ?_)
        · refine s_ldc hV dX12_init_272 ct_X12_103 (99999) (by decide) ?_
          first
            | rw [show iI 99999 = iI (mRf (fun _ => 0) (j : Int)) by unfold mRf; rw [if_neg (by omega), if_pos rfl]]
            | rw [show iI 0 = iI (mRf (fun _ => 0) (j : Int)) by unfold mRf; rw [if_pos (by omega)]]
          refine s_iastore hV dX12_init_274 (by first | decide | omega) (by first | rfl | assumption) (by decide) (by omega) (by omega) ?_
          refine s_iinc hV dX12_init_275 rfl (z_st1_2_1 rfl) ?_
          refine r_goto hV 246 dX12_init_278 (by decide) ?_
          exact ih246 (j + 1) _ _ (by omega) (by omega) (z_ar_push hz) (fun q h => by rw [zu_n _ _ h]; exact hfr q h)
        · refine s_iconst hV dX12_init_268 (0) (by decide) ?_
          refine r_goto hV 274 dX12_init_269 (by decide) ?_
          first
            | rw [show iI 99999 = iI (mRf (fun _ => 0) (j : Int)) by unfold mRf; rw [if_neg (by omega), if_pos rfl]]
            | rw [show iI 0 = iI (mRf (fun _ => 0) (j : Int)) by unfold mRf; rw [if_pos (by omega)]]
          refine s_iastore hV dX12_init_274 (by first | decide | omega) (by first | rfl | assumption) (by decide) (by omega) (by omega) ?_
          refine s_iinc hV dX12_init_275 rfl (z_st1_2_1 rfl) ?_
          refine r_goto hV 246 dX12_init_278 (by decide) ?_
          exact ih246 (j + 1) _ _ (by omega) (by omega) (z_ar_push hz) (fun q h => by rw [zu_n _ _ h]; exact hfr q h)
  exact L246 37 0 I29 _ (by omega) (by omega) z_ar_0 (fun q h => rfl)

