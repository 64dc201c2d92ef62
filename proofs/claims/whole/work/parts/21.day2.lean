def q_road (I : zI) (J : zJ) (P : zP) (d : Nat) (r : Int) (R : Int → Int) (v : Option Value) (I1 : zI) (J1 : zJ) (P1 : zP) : Prop := v = none ∧ J1 = J ∧ P1 = P ∧ I1 d 0 = I d 0 ∧ I1 d 1 = I d 1 ∧ I1 d 2 = iI r ∧ I1 d 3 = I d 3 ∧ z_ar I1 (d + 1) 36 R ∧ ∀ q, q ≠ d → q ≠ d + 1 → I1 q = I q
set_option maxRecDepth 20000 in
theorem m_addRoad (I : zI) (J : zJ) (P : zP) (d : Nat) (hD : zDay P d) (n : Int) (hn : I d 0 = iI n) (hnb : 0 ≤ n ∧ n ≤ 6) (r : Int) (hr : I d 2 = iI r) (a : Int) (ha : z_rg a) (b : Int) (hb : z_rg b) (x : Int) (R : Int → Int) (hR : z_ar I (d + 1) 36 R) (hRb : z_bd R 36 0 99) (hfree : ((0 ≤ a ∧ a < n) ∧ (0 ≤ b ∧ b < n)) ∧ ¬ a = b ∧ R (a * 6 + b) = 0) : z_Sp 2 yX1_addRoad cX1_addRoad 4 none 108 108 I J P [.ref d, .int (iI a), .int (iI b), .int (iI x)] (q_road I J P d (r + 1) (zup (zup R (a * 6 + b) x) (b * 6 + a) x)) := by
  obtain ⟨hd, p4, p5, p6, p7, p8⟩ := id hD
  obtain ⟨hlt, s0, s1, s2, s3, s4, s5⟩ := zDay_s hD
  have ha1 := ha.1
  have ha2 := ha.2
  have hb1 := hb.1
  have hb2 := hb.2
  refine z_met false (by decide +kernel) (fun h => by cases h) (Nat.le_of_ble_eq_true rfl) (by first | decide | omega) (fun V hV => ?_)
  show V 108 I J P 0 [.ref d, .int (iI a), .int (iI b), .int (iI x)] []
  refine r_aload_n hV dX1_addRoad_0 rfl rfl ?_
  refine r_iload_n hV dX1_addRoad_1 rfl ?_
  refine r_iload_n hV dX1_addRoad_2 rfl ?_
  refine q_iv2v hV dX1_addRoad_3 mv_X1_60 (m_isFreePair I J P d hD n hn hnb a ha b hb R hR hRb) (by first | decide | omega) (by first | rfl | assumption) (by decide) (Nat.le_refl _) (Nat.le_of_ble_eq_true rfl) ?_
  rw [if_pos hfree]
  refine s_if_ne hV 10 dX1_addRoad_6 (by decide) (by unfold z_rg; omega) (fun _ => ?_) (fun c6 => absurd c6 (by decide))
  refine r_aload_n hV dX1_addRoad_10 rfl rfl ?_
  refine r_getR hV dX1_addRoad_11 fl_X1_9 (by first | decide | omega) (by first | rfl | assumption) (by first | assumption | rfl) ?_
  refine r_iload_n hV dX1_addRoad_14 rfl ?_
  refine s_bipush hV dX1_addRoad_15 (6) (by decide) ?_
  refine s_imul hV dX1_addRoad_17 ?_
  refine r_iload_n hV dX1_addRoad_18 rfl ?_
  refine s_iadd hV dX1_addRoad_19 ?_
  refine r_iload_n hV dX1_addRoad_20 rfl ?_
  refine s_iastore hV dX1_addRoad_21 (by first | decide | omega) (by first | rfl | assumption) (by decide) (by omega) (by omega) ?_
  refine r_aload_n hV dX1_addRoad_22 rfl rfl ?_
  refine r_getR hV dX1_addRoad_23 fl_X1_9 (by first | decide | omega) (by first | rfl | assumption) (by first | assumption | rfl) ?_
  refine r_iload_n hV dX1_addRoad_26 rfl ?_
  refine s_bipush hV dX1_addRoad_27 (6) (by decide) ?_
  refine s_imul hV dX1_addRoad_29 ?_
  refine r_iload_n hV dX1_addRoad_30 rfl ?_
  refine s_iadd hV dX1_addRoad_31 ?_
  refine r_iload_n hV dX1_addRoad_32 rfl ?_
  refine s_iastore hV dX1_addRoad_33 (by first | decide | omega) (by first | rfl | assumption) (by decide) (by omega) (by omega) ?_
  refine r_aload_n hV dX1_addRoad_34 rfl rfl ?_
  refine r_dup hV dX1_addRoad_35 rfl ?_
  refine r_getI hV dX1_addRoad_36 fl_X1_50 (by first | decide | omega) (by first | rfl | assumption) (Eq.trans (by rw [zu_n _ _ (by omega), zu_n _ _ (by omega)]) hr) ?_
  refine s_iconst hV dX1_addRoad_39 (1) (by decide) ?_
  refine s_iadd hV dX1_addRoad_40 ?_
  refine r_putI hV dX1_addRoad_41 fl_X1_50 (pf_X1_50 _) (z_okI_int rfl _) (by first | decide | omega) (by first | rfl | assumption) ?_
  refine r_vret hV dX1_addRoad_44 rfl rfl ?_
  refine ⟨rfl, rfl, rfl, ?_, ?_, ?_, ?_, ?_, ?_⟩
  · simp [zu]
  · simp [zu]
  · simp [zu]
  · simp [zu]
  · exact z_ar_fr (z_ar_set (z_ar_set hR (by omega) x) (by omega) x) (zu_n _ _ (by omega))
  · intro q h1 h2
    rw [zu_n _ _ h1, zu_n _ _ h2, zu_n _ _ h2]

def q_err (I : zI) (J : zJ) (P : zP) (d : Nat) (e : Int) (W U K : Int → Int) (v : Option Value) (I1 : zI) (J1 : zJ) (P1 : zP) : Prop := v = none ∧ J1 = J ∧ P1 = P ∧ I1 d 0 = I d 0 ∧ I1 d 1 = I d 1 ∧ I1 d 2 = I d 2 ∧ I1 d 3 = iI e ∧ z_ar I1 (d + 3) 6 W ∧ z_ar I1 (d + 4) 6 U ∧ z_ar I1 (d + 5) 6 K ∧ ∀ q, q ≠ d → q ≠ d + 3 → q ≠ d + 4 → q ≠ d + 5 → I1 q = I q
set_option maxRecDepth 20000 in
theorem m_addErrand (I : zI) (J : zJ) (P : zP) (d : Nat) (hD : zDay P d) (e : Int) (he : I d 3 = iI e) (heb : 0 ≤ e ∧ e ≤ 6) (he6 : e < 6) (x y z : Int) (W U K : Int → Int) (hW : z_ar I (d + 3) 6 W) (hU : z_ar I (d + 4) 6 U) (hK : z_ar I (d + 5) 6 K) : z_Sp 1 yX1_addErrand cX1_addErrand 4 none 108 108 I J P [.ref d, .int (iI x), .int (iI y), .int (iI z)] (q_err I J P d (e + 1) (zup W e x) (zup U e y) (zup K e z)) := by
  obtain ⟨hd, p4, p5, p6, p7, p8⟩ := id hD
  obtain ⟨hlt, s0, s1, s2, s3, s4, s5⟩ := zDay_s hD
  refine z_met false (by decide +kernel) (fun h => by cases h) (Nat.le_of_ble_eq_true rfl) (by first | decide | omega) (fun V hV => ?_)
  show V 108 I J P 0 [.ref d, .int (iI x), .int (iI y), .int (iI z)] []
  refine r_aload_n hV dX1_addErrand_0 rfl rfl ?_
  refine q_iv0v hV dX1_addErrand_1 mv_X1_64 (m_hasRoomForErrand I J P d hD e he heb) (by first | decide | omega) (by first | rfl | assumption) (by decide) (Nat.le_refl _) (Nat.le_of_ble_eq_true rfl) ?_
  rw [if_pos he6]
  refine s_if_ne hV 8 dX1_addErrand_4 (by decide) (by unfold z_rg; omega) (fun _ => ?_) (fun c4 => absurd c4 (by decide))
  refine r_aload_n hV dX1_addErrand_8 rfl rfl ?_
  refine r_getR hV dX1_addErrand_9 fl_X1_18 (by first | decide | omega) (by first | rfl | assumption) (by first | assumption | rfl) ?_
  refine r_aload_n hV dX1_addErrand_12 rfl rfl ?_
  refine r_getI hV dX1_addErrand_13 fl_X1_53 (by first | decide | omega) (by first | rfl | assumption) he ?_
  refine r_iload_n hV dX1_addErrand_16 rfl ?_
  refine s_iastore hV dX1_addErrand_17 (by first | decide | omega) (by first | rfl | assumption) (by decide) (by omega) (by omega) ?_
  generalize hI1 : zu I (d + 3) (zu (I (d + 3)) e.toNat (iI x)) = I1
  have hfI1 : ∀ q, q ≠ d + 3 → I1 q = I q := fun q h => by rw [← hI1]; exact zu_n _ _ h
  have hW1 : z_ar I1 (d + 3) 6 (zup W e x) := hI1 ▸ z_ar_set hW (by omega) x
  refine r_aload_n hV dX1_addErrand_18 rfl rfl ?_
  refine r_getR hV dX1_addErrand_19 fl_X1_21 (by first | decide | omega) (by first | rfl | assumption) (by first | assumption | rfl) ?_
  refine r_aload_n hV dX1_addErrand_22 rfl rfl ?_
  refine r_getI hV dX1_addErrand_23 fl_X1_53 (by first | decide | omega) (by first | rfl | assumption) ((congrFun (hfI1 _ (by omega)) _).trans (he)) ?_
  refine r_iload_n hV dX1_addErrand_26 rfl ?_
  refine s_iastore hV dX1_addErrand_27 (by first | decide | omega) (by first | rfl | assumption) (by decide) (by omega) (by omega) ?_
  generalize hI2 : zu I1 (d + 4) (zu (I1 (d + 4)) e.toNat (iI y)) = I2
  have hfI2 : ∀ q, q ≠ d + 4 → I2 q = I1 q := fun q h => by rw [← hI2]; exact zu_n _ _ h
  have hU1 : z_ar I2 (d + 4) 6 (zup U e y) := hI2 ▸ z_ar_set (z_ar_fr hU (hfI1 _ (by omega))) (by omega) y
  refine r_aload_n hV dX1_addErrand_28 rfl rfl ?_
  refine r_getR hV dX1_addErrand_29 fl_X1_24 (by first | decide | omega) (by first | rfl | assumption) (by first | assumption | rfl) ?_
  refine r_aload_n hV dX1_addErrand_32 rfl rfl ?_
  refine r_getI hV dX1_addErrand_33 fl_X1_53 (by first | decide | omega) (by first | rfl | assumption) ((congrFun (hfI2 _ (by omega)) _).trans (((congrFun (hfI1 _ (by omega)) _).trans (he)))) ?_
  refine r_iload_n hV dX1_addErrand_36 rfl ?_
  refine s_iastore hV dX1_addErrand_37 (by first | decide | omega) (by first | rfl | assumption) (by decide) (by omega) (by omega) ?_
  generalize hI3 : zu I2 (d + 5) (zu (I2 (d + 5)) e.toNat (iI z)) = I3
  have hfI3 : ∀ q, q ≠ d + 5 → I3 q = I2 q := fun q h => by rw [← hI3]; exact zu_n _ _ h
  have hK1 : z_ar I3 (d + 5) 6 (zup K e z) := hI3 ▸ z_ar_set (z_ar_fr (z_ar_fr hK (hfI1 _ (by omega))) (hfI2 _ (by omega))) (by omega) z
  have hd3 : I3 d = I d := (hfI3 _ (by omega)).trans ((hfI2 _ (by omega)).trans (hfI1 _ (by omega)))
  refine r_aload_n hV dX1_addErrand_38 rfl rfl ?_
  refine r_dup hV dX1_addErrand_39 rfl ?_
  refine r_getI hV dX1_addErrand_40 fl_X1_53 (by first | decide | omega) (by first | rfl | assumption) ((congrFun hd3 _).trans he) ?_
  refine s_iconst hV dX1_addErrand_43 (1) (by decide) ?_
  refine s_iadd hV dX1_addErrand_44 ?_
  refine r_putI hV dX1_addErrand_45 fl_X1_53 (pf_X1_53 _) (z_okI_int rfl _) (by first | decide | omega) (by first | rfl | assumption) ?_
  refine r_vret hV dX1_addErrand_48 rfl rfl ?_
  refine ⟨rfl, rfl, rfl, ?_, ?_, ?_, ?_, ?_, ?_, ?_, ?_⟩
  · simp [zu, hd3]
  · simp [zu, hd3]
  · simp [zu, hd3]
  · simp [zu]
  · exact z_ar_fr hW1 (by rw [zu_n _ _ (by omega), hfI3 _ (by omega), hfI2 _ (by omega)])
  · exact z_ar_fr hU1 (by rw [zu_n _ _ (by omega), hfI3 _ (by omega)])
  · exact z_ar_fr hK1 (zu_n _ _ (by omega))
  · intro q h1 h2 h3 h4
    rw [zu_n _ _ h1, hfI3 _ h4, hfI2 _ h3, hfI1 _ h2]

def q_dbeg (I : zI) (J : zJ) (P : zP) (d : Nat) (p st : Int) (v : Option Value) (I1 : zI) (J1 : zJ) (P1 : zP) : Prop := v = none ∧ J1 = J ∧ P1 = P ∧ I1 d 0 = iI p ∧ I1 d 1 = iI st ∧ I1 d 2 = iI 0 ∧ I1 d 3 = iI 0 ∧ z_ar I1 (d + 1) 36 (fun _ => 0) ∧ ∀ q, q ≠ d → q ≠ d + 1 → I1 q = I q
set_option maxRecDepth 20000 in
theorem m_dbegin (N0 : Nat) (I : zI) (J : zJ) (P : zP) (d : Nat) (hd0 : d + 1 < N0) (p4 : P d 4 = some (d + 1)) (s0 : zSH d = .inl 1) (s1 : zSH (d + 1) = .inr (.int, 36)) (p st : Int) (hp : 2 ≤ p ∧ p ≤ 6) : z_Sp 1 yX1_begin cX1_begin 4 none N0 N0 I J P [.ref d, .int (iI p), .int (iI st)] (q_dbeg I J P d p st) := by
  refine z_met false (by decide +kernel) (fun h => by cases h) (Nat.le_of_ble_eq_true rfl) (by first | decide | omega) (fun V hV => ?_)
  show V N0 I J P 0 [.ref d, .int (iI p), .int (iI st), .null] []
  refine r_aload_n hV dX1_begin_0 rfl rfl ?_
  refine s_iconst hV dX1_begin_1 (2) (by decide) ?_
  refine s_bipush hV dX1_begin_2 (6) (by decide) ?_
  refine r_iload_n hV dX1_begin_4 rfl ?_
  refine s_mmin hV dX1_begin_5 mx_X1_34 (by decide) (Nat.le_of_ble_eq_true rfl) (by unfold z_rg; omega) (by unfold z_rg; omega) ?_
  refine s_mmax hV dX1_begin_8 mx_X1_40 (by decide) (Nat.le_of_ble_eq_true rfl) (by unfold z_rg; omega) (by unfold z_rg; omega) ?_
  rw [show max 2 (min 6 p) = p by omega]
  refine r_putI hV dX1_begin_11 fl_X1_43 (pf_X1_43 _) (z_okI_int rfl _) (by first | decide | omega) (by first | rfl | assumption) ?_
  refine r_aload_n hV dX1_begin_14 rfl rfl ?_
  refine r_iload_n hV dX1_begin_15 rfl ?_
  refine r_putI hV dX1_begin_16 fl_X1_47 (pf_X1_47 _) (z_okI_int rfl _) (by first | decide | omega) (by first | rfl | assumption) ?_
  refine r_aload_n hV dX1_begin_19 rfl rfl ?_
  refine s_iconst hV dX1_begin_20 (0) (by decide) ?_
  refine r_putI hV dX1_begin_21 fl_X1_50 (pf_X1_50 _) (z_okI_int rfl _) (by first | decide | omega) (by first | rfl | assumption) ?_
  refine r_aload_n hV dX1_begin_24 rfl rfl ?_
  refine s_iconst hV dX1_begin_25 (0) (by decide) ?_
  refine r_putI hV dX1_begin_26 fl_X1_53 (pf_X1_53 _) (z_okI_int rfl _) (by first | decide | omega) (by first | rfl | assumption) ?_
  refine s_iconst hV dX1_begin_29 (0) (by decide) ?_
  refine r_istore_n hV dX1_begin_30 (Nat.le_of_ble_eq_true rfl) rfl ?_
  have L31 : ∀ (k31 j : Nat) (I1 : zI), 36 - j < k31 → j ≤ 36 → (I1 d 0 = iI p) → (I1 d 1 = iI st) → (I1 d 2 = iI 0) → (I1 d 3 = iI 0) → (z_ar I1 (d + 1) (j : Int) (fun _ => 0)) → (∀ q, q ≠ d → q ≠ d + 1 → I1 q = I q) → V N0 I1 J P 31 [.ref d, .int (iI p), .int (iI st), .int (iI (j : Int))] [] := by
    intro k31
    induction k31 with
    | zero => intro j I1  hk1 hk2; omega
    | succ k31 ih31 =>
      intro j I1  hk31 hl31 h0 h1 h2 h3 hz hfr
      refine r_iload_n hV dX1_begin_31 rfl ?_
      refine s_bipush hV dX1_begin_32 (36) (by decide) ?_
      refine s_icmp_ge hV 50 dX1_begin_34 (by decide) (by unfold z_rg; omega) (by unfold z_rg; omega) (fun c34 => ?_) (fun c34 => ?_)
      · refine r_vret hV dX1_begin_50 rfl rfl ?_
        exact ⟨rfl, rfl, rfl, h0, h1, h2, h3, z_ar_le hz (by omega), hfr⟩
      · refine r_aload_n hV dX1_begin_37 rfl rfl ?_
        refine r_getR hV dX1_begin_38 fl_X1_9 (by first | decide | omega) (by first | rfl | assumption) (by first | assumption | rfl) ?_
        refine r_iload_n hV dX1_begin_41 rfl ?_
        refine s_iconst hV dX1_begin_42 (0) (by decide) ?_
        refine s_iastore hV dX1_begin_43 (by first | decide | omega) (by first | rfl | assumption) (by decide) (by omega) (by omega) ?_
        refine s_iinc hV dX1_begin_44 rfl rfl ?_
        refine r_goto hV 31 dX1_begin_47 (by decide) ?_
        exact ih31 (j + 1) _ (by omega) (by omega) (by rw [zu_n _ _ (by omega)]; exact h0) (by rw [zu_n _ _ (by omega)]; exact h1) (by rw [zu_n _ _ (by omega)]; exact h2) (by rw [zu_n _ _ (by omega)]; exact h3) (z_ar_push hz) (fun q a b => by rw [zu_n _ _ b]; exact hfr q a b)
  exact L31 37 0 _ (by omega) (by omega) (by simp [zu]) (by simp [zu]) (by simp [zu]) (by simp [zu]) z_ar_0 (fun q a b => by simp [zu, a])

def f_c0 (R : Int → Int) (z : Int) : Int := if 0 < R z then R z else 1000000
def f_dg (p : Nat) (f : Int → Int) : Int → Int := zup f ((p : Int) * 6 + p) 0
def f_fb (k a b : Nat) (f : Int → Int) : Int → Int := if f ((a : Int) * 6 + k) + f ((k : Int) * 6 + b) < f ((a : Int) * 6 + b) then zup f ((a : Int) * 6 + b) (f ((a : Int) * 6 + k) + f ((k : Int) * 6 + b)) else f
def f_fa (k a : Nat) (f : Int → Int) : Int → Int := zit (f_fb k a) 6 f
def f_fk (k : Nat) (f : Int → Int) : Int → Int := zit (f_fa k) 6 f
def f_ms (R : Int → Int) : Int → Int := zit f_fk 6 (zit f_dg 6 (f_c0 R))
theorem z_bd_fb {f : Int → Int} {k a b : Nat} (hk : k < 6) (ha : a < 6) (hb : b < 6) (h : z_bd f 36 0 1000000) : z_bd (f_fb k a b f) 36 0 1000000 := by
  unfold f_fb
  have h1 := h ((a : Int) * 6 + k) (by omega) (by omega)
  have h2 := h ((k : Int) * 6 + b) (by omega) (by omega)
  have h3 := h ((a : Int) * 6 + b) (by omega) (by omega)
  split
  · exact z_bd_up h (by omega) (by omega)
  · exact h
def q_meas (I : zI) (J : zJ) (P : zP) (d : Nat) (D : Int → Int) (v : Option Value) (I1 : zI) (J1 : zJ) (P1 : zP) : Prop := v = none ∧ J1 = J ∧ P1 = P ∧ z_ar I1 (d + 2) 36 D ∧ z_bd D 36 0 1000000 ∧ ∀ q, q ≠ d + 2 → I1 q = I q
set_option maxRecDepth 20000 in
theorem m_measure (N0 : Nat) (I : zI) (J : zJ) (P : zP) (d : Nat) (hd0 : d + 2 < N0) (p4 : P d 4 = some (d + 1)) (p5 : P d 5 = some (d + 2)) (s0 : zSH d = .inl 1) (s1 : zSH (d + 1) = .inr (.int, 36)) (s2 : zSH (d + 2) = .inr (.int, 36)) (R : Int → Int) (hR : z_ar I (d + 1) 36 R) (hRb : z_bd R 36 0 99) : z_Sp 0 yX1_measure cX1_measure 5 none N0 N0 I J P [.ref d] (q_meas I J P d (f_ms R)) := by
  refine z_met false (by decide +kernel) (fun h => by cases h) (Nat.le_of_ble_eq_true rfl) (by first | decide | omega) (fun V hV => ?_)
  show V N0 I J P 0 [.ref d, .null, .null, .null, .null] []
  refine s_iconst hV dX1_measure_0 (0) (by decide) ?_
  refine r_istore_n hV dX1_measure_1 (Nat.le_of_ble_eq_true rfl) rfl ?_
  have L2 : ∀ (k2 j : Nat) (I1 : zI), 36 - j < k2 → j ≤ 36 → (z_ar I1 (d + 2) (j : Int) (f_c0 R)) → (∀ q, q ≠ d + 2 → I1 q = I q) → V N0 I1 J P 2 [.ref d, .int (iI (j : Int)), .null, .null, .null] [] := by
    intro k2
    induction k2 with
    | zero => intro j I1  hk1 hk2; omega
    | succ k2 ih2 =>
      intro j I1  hk2 hl2 hz hfr
      have hnx : ∀ t : Int, t = f_c0 R (j : Int) → j < 36 → V N0 (zu I1 (d + 2) (zu (I1 (d + 2)) (j : Int).toNat (iI t))) J P 2 [.ref d, .int (iI ((j : Int) + 1)), .null, .null, .null] [] := fun t ht hj => by subst ht; exact ih2 (j + 1) _ (by omega) (by omega) (z_ar_push hz) (fun q a => by rw [zu_n _ _ a]; exact hfr q a)
      refine r_iload_n hV dX1_measure_2 rfl ?_
      refine s_bipush hV dX1_measure_3 (36) (by decide) ?_
      refine s_icmp_ge hV 40 dX1_measure_5 (by decide) (by unfold z_rg; omega) (by unfold z_rg; omega) (fun c5 => ?_) (fun c5 => ?_)
      · refine s_iconst hV dX1_measure_40 (0) (by decide) ?_
        refine r_istore_n hV dX1_measure_41 (Nat.le_of_ble_eq_true rfl) rfl ?_
        have L42 : ∀ (k42 j : Nat) (I1 : zI), 6 - j < k42 → j ≤ 6 → (z_ar I1 (d + 2) 36 (zit f_dg j (f_c0 R))) → (z_bd (zit f_dg j (f_c0 R)) 36 0 1000000) → (∀ q, q ≠ d + 2 → I1 q = I q) → V N0 I1 J P 42 [.ref d, .int (iI (j : Int)), .null, .null, .null] [] := by
          intro k42
          induction k42 with
          | zero => intro j I1  hk1 hk2; omega
          | succ k42 ih42 =>
            intro j I1  hk42 hl42 hz hzb hfr
            refine r_iload_n hV dX1_measure_42 rfl ?_
            refine s_bipush hV dX1_measure_43 (6) (by decide) ?_
            refine s_icmp_ge hV 66 dX1_measure_45 (by decide) (by unfold z_rg; omega) (by unfold z_rg; omega) (fun c45 => ?_) (fun c45 => ?_)
            · rw [show j = 6 by omega] at hz hzb
              generalize hg : zit f_dg 6 (f_c0 R) = g0 at hz hzb
              refine s_iconst hV dX1_measure_66 (0) (by decide) ?_
              refine r_istore_n hV dX1_measure_67 (Nat.le_of_ble_eq_true rfl) rfl ?_
              have L68 : ∀ (k68 j : Nat) (I1 : zI), 6 - j < k68 → j ≤ 6 → (z_ar I1 (d + 2) 36 (zit f_fk j g0)) → (z_bd (zit f_fk j g0) 36 0 1000000) → (∀ q, q ≠ d + 2 → I1 q = I q) → V N0 I1 J P 68 [.ref d, .int (iI (j : Int)), .null, .null, .null] [] := by
                intro k68
                induction k68 with
                | zero => intro j I1  hk1 hk2; omega
                | succ k68 ih68 =>
                  intro j I1  hk68 hl68 hz hzb hfr
                  refine r_iload_n hV dX1_measure_68 rfl ?_
                  refine s_bipush hV dX1_measure_69 (6) (by decide) ?_
                  refine s_icmp_ge hV 162 dX1_measure_71 (by decide) (by unfold z_rg; omega) (by unfold z_rg; omega) (fun c71 => ?_) (fun c71 => ?_)
                  · refine r_vret hV dX1_measure_162 rfl rfl ?_
                    rw [show j = 6 by omega] at hz hzb
                    subst hg
                    exact ⟨rfl, rfl, rfl, hz, hzb, hfr⟩
                  · generalize hg1 : zit f_fk j g0 = g1 at hz hzb
                    refine s_iconst hV dX1_measure_74 (0) (by decide) ?_
                    refine r_istore_n hV dX1_measure_75 (Nat.le_of_ble_eq_true rfl) rfl ?_
                    have L76 : ∀ (k76 a : Nat) (I1 : zI), 6 - a < k76 → a ≤ 6 → (z_ar I1 (d + 2) 36 (zit (f_fa j) a g1)) → (z_bd (zit (f_fa j) a g1) 36 0 1000000) → (∀ q, q ≠ d + 2 → I1 q = I q) → V N0 I1 J P 76 [.ref d, .int (iI (j : Int)), .int (iI (a : Int)), .null, .null] [] := by
                      intro k76
                      induction k76 with
                      | zero => intro a I1  hk1 hk2; omega
                      | succ k76 ih76 =>
                        intro a I1  hk76 hl76 hz hzb hfr
                        refine r_iload_n hV dX1_measure_76 rfl ?_
                        refine s_bipush hV dX1_measure_77 (6) (by decide) ?_
                        refine s_icmp_ge hV 156 dX1_measure_79 (by decide) (by unfold z_rg; omega) (by unfold z_rg; omega) (fun c79 => ?_) (fun c79 => ?_)
                        · refine s_iinc hV dX1_measure_156 rfl rfl ?_
                          refine r_goto hV 68 dX1_measure_159 (by decide) ?_
                          refine r_kill hV 2 rfl ?_
                          exact ih68 (j + 1) _ (by omega) (by omega) (by rw [show a = 6 by omega] at hz; rw [zit, hg1, f_fk]; exact hz) (by rw [show a = 6 by omega] at hzb; rw [zit, hg1, f_fk]; exact hzb) hfr
                        · generalize hg2 : zit (f_fa j) a g1 = g2 at hz hzb
                          refine s_iconst hV dX1_measure_82 (0) (by decide) ?_
                          refine r_istore_n hV dX1_measure_83 (Nat.le_of_ble_eq_true rfl) rfl ?_
                          have L84 : ∀ (k84 b : Nat) (I1 : zI), 6 - b < k84 → b ≤ 6 → (z_ar I1 (d + 2) 36 (zit (f_fb j a) b g2)) → (z_bd (zit (f_fb j a) b g2) 36 0 1000000) → (∀ q, q ≠ d + 2 → I1 q = I q) → V N0 I1 J P 84 [.ref d, .int (iI (j : Int)), .int (iI (a : Int)), .int (iI (b : Int)), .null] [] := by
                            intro k84
                            induction k84 with
                            | zero => intro b I1  hk1 hk2; omega
                            | succ k84 ih84 =>
                              intro b I1  hk84 hl84 hz hzb hfr
                              refine r_iload_n hV dX1_measure_84 rfl ?_
                              refine s_bipush hV dX1_measure_85 (6) (by decide) ?_
                              refine s_icmp_ge hV 150 dX1_measure_87 (by decide) (by unfold z_rg; omega) (by unfold z_rg; omega) (fun c87 => ?_) (fun c87 => ?_)
                              · refine s_iinc hV dX1_measure_150 rfl rfl ?_
                                refine r_goto hV 76 dX1_measure_153 (by decide) ?_
                                refine r_kill hV 3 rfl ?_
                                exact ih76 (a + 1) _ (by omega) (by omega) (by rw [show b = 6 by omega] at hz; rw [zit, hg2, f_fa]; exact hz) (by rw [show b = 6 by omega] at hzb; rw [zit, hg2, f_fa]; exact hzb) hfr
                              · refine r_aload_n hV dX1_measure_90 rfl rfl ?_
                                refine r_getR hV dX1_measure_91 fl_X1_15 (by first | decide | omega) (by first | rfl | assumption) (by first | assumption | rfl) ?_
                                refine r_iload_n hV dX1_measure_94 rfl ?_
                                refine s_bipush hV dX1_measure_95 (6) (by decide) ?_
                                refine s_imul hV dX1_measure_97 ?_
                                refine r_iload_n hV dX1_measure_98 rfl ?_
                                refine s_iadd hV dX1_measure_99 ?_
                                refine s_iaload hV dX1_measure_100 (by first | decide | omega) (by first | rfl | assumption) (by decide) (by omega) (by omega) (hz _ (by omega) (by omega)) ?_
                                refine r_aload_n hV dX1_measure_101 rfl rfl ?_
                                refine r_getR hV dX1_measure_102 fl_X1_15 (by first | decide | omega) (by first | rfl | assumption) (by first | assumption | rfl) ?_
                                refine r_iload_n hV dX1_measure_105 rfl ?_
                                refine s_bipush hV dX1_measure_106 (6) (by decide) ?_
                                refine s_imul hV dX1_measure_108 ?_
                                refine r_iload_n hV dX1_measure_109 rfl ?_
                                refine s_iadd hV dX1_measure_110 ?_
                                refine s_iaload hV dX1_measure_111 (by first | decide | omega) (by first | rfl | assumption) (by decide) (by omega) (by omega) (hz _ (by omega) (by omega)) ?_
                                refine s_iadd hV dX1_measure_112 ?_
                                refine r_istore hV dX1_measure_113 (Nat.le_of_ble_eq_true rfl) rfl ?_
                                refine r_iload hV dX1_measure_115 rfl ?_
                                refine r_aload_n hV dX1_measure_117 rfl rfl ?_
                                refine r_getR hV dX1_measure_118 fl_X1_15 (by first | decide | omega) (by first | rfl | assumption) (by first | assumption | rfl) ?_
                                refine r_iload_n hV dX1_measure_121 rfl ?_
                                refine s_bipush hV dX1_measure_122 (6) (by decide) ?_
                                refine s_imul hV dX1_measure_124 ?_
                                refine r_iload_n hV dX1_measure_125 rfl ?_
                                refine s_iadd hV dX1_measure_126 ?_
                                refine s_iaload hV dX1_measure_127 (by first | decide | omega) (by first | rfl | assumption) (by decide) (by omega) (by omega) (hz _ (by omega) (by omega)) ?_
                                have b1 := hzb ((a : Int) * 6 + j) (by omega) (by omega)
                                have b2 := hzb ((j : Int) * 6 + b) (by omega) (by omega)
                                have b3 := hzb ((a : Int) * 6 + b) (by omega) (by omega)
                                refine s_icmp_ge hV 144 dX1_measure_128 (by decide) (by unfold z_rg; omega) (by unfold z_rg; omega) (fun c128 => ?_) (fun c128 => ?_)
                                · refine s_iinc hV dX1_measure_144 rfl rfl ?_
                                  refine r_goto hV 84 dX1_measure_147 (by decide) ?_
                                  refine r_kill hV 4 rfl ?_
                                  exact ih84 (b + 1) _ (by omega) (by omega) (by first | (rw [zit, f_fb, if_pos (by omega)]; exact z_ar_set hz (by omega) _) | (rw [zit, f_fb, if_neg (by omega)]; exact hz)) (z_bd_fb (by omega) (by omega) (by omega) hzb) (fun q h => by first | exact hfr q h | (rw [zu_n _ _ h]; exact hfr q h))
                                · refine r_aload_n hV dX1_measure_131 rfl rfl ?_
                                  refine r_getR hV dX1_measure_132 fl_X1_15 (by first | decide | omega) (by first | rfl | assumption) (by first | assumption | rfl) ?_
                                  refine r_iload_n hV dX1_measure_135 rfl ?_
                                  refine s_bipush hV dX1_measure_136 (6) (by decide) ?_
                                  refine s_imul hV dX1_measure_138 ?_
                                  refine r_iload_n hV dX1_measure_139 rfl ?_
                                  refine s_iadd hV dX1_measure_140 ?_
                                  refine r_iload hV dX1_measure_141 rfl ?_
                                  refine s_iastore hV dX1_measure_143 (by first | decide | omega) (by first | rfl | assumption) (by decide) (by omega) (by omega) ?_
                                  refine s_iinc hV dX1_measure_144 rfl rfl ?_
                                  refine r_goto hV 84 dX1_measure_147 (by decide) ?_
                                  refine r_kill hV 4 rfl ?_
                                  exact ih84 (b + 1) _ (by omega) (by omega) (by first | (rw [zit, f_fb, if_pos (by omega)]; exact z_ar_set hz (by omega) _) | (rw [zit, f_fb, if_neg (by omega)]; exact hz)) (z_bd_fb (by omega) (by omega) (by omega) hzb) (fun q h => by first | exact hfr q h | (rw [zu_n _ _ h]; exact hfr q h))
                          exact L84 7 0 _ (by omega) (by omega) hz hzb hfr
                    exact L76 7 0 _ (by omega) (by omega) hz hzb hfr
              exact L68 7 0 _ (by omega) (by omega) hz hzb hfr
            · refine r_aload_n hV dX1_measure_48 rfl rfl ?_
              refine r_getR hV dX1_measure_49 fl_X1_15 (by first | decide | omega) (by first | rfl | assumption) (by first | assumption | rfl) ?_
              refine r_iload_n hV dX1_measure_52 rfl ?_
              refine s_bipush hV dX1_measure_53 (6) (by decide) ?_
              refine s_imul hV dX1_measure_55 ?_
              refine r_iload_n hV dX1_measure_56 rfl ?_
              refine s_iadd hV dX1_measure_57 ?_
              refine s_iconst hV dX1_measure_58 (0) (by decide) ?_
              refine s_iastore hV dX1_measure_59 (by first | decide | omega) (by first | rfl | assumption) (by decide) (by omega) (by omega) ?_
              refine s_iinc hV dX1_measure_60 rfl rfl ?_
              refine r_goto hV 42 dX1_measure_63 (by decide) ?_
              exact ih42 (j + 1) _ (by omega) (by omega) (z_ar_set hz (by omega) 0) (z_bd_up hzb (by omega) (by omega)) (fun q a => by rw [zu_n _ _ a]; exact hfr q a)
        exact L42 7 0 _ (by omega) (by omega) (z_ar_le hz (by omega)) (fun z h0 h1 => by unfold zit f_c0; have := hRb z h0 h1; split <;> omega) hfr
      · refine r_aload_n hV dX1_measure_8 rfl rfl ?_
        refine r_getR hV dX1_measure_9 fl_X1_15 (by first | decide | omega) (by first | rfl | assumption) (by first | assumption | rfl) ?_
        refine r_iload_n hV dX1_measure_12 rfl ?_
        refine r_aload_n hV dX1_measure_13 rfl rfl ?_
        refine r_getR hV dX1_measure_14 fl_X1_9 (by first | decide | omega) (by first | rfl | assumption) (by first | assumption | rfl) ?_
        refine r_iload_n hV dX1_measure_17 rfl ?_
        refine s_iaload hV dX1_measure_18 (by first | decide | omega) (by first | rfl | assumption) (by decide) (by omega) (by omega) ((congrFun (hfr _ (by omega)) _).trans (hR _ (by omega) (by omega))) ?_
        have hrb := hRb (j : Int) (by omega) (by omega)
        refine s_if_le hV 31 dX1_measure_19 (by decide) (by unfold z_rg; omega) (fun c19 => ?_) (fun c19 => ?_)
        · refine s_ldc hV dX1_measure_31 ct_X1_68 (1000000) (by decide) ?_
          refine s_iastore hV dX1_measure_33 (by first | decide | omega) (by first | rfl | assumption) (by decide) (by omega) (by omega) ?_
          refine s_iinc hV dX1_measure_34 rfl rfl ?_
          refine r_goto hV 2 dX1_measure_37 (by decide) ?_
          exact hnx _ (by unfold f_c0; first | rw [if_pos (by omega)] | rw [if_neg (by omega)]) (by omega)
        · refine r_aload_n hV dX1_measure_22 rfl rfl ?_
          refine r_getR hV dX1_measure_23 fl_X1_9 (by first | decide | omega) (by first | rfl | assumption) (by first | assumption | rfl) ?_
          refine r_iload_n hV dX1_measure_26 rfl ?_
          refine s_iaload hV dX1_measure_27 (by first | decide | omega) (by first | rfl | assumption) (by decide) (by omega) (by omega) ((congrFun (hfr _ (by omega)) _).trans (hR _ (by omega) (by omega))) ?_
          refine r_goto hV 33 dX1_measure_28 (by decide) ?_
          refine s_iastore hV dX1_measure_33 (by first | decide | omega) (by first | rfl | assumption) (by decide) (by omega) (by omega) ?_
          refine s_iinc hV dX1_measure_34 rfl rfl ?_
          refine r_goto hV 2 dX1_measure_37 (by decide) ?_
          exact hnx _ (by unfold f_c0; first | rw [if_pos (by omega)] | rw [if_neg (by omega)]) (by omega)
  exact L2 37 0 I (by omega) (by omega) z_ar_0 (fun q h => rfl)

def f_fr2 (D : Int → Int) (a b : Nat) (m : Int) : Int := if D ((a : Int) * 6 + b) < 1000000 then max m (D ((a : Int) * 6 + b)) else m
def f_far (D : Int → Int) (n : Nat) : Int := zit (fun a m => zit (f_fr2 D a) n m) n 0
theorem f_fr2_b {D : Int → Int} {a b : Nat} {m : Int} (hD : z_bd D 36 0 1000000) (ha : a < 6) (hb : b < 6) (h : 0 ≤ m ∧ m ≤ 1000000) : 0 ≤ f_fr2 D a b m ∧ f_fr2 D a b m ≤ 1000000 := by
  unfold f_fr2
  have := hD ((a : Int) * 6 + b) (by omega) (by omega)
  split <;> omega
set_option maxRecDepth 20000 in
theorem m_farthest (I : zI) (J : zJ) (P : zP) (d : Nat) (hD : zDay P d) (n : Int) (hn : I d 0 = iI n) (hnb : 0 ≤ n ∧ n ≤ 6) (D : Int → Int) (hL : z_ar I (d + 2) 36 D) (hLb : z_bd D 36 0 1000000) : z_Fn 2 yX1_farthest cX1_farthest 4 (some .int) 108 108 I J P [.ref d] (some (.int (iI (f_far D n.toNat)))) (I) (J) (P) := by
  obtain ⟨hd, p4, p5, p6, p7, p8⟩ := id hD
  obtain ⟨hlt, s0, s1, s2, s3, s4, s5⟩ := zDay_s hD
  refine z_met false (by decide +kernel) (fun h => by cases h) (Nat.le_of_ble_eq_true rfl) (by first | decide | omega) (fun V hV => ?_)
  show V 108 I J P 0 [.ref d, .null, .null, .null] []
  refine s_iconst hV dX1_farthest_0 (0) (by decide) ?_
  refine r_istore_n hV dX1_farthest_1 (Nat.le_of_ble_eq_true rfl) rfl ?_
  refine s_iconst hV dX1_farthest_2 (0) (by decide) ?_
  refine r_istore_n hV dX1_farthest_3 (Nat.le_of_ble_eq_true rfl) rfl ?_
  have L4 : ∀ (k4 a : Nat) (m : Int), n.toNat - a < k4 → a ≤ n.toNat → (m = zit (fun a m => zit (f_fr2 D a) n.toNat m) a 0) → (0 ≤ m ∧ m ≤ 1000000) → V 108 I J P 4 [.ref d, .int (iI m), .int (iI (a : Int)), .null] [] := by
    intro k4
    induction k4 with
    | zero => intro a m  hk1 hk2; omega
    | succ k4 ih4 =>
      intro a m  hk4 hl4 hm hmb
      refine r_iload_n hV dX1_farthest_4 rfl ?_
      refine r_aload_n hV dX1_farthest_5 rfl rfl ?_
      refine r_getI hV dX1_farthest_6 fl_X1_43 (by first | decide | omega) (by first | rfl | assumption) (by first | assumption | rfl) ?_
      refine s_icmp_ge hV 56 dX1_farthest_9 (by decide) (by unfold z_rg; omega) (by unfold z_rg; omega) (fun c9 => ?_) (fun c9 => ?_)
      · refine r_iload_n hV dX1_farthest_56 rfl ?_
        refine r_iret hV dX1_farthest_57 rfl rfl ?_
        rw [show a = n.toNat by omega] at hm
        rw [hm]
        exact ⟨rfl, rfl, rfl, rfl⟩
      · generalize hm0 : zit (fun a m => zit (f_fr2 D a) n.toNat m) a 0 = m0 at hm
        refine s_iconst hV dX1_farthest_12 (0) (by decide) ?_
        refine r_istore_n hV dX1_farthest_13 (Nat.le_of_ble_eq_true rfl) rfl ?_
        have L14 : ∀ (k14 b : Nat) (m : Int), n.toNat - b < k14 → b ≤ n.toNat → (m = zit (f_fr2 D a) b m0) → (0 ≤ m ∧ m ≤ 1000000) → V 108 I J P 14 [.ref d, .int (iI m), .int (iI (a : Int)), .int (iI (b : Int))] [] := by
          intro k14
          induction k14 with
          | zero => intro b m  hk1 hk2; omega
          | succ k14 ih14 =>
            intro b m  hk14 hl14 hm hmb
            refine r_iload_n hV dX1_farthest_14 rfl ?_
            refine r_aload_n hV dX1_farthest_15 rfl rfl ?_
            refine r_getI hV dX1_farthest_16 fl_X1_43 (by first | decide | omega) (by first | rfl | assumption) (by first | assumption | rfl) ?_
            refine s_icmp_ge hV 50 dX1_farthest_19 (by decide) (by unfold z_rg; omega) (by unfold z_rg; omega) (fun c19 => ?_) (fun c19 => ?_)
            · refine s_iinc hV dX1_farthest_50 rfl rfl ?_
              refine r_goto hV 4 dX1_farthest_53 (by decide) ?_
              refine r_kill hV 3 rfl ?_
              exact ih4 (a + 1) _ (by omega) (by omega) (by rw [show b = n.toNat by omega] at hm; rw [zit, hm0]; exact hm) hmb
            · refine r_aload_n hV dX1_farthest_22 rfl rfl ?_
              refine r_iload_n hV dX1_farthest_23 rfl ?_
              refine r_iload_n hV dX1_farthest_24 rfl ?_
              refine q_iv2v hV dX1_farthest_25 mv_X1_69 (m_between I J P d hD n hn hnb (a : Int) (by unfold z_rg; omega) (b : Int) (by unfold z_rg; omega) D hL) (by first | decide | omega) (by first | rfl | assumption) (by decide) (Nat.le_refl _) (Nat.le_of_ble_eq_true rfl) ?_
              rw [if_pos (show (0 ≤ (a : Int) ∧ (a : Int) < n) ∧ 0 ≤ (b : Int) ∧ (b : Int) < n by omega)]
              have hdb := hLb ((a : Int) * 6 + b) (by omega) (by omega)
              refine s_ldc hV dX1_farthest_28 ct_X1_68 (1000000) (by decide) ?_
              refine s_icmp_ge hV 44 dX1_farthest_30 (by decide) (by unfold z_rg; omega) (by unfold z_rg; omega) (fun c30 => ?_) (fun c30 => ?_)
              · refine s_iinc hV dX1_farthest_44 rfl rfl ?_
                refine r_goto hV 14 dX1_farthest_47 (by decide) ?_
                exact ih14 (b + 1) _ (by omega) (by omega) (by rw [zit, ← hm, f_fr2]; first | rw [if_pos (by omega)] | rw [if_neg (by omega)]) (by first | exact hmb | omega)
              · refine r_iload_n hV dX1_farthest_33 rfl ?_
                refine r_aload_n hV dX1_farthest_34 rfl rfl ?_
                refine r_iload_n hV dX1_farthest_35 rfl ?_
                refine r_iload_n hV dX1_farthest_36 rfl ?_
                refine q_iv2v hV dX1_farthest_37 mv_X1_69 (m_between I J P d hD n hn hnb (a : Int) (by unfold z_rg; omega) (b : Int) (by unfold z_rg; omega) D hL) (by first | decide | omega) (by first | rfl | assumption) (by decide) (Nat.le_refl _) (Nat.le_of_ble_eq_true rfl) ?_
                rw [if_pos (show (0 ≤ (a : Int) ∧ (a : Int) < n) ∧ 0 ≤ (b : Int) ∧ (b : Int) < n by omega)]
                have hdb := hLb ((a : Int) * 6 + b) (by omega) (by omega)
                refine s_mmax hV dX1_farthest_40 mx_X1_40 (by decide) (Nat.le_of_ble_eq_true rfl) (by unfold z_rg; omega) (by unfold z_rg; omega) ?_
                refine r_istore_n hV dX1_farthest_43 (Nat.le_of_ble_eq_true rfl) rfl ?_
                refine s_iinc hV dX1_farthest_44 rfl rfl ?_
                refine r_goto hV 14 dX1_farthest_47 (by decide) ?_
                exact ih14 (b + 1) _ (by omega) (by omega) (by rw [zit, ← hm, f_fr2]; first | rw [if_pos (by omega)] | rw [if_neg (by omega)]) (by first | exact hmb | omega)
        subst hm
        exact L14 (n.toNat + 1) 0 m (by omega) (by omega) rfl hmb
  exact L4 (n.toNat + 1) 0 0 (by omega) (by omega) rfl (by omega)
