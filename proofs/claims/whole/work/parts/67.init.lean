/-- a constructor's work: the cells behind o up to m are laid, all words 0, what stood before stands; o keeps its words -/
def q_in (I : zI) (P : zP) (o m : Nat) (v : Option Value) (I1 : zI) (P1 : zP) : Prop := v = none ∧ (∀ q, q ≤ o → I1 q = I q) ∧ (∀ q, o < q → q < m → I1 q = fun _ => 0) ∧ ∀ q, q < o → P1 q = P q
def q_i7 (I : zI) (P : zP) (o : Nat) (v : Option Value) (I1 : zI) (J1 : zJ) (P1 : zP) : Prop := q_in I P o (o + 2) v I1 P1 ∧ P1 o 6 = some (o + 1)
set_option maxRecDepth 20000 in
theorem i_st (I : zI) (J : zJ) (P : zP) (o : Nat) (s0 : zSH o = .inl 7) (s1 : zSH (o + 1) = .inr (.int, 8)) : z_Sp 3 yX7_init cX7_init 1 none (o + 1) (o + 2) I J P [.ref o] (q_i7 I P o) := by
  refine z_met true (by decide +kernel) (fun _ => rfl) (Nat.le_of_ble_eq_true rfl) (by first | decide | omega) (fun V hV => ?_)
  show V (o + 1) I J P 0 [.ref o] []
  refine r_aload_n hV dX7_init_0 rfl rfl ?_
  refine r_objinit hV dX7_init_1 oi_X7_3 (by decide) (Nat.le_of_ble_eq_true rfl) ?_
  refine r_aload_n hV dX7_init_4 rfl rfl ?_
  refine s_bipush hV dX7_init_5 (8) (by decide) ?_
  refine r_newarray hV _ dX7_init_7 ac_int (by first | rfl | assumption) ⟨by decide, rfl, by decide⟩ (by first | decide | omega) ?_
  refine r_putR hV dX7_init_9 fl_X7_9 pf_X7_9 (by first | decide | omega) (by first | rfl | assumption) ?_
  refine r_vret hV dX7_init_12 rfl rfl ?_
  refine ⟨⟨rfl, fun q h => zu_n _ _ (by omega), fun q h1 h2 => by rw [show q = o + 1 by omega, zu_s], fun q h => ?_⟩, ?_⟩
  · rw [zu_n _ _ (by omega), zu_n _ _ (by omega)]
  · rw [zu_s, zu_s]

def q_i9 (I : zI) (P : zP) (o : Nat) (v : Option Value) (I1 : zI) (J1 : zJ) (P1 : zP) : Prop := q_in I P o (o + 3) v I1 P1 ∧ P1 o 1 = some (o + 1) ∧ P1 o 2 = some (o + 2)
set_option maxRecDepth 20000 in
theorem i_tr (I : zI) (J : zJ) (P : zP) (o : Nat) (s0 : zSH o = .inl 9) (s1 : zSH (o + 1) = .inr (.int, 384)) (s2 : zSH (o + 2) = .inr (.int, 64)) : z_Sp 3 yX9_init cX9_init 1 none (o + 1) (o + 3) I J P [.ref o] (q_i9 I P o) := by
  refine z_met true (by decide +kernel) (fun _ => rfl) (Nat.le_of_ble_eq_true rfl) (by first | decide | omega) (fun V hV => ?_)
  show V (o + 1) I J P 0 [.ref o] []
  refine r_aload_n hV dX9_init_0 rfl rfl ?_
  refine r_objinit hV dX9_init_1 oi_X9_3 (by decide) (Nat.le_of_ble_eq_true rfl) ?_
  refine r_aload_n hV dX9_init_4 rfl rfl ?_
  refine s_sipush hV dX9_init_5 (384) (by decide) ?_
  refine r_newarray hV _ dX9_init_8 ac_int (by first | rfl | assumption) ⟨by decide, rfl, by decide⟩ (by first | decide | omega) ?_
  refine r_putR hV dX9_init_10 fl_X9_9 pf_X9_9 (by first | decide | omega) (by first | rfl | assumption) ?_
  refine r_aload_n hV dX9_init_13 rfl rfl ?_
  refine s_bipush hV dX9_init_14 (64) (by decide) ?_
  refine r_newarray hV _ dX9_init_16 ac_int (by first | rfl | assumption) ⟨by decide, rfl, by decide⟩ (by first | decide | omega) ?_
  refine r_putR hV dX9_init_18 fl_X9_15 pf_X9_15 (by first | decide | omega) (by first | rfl | assumption) ?_
  refine r_vret hV dX9_init_21 rfl rfl ?_
  refine ⟨⟨rfl, fun q h => by rw [zu_n _ _ (by omega), zu_n _ _ (by omega)], fun q h1 h2 => ?_, fun q h => ?_⟩, ?_, ?_⟩
  · rcases (show q = o + 1 ∨ q = o + 2 by omega) with rfl | rfl
    · rw [zu_n _ _ (by omega), zu_s]
    · rw [zu_s]
  · rw [zu_n _ _ (by omega), zu_n _ _ (by omega), zu_n _ _ (by omega), zu_n _ _ (by omega)]
  · rw [zu_s, zu_n _ _ (by omega), zu_n _ _ (by omega), zu_s, zu_s]
  · rw [zu_s, zu_s]

def q_i_tx (I : zI) (P : zP) (v : Option Value) (I1 : zI) (J1 : zJ) (P1 : zP) : Prop := q_in I P 1 3 v I1 P1 ∧ P1 1 0 = some 2
set_option maxRecDepth 20000 in
theorem i_tx (I : zI) (J : zJ) (P : zP)  : z_Sp 3 yX8_init cX8_init 1 none 2 3 I J P [.ref 1] (q_i_tx I P) := by
  refine z_met true (by decide +kernel) (fun _ => rfl) (Nat.le_of_ble_eq_true rfl) (by first | decide | omega) (fun V hV => ?_)
  show V 2 I J P 0 [.ref 1] []
  refine r_aload_n hV dX8_init_0 rfl rfl ?_
  refine r_objinit hV dX8_init_1 oi_X8_3 (by decide) (Nat.le_of_ble_eq_true rfl) ?_
  refine r_aload_n hV dX8_init_4 rfl rfl ?_
  refine s_bipush hV dX8_init_5 (80) (by decide) ?_
  refine r_newarray hV _ dX8_init_7 ac_int (by first | rfl | assumption) ⟨by decide, rfl, by decide⟩ (by first | decide | omega) ?_
  refine r_putR hV dX8_init_9 fl_X8_9 pf_X8_9 (by first | decide | omega) (by first | rfl | assumption) ?_
  refine r_vret hV dX8_init_12 rfl rfl ?_
  refine ⟨⟨rfl, fun q h => by rw [zu_n _ _ (by omega)], fun q h1 h2 => by
    rcases (show q = 2 by omega) with rfl <;> rfl, fun q h => by rw [zu_n _ _ (by omega), zu_n _ _ (by omega)]⟩, rfl⟩

def q_i_gs (I : zI) (P : zP) (v : Option Value) (I1 : zI) (J1 : zJ) (P1 : zP) : Prop := q_in I P 62 65 v I1 P1 ∧ P1 62 0 = some 63 ∧ P1 62 1 = some 64
set_option maxRecDepth 20000 in
theorem i_gs (I : zI) (J : zJ) (P : zP)  : z_Sp 3 yX2_init cX2_init 1 none 63 65 I J P [.ref 62] (q_i_gs I P) := by
  refine z_met true (by decide +kernel) (fun _ => rfl) (Nat.le_of_ble_eq_true rfl) (by first | decide | omega) (fun V hV => ?_)
  show V 63 I J P 0 [.ref 62] []
  refine r_aload_n hV dX2_init_0 rfl rfl ?_
  refine r_objinit hV dX2_init_1 oi_X2_3 (by decide) (Nat.le_of_ble_eq_true rfl) ?_
  refine r_aload_n hV dX2_init_4 rfl rfl ?_
  refine s_bipush hV dX2_init_5 (64) (by decide) ?_
  refine r_newarray hV _ dX2_init_7 ac_int (by first | rfl | assumption) ⟨by decide, rfl, by decide⟩ (by first | decide | omega) ?_
  refine r_putR hV dX2_init_9 fl_X2_9 pf_X2_9 (by first | decide | omega) (by first | rfl | assumption) ?_
  refine r_aload_n hV dX2_init_12 rfl rfl ?_
  refine s_bipush hV dX2_init_13 (64) (by decide) ?_
  refine r_newarray hV _ dX2_init_15 ac_int (by first | rfl | assumption) ⟨by decide, rfl, by decide⟩ (by first | decide | omega) ?_
  refine r_putR hV dX2_init_17 fl_X2_15 pf_X2_15 (by first | decide | omega) (by first | rfl | assumption) ?_
  refine r_vret hV dX2_init_20 rfl rfl ?_
  refine ⟨⟨rfl, fun q h => by rw [zu_n _ _ (by omega), zu_n _ _ (by omega)], fun q h1 h2 => by
    rcases (show q = 63 ∨ q = 64 by omega) with rfl | rfl <;> rfl, fun q h => by rw [zu_n _ _ (by omega), zu_n _ _ (by omega), zu_n _ _ (by omega), zu_n _ _ (by omega)]⟩, rfl, rfl⟩

def q_i_rw (I : zI) (P : zP) (v : Option Value) (I1 : zI) (J1 : zJ) (P1 : zP) : Prop := q_in I P 59 62 v I1 P1 ∧ P1 59 0 = some 60 ∧ P1 59 1 = some 61
set_option maxRecDepth 20000 in
theorem i_rw (I : zI) (J : zJ) (P : zP)  : z_Sp 3 yX5_init cX5_init 1 none 60 62 I J P [.ref 59] (q_i_rw I P) := by
  refine z_met true (by decide +kernel) (fun _ => rfl) (Nat.le_of_ble_eq_true rfl) (by first | decide | omega) (fun V hV => ?_)
  show V 60 I J P 0 [.ref 59] []
  refine r_aload_n hV dX5_init_0 rfl rfl ?_
  refine r_objinit hV dX5_init_1 oi_X5_3 (by decide) (Nat.le_of_ble_eq_true rfl) ?_
  refine r_aload_n hV dX5_init_4 rfl rfl ?_
  refine s_sipush hV dX5_init_5 (6000) (by decide) ?_
  refine r_newarray hV _ dX5_init_8 ac_int (by first | rfl | assumption) ⟨by decide, rfl, by decide⟩ (by first | decide | omega) ?_
  refine r_putR hV dX5_init_10 fl_X5_11 (pf_X5_11 _) (by first | decide | omega) (by first | rfl | assumption) ?_
  refine r_aload_n hV dX5_init_13 rfl rfl ?_
  refine s_sipush hV dX5_init_14 (6000) (by decide) ?_
  refine r_newarray hV _ dX5_init_17 ac_int (by first | rfl | assumption) ⟨by decide, rfl, by decide⟩ (by first | decide | omega) ?_
  refine r_putR hV dX5_init_19 fl_X5_15 (pf_X5_15 _) (by first | decide | omega) (by first | rfl | assumption) ?_
  refine r_vret hV dX5_init_22 rfl rfl ?_
  refine ⟨⟨rfl, fun q h => by rw [zu_n _ _ (by omega), zu_n _ _ (by omega)], fun q h1 h2 => by
    rcases (show q = 60 ∨ q = 61 by omega) with rfl | rfl <;> rfl, fun q h => by rw [zu_n _ _ (by omega), zu_n _ _ (by omega), zu_n _ _ (by omega), zu_n _ _ (by omega)]⟩, rfl, rfl⟩

def q_i_tn (I : zI) (P : zP) (v : Option Value) (I1 : zI) (J1 : zJ) (P1 : zP) : Prop := q_in I P 58 59 v I1 P1
set_option maxRecDepth 20000 in
theorem i_tn (I : zI) (J : zJ) (P : zP)  : z_Sp 3 yX10_init cX10_init 1 none 59 59 I J P [.ref 58] (q_i_tn I P) := by
  refine z_met true (by decide +kernel) (fun _ => rfl) (Nat.le_of_ble_eq_true rfl) (by first | decide | omega) (fun V hV => ?_)
  show V 59 I J P 0 [.ref 58] []
  refine r_aload_n hV dX10_init_0 rfl rfl ?_
  refine r_objinit hV dX10_init_1 oi_X10_3 (by decide) (Nat.le_of_ble_eq_true rfl) ?_
  refine r_vret hV dX10_init_4 rfl rfl ?_
  refine ⟨rfl, fun q h => by rfl, fun q h1 h2 => by omega, fun q h => by rfl⟩

def q_i1 (I : zI) (P : zP) (o : Nat) (v : Option Value) (I1 : zI) (J1 : zJ) (P1 : zP) : Prop := v = none ∧ (∀ q, q < o → I1 q = I q) ∧ (∀ q, q < o → P1 q = P q) ∧ (P1 o 4 = some (o + 1) ∧ P1 o 5 = some (o + 2) ∧ P1 o 6 = some (o + 3) ∧ P1 o 7 = some (o + 4) ∧ P1 o 8 = some (o + 5)) ∧ (I1 o 0 = iI 2 ∧ I1 o 1 = iI 0 ∧ I1 o 2 = iI 0 ∧ I1 o 3 = iI 0) ∧ z_ar I1 (o + 2) 36 (f_ms (fun _ => 0)) ∧ I1 (o + 3) = (fun _ => 0) ∧ I1 (o + 4) = (fun _ => 0) ∧ I1 (o + 5) = fun _ => 0
set_option maxRecDepth 20000 in
theorem i_day (I : zI) (J : zJ) (P : zP) (o : Nat) (s0 : zSH o = .inl 1) (s1 : zSH (o + 1) = .inr (.int, 36)) (s2 : zSH (o + 2) = .inr (.int, 36)) (s3 : zSH (o + 3) = .inr (.int, 6)) (s4 : zSH (o + 4) = .inr (.int, 6)) (s5 : zSH (o + 5) = .inr (.int, 6)) : z_Sp 5 yX1_init cX1_init 1 none (o + 1) (o + 6) I J P [.ref o] (q_i1 I P o) := by
  refine z_met true (by decide +kernel) (fun _ => rfl) (Nat.le_of_ble_eq_true rfl) (by first | decide | omega) (fun V hV => ?_)
  show V (o + 1) I J P 0 [.ref o] []
  refine r_aload_n hV dX1_init_0 rfl rfl ?_
  refine r_objinit hV dX1_init_1 oi_X1_3 (by decide) (Nat.le_of_ble_eq_true rfl) ?_
  refine r_aload_n hV dX1_init_4 rfl rfl ?_
  refine s_bipush hV dX1_init_5 (36) (by decide) ?_
  refine r_newarray hV _ dX1_init_7 ac_int (by first | rfl | assumption) ⟨by decide, rfl, by decide⟩ (by first | decide | omega) ?_
  refine r_putR hV dX1_init_9 fl_X1_9 pf_X1_9 (by first | decide | omega) (by first | rfl | assumption) ?_
  generalize hP1 : zu (zu P (o + 1) (fun _ => none)) o (zu ((zu P (o + 1) (fun _ => none)) o) 4 (some (o + 1))) = P1
  have bP1 : ∀ q, q < o → P1 q = P q := fun q h => by rw [← hP1, zu_n _ _ (by omega), zu_n _ _ (by omega)]
  have cP1_4 : P1 o 4 = some (o + 1) := by rw [← hP1, zu_s, zu_s]
  clear hP1
  refine r_aload_n hV dX1_init_12 rfl rfl ?_
  refine s_bipush hV dX1_init_13 (36) (by decide) ?_
  refine r_newarray hV _ dX1_init_15 ac_int (by first | rfl | assumption) ⟨by decide, rfl, by decide⟩ (by first | decide | omega) ?_
  refine r_putR hV dX1_init_17 fl_X1_15 pf_X1_15 (by first | decide | omega) (by first | rfl | assumption) ?_
  generalize hP2 : zu (zu P1 (o + 1 + 1) (fun _ => none)) o (zu ((zu P1 (o + 1 + 1) (fun _ => none)) o) 5 (some (o + 1 + 1))) = P2
  have bP2 : ∀ q, q < o → P2 q = P q := fun q h => by rw [← hP2, zu_n _ _ (by omega), zu_n _ _ (by omega)]; exact bP1 q h
  have cP2_5 : P2 o 5 = some (o + 2) := by rw [← hP2, zu_s, zu_s]
  have cP2_4 : P2 o 4 = some (o + 1) := by rw [← hP2, zu_s, zu_n _ _ (by omega), zu_n _ _ (by omega)]; exact cP1_4
  clear hP2
  refine r_aload_n hV dX1_init_20 rfl rfl ?_
  refine s_bipush hV dX1_init_21 (6) (by decide) ?_
  refine r_newarray hV _ dX1_init_23 ac_int (by first | rfl | assumption) ⟨by decide, rfl, by decide⟩ (by first | decide | omega) ?_
  refine r_putR hV dX1_init_25 fl_X1_18 pf_X1_18 (by first | decide | omega) (by first | rfl | assumption) ?_
  generalize hP3 : zu (zu P2 (o + 1 + 1 + 1) (fun _ => none)) o (zu ((zu P2 (o + 1 + 1 + 1) (fun _ => none)) o) 6 (some (o + 1 + 1 + 1))) = P3
  have bP3 : ∀ q, q < o → P3 q = P q := fun q h => by rw [← hP3, zu_n _ _ (by omega), zu_n _ _ (by omega)]; exact bP2 q h
  have cP3_6 : P3 o 6 = some (o + 3) := by rw [← hP3, zu_s, zu_s]
  have cP3_4 : P3 o 4 = some (o + 1) := by rw [← hP3, zu_s, zu_n _ _ (by omega), zu_n _ _ (by omega)]; exact cP2_4
  have cP3_5 : P3 o 5 = some (o + 2) := by rw [← hP3, zu_s, zu_n _ _ (by omega), zu_n _ _ (by omega)]; exact cP2_5
  clear hP3
  refine r_aload_n hV dX1_init_28 rfl rfl ?_
  refine s_bipush hV dX1_init_29 (6) (by decide) ?_
  refine r_newarray hV _ dX1_init_31 ac_int (by first | rfl | assumption) ⟨by decide, rfl, by decide⟩ (by first | decide | omega) ?_
  refine r_putR hV dX1_init_33 fl_X1_21 pf_X1_21 (by first | decide | omega) (by first | rfl | assumption) ?_
  generalize hP4 : zu (zu P3 (o + 1 + 1 + 1 + 1) (fun _ => none)) o (zu ((zu P3 (o + 1 + 1 + 1 + 1) (fun _ => none)) o) 7 (some (o + 1 + 1 + 1 + 1))) = P4
  have bP4 : ∀ q, q < o → P4 q = P q := fun q h => by rw [← hP4, zu_n _ _ (by omega), zu_n _ _ (by omega)]; exact bP3 q h
  have cP4_7 : P4 o 7 = some (o + 4) := by rw [← hP4, zu_s, zu_s]
  have cP4_4 : P4 o 4 = some (o + 1) := by rw [← hP4, zu_s, zu_n _ _ (by omega), zu_n _ _ (by omega)]; exact cP3_4
  have cP4_5 : P4 o 5 = some (o + 2) := by rw [← hP4, zu_s, zu_n _ _ (by omega), zu_n _ _ (by omega)]; exact cP3_5
  have cP4_6 : P4 o 6 = some (o + 3) := by rw [← hP4, zu_s, zu_n _ _ (by omega), zu_n _ _ (by omega)]; exact cP3_6
  clear hP4
  refine r_aload_n hV dX1_init_36 rfl rfl ?_
  refine s_bipush hV dX1_init_37 (6) (by decide) ?_
  refine r_newarray hV _ dX1_init_39 ac_int (by first | rfl | assumption) ⟨by decide, rfl, by decide⟩ (by first | decide | omega) ?_
  refine r_putR hV dX1_init_41 fl_X1_24 pf_X1_24 (by first | decide | omega) (by first | rfl | assumption) ?_
  generalize hP5 : zu (zu P4 (o + 1 + 1 + 1 + 1 + 1) (fun _ => none)) o (zu ((zu P4 (o + 1 + 1 + 1 + 1 + 1) (fun _ => none)) o) 8 (some (o + 1 + 1 + 1 + 1 + 1))) = P5
  have bP5 : ∀ q, q < o → P5 q = P q := fun q h => by rw [← hP5, zu_n _ _ (by omega), zu_n _ _ (by omega)]; exact bP4 q h
  have cP5_8 : P5 o 8 = some (o + 5) := by rw [← hP5, zu_s, zu_s]
  have cP5_4 : P5 o 4 = some (o + 1) := by rw [← hP5, zu_s, zu_n _ _ (by omega), zu_n _ _ (by omega)]; exact cP4_4
  have cP5_5 : P5 o 5 = some (o + 2) := by rw [← hP5, zu_s, zu_n _ _ (by omega), zu_n _ _ (by omega)]; exact cP4_5
  have cP5_6 : P5 o 6 = some (o + 3) := by rw [← hP5, zu_s, zu_n _ _ (by omega), zu_n _ _ (by omega)]; exact cP4_6
  have cP5_7 : P5 o 7 = some (o + 4) := by rw [← hP5, zu_s, zu_n _ _ (by omega), zu_n _ _ (by omega)]; exact cP4_7
  clear hP5
  generalize hI2 : zu (zu (zu (zu (zu I (o + 1) (fun _ => 0)) (o + 1 + 1) (fun _ => 0)) (o + 1 + 1 + 1) (fun _ => 0)) (o + 1 + 1 + 1 + 1) (fun _ => 0)) (o + 1 + 1 + 1 + 1 + 1) (fun _ => 0) = I2
  have a1 : ∀ q, q ≤ o → I2 q = I q := fun q h => by rw [← hI2, zu_n _ _ (by omega), zu_n _ _ (by omega), zu_n _ _ (by omega), zu_n _ _ (by omega), zu_n _ _ (by omega)]
  have a2 : ∀ q, o < q → q < o + 6 → I2 q = fun _ => 0 := fun q h1 h2 => by
    rcases (show q = o + 1 ∨ q = o + 2 ∨ q = o + 3 ∨ q = o + 4 ∨ q = o + 5 by omega) with rfl | rfl | rfl | rfl | rfl
    · rw [← hI2, zu_n _ _ (by omega), zu_n _ _ (by omega), zu_n _ _ (by omega), zu_n _ _ (by omega), zu_s]
    · rw [← hI2, zu_n _ _ (by omega), zu_n _ _ (by omega), zu_n _ _ (by omega), zu_s]
    · rw [← hI2, zu_n _ _ (by omega), zu_n _ _ (by omega), zu_s]
    · rw [← hI2, zu_n _ _ (by omega), zu_s]
    · rw [← hI2, zu_s]
  clear hI2
  refine r_aload_n hV dX1_init_44 rfl rfl ?_
  refine s_iconst hV dX1_init_45 (2) (by decide) ?_
  refine s_iconst hV dX1_init_46 (0) (by decide) ?_
  refine r_iv2 hV dX1_init_47 mv_X1_27 (m_dbegin (o + 6) I2 _ P5 o (by omega) cP5_4 s0 s1 2 0 (by omega)) (by first | decide | omega) (by first | rfl | assumption) (by decide) (by omega) (Nat.le_of_ble_eq_true rfl) (fun v3 I3 J3 P6 hq => ?_)
  obtain ⟨rfl, ej, ep, d0, d1, d2, d3, d4, d5⟩ := hq
  rw [ep]
  show V (o + 6) I3 J3 P5 _ _ []
  refine r_aload_n hV dX1_init_50 rfl rfl ?_
  refine r_iv0 hV dX1_init_51 mv_X1_31 (m_measure (o + 6) I3 _ P5 o (by omega) cP5_4 cP5_5 s0 s1 s2 (fun _ => 0) d4 (fun z _ _ => ⟨Int.le_refl 0, (by decide : (0 : Int) ≤ 99)⟩)) (by first | decide | omega) (by first | rfl | assumption) (by decide) (by omega) (Nat.le_of_ble_eq_true rfl) (fun v4 I4 J4 P7 hq2 => ?_)
  obtain ⟨rfl, ej2, ep2, e0, e1, e2⟩ := hq2
  rw [ep2]
  show V (o + 6) I4 J4 P5 _ _ []
  refine r_vret hV dX1_init_54 rfl rfl ?_
  refine ⟨rfl, fun q h => (e2 q (by omega)).trans ((d5 q (by omega) (by omega)).trans (a1 q (by omega))), bP5, ⟨cP5_4, cP5_5, cP5_6, cP5_7, cP5_8⟩, ⟨(congrFun (e2 o (by omega)) 0).trans d0, (congrFun (e2 o (by omega)) 1).trans d1, (congrFun (e2 o (by omega)) 2).trans d2, (congrFun (e2 o (by omega)) 3).trans d3⟩, e0, ?_, ?_, ?_⟩
  · exact (e2 _ (by omega)).trans ((d5 _ (by omega) (by omega)).trans (a2 _ (by omega) (by omega)))
  · exact (e2 _ (by omega)).trans ((d5 _ (by omega) (by omega)).trans (a2 _ (by omega) (by omega)))
  · exact (e2 _ (by omega)).trans ((d5 _ (by omega) (by omega)).trans (a2 _ (by omega) (by omega)))

def q_i3 (I : zI) (P : zP) (v : Option Value) (I1 : zI) (J1 : zJ) (P1 : zP) : Prop := q_in I P 49 58 v I1 P1 ∧ zPn P1 ∧ (P1 50 1 = some 51 ∧ P1 50 2 = some 52) ∧ P1 53 1 = some 54 ∧ P1 53 2 = some 55
set_option maxRecDepth 20000 in
theorem i_pl (I : zI) (J : zJ) (P : zP)  : z_Sp 5 yX3_init cX3_init 1 none 50 58 I J P [.ref 49] (q_i3 I P) := by
  refine z_met true (by decide +kernel) (fun _ => rfl) (Nat.le_of_ble_eq_true rfl) (by first | decide | omega) (fun V hV => ?_)
  show V 50 I J P 0 [.ref 49] []
  refine r_aload_n hV dX3_init_0 rfl rfl ?_
  refine r_objinit hV dX3_init_1 oi_X3_3 (by decide) (Nat.le_of_ble_eq_true rfl) ?_
  refine r_aload_n hV dX3_init_4 rfl rfl ?_
  refine r_new hV dX3_init_5 nw_X3_9 (by first | rfl | assumption) (by first | decide | omega) ?_
  refine r_dup hV dX3_init_8 rfl ?_
  refine r_in0 hV dX3_init_9 mi_X3_11 (i_tr _ _ _ 50 rfl rfl rfl) (by decide) (by omega) (Nat.le_of_ble_eq_true rfl) (fun v1 I1 J1 P1 hq1 => ?_)
  obtain ⟨⟨rfl, x1, y1, w1⟩, p1, p2⟩ := hq1
  show V 53 I1 J1 P1 _ _ _
  refine r_putR hV dX3_init_12 fl_X3_12 pf_X3_12 (by first | decide | omega) (by first | rfl | assumption) ?_
  generalize hP2 : zu P1 49 (zu (P1 49) 0 (some 50)) = P2
  have w2 : ∀ q, q ≠ 49 → P2 q = P1 q := fun q h => by rw [← hP2, zu_n _ _ h]
  have k0 : P2 49 0 = some 50 := by rw [← hP2, zu_s, zu_s]
  clear hP2
  refine r_aload_n hV dX3_init_15 rfl rfl ?_
  refine r_new hV dX3_init_16 nw_X3_9 (by first | rfl | assumption) (by first | decide | omega) ?_
  refine r_dup hV dX3_init_19 rfl ?_
  refine r_in0 hV dX3_init_20 mi_X3_11 (i_tr _ _ _ 53 rfl rfl rfl) (by decide) (by omega) (Nat.le_of_ble_eq_true rfl) (fun v3 I3 J3 P3 hq3 => ?_)
  obtain ⟨⟨rfl, x3, y3, w3⟩, p3, p4⟩ := hq3
  show V 56 I3 J3 P3 _ _ _
  refine r_putR hV dX3_init_23 fl_X3_18 pf_X3_18 (by first | decide | omega) (by first | rfl | assumption) ?_
  generalize hP4 : zu P3 49 (zu (P3 49) 1 (some 53)) = P4
  have w4 : ∀ q, q ≠ 49 → P4 q = P3 q := fun q h => by rw [← hP4, zu_n _ _ h]
  have k1 : P4 49 1 = some 53 := by rw [← hP4, zu_s, zu_s]
  have k01 : P4 49 0 = some 50 := by rw [← hP4, zu_s, zu_n _ _ (by omega), w3 49 (by omega), zu_n _ _ (by omega)]; exact k0
  clear hP4
  refine r_aload_n hV dX3_init_26 rfl rfl ?_
  refine s_bipush hV dX3_init_27 (64) (by decide) ?_
  refine r_newarray hV _ dX3_init_29 ac_int (by first | rfl | assumption) ⟨by decide, rfl, by decide⟩ (by first | decide | omega) ?_
  refine r_putR hV dX3_init_31 fl_X3_21 pf_X3_21 (by first | decide | omega) (by first | rfl | assumption) ?_
  refine r_aload_n hV dX3_init_34 rfl rfl ?_
  refine s_bipush hV dX3_init_35 (64) (by decide) ?_
  refine r_newarray hV _ dX3_init_37 ac_int (by first | rfl | assumption) ⟨by decide, rfl, by decide⟩ (by first | decide | omega) ?_
  refine r_putR hV dX3_init_39 fl_X3_25 pf_X3_25 (by first | decide | omega) (by first | rfl | assumption) ?_
  refine r_vret hV dX3_init_42 rfl rfl ?_
  have u1 : ∀ q, q ≤ 49 → I1 q = I q := fun q h => (x1 q (by omega)).trans (zu_n _ _ (by omega))
  have u3 : ∀ q, q ≤ 52 → I3 q = I1 q := fun q h => (x3 q (by omega)).trans (zu_n _ _ (by omega))
  refine ⟨⟨rfl, fun q h => ?_, fun q h1 h2 => ?_, fun q h => ?_⟩, ⟨?_, ?_, ?_, ?_⟩, ⟨?_, ?_⟩, ?_, ?_⟩
  · rw [zu_n _ _ (by omega), zu_n _ _ (by omega)]
    exact (u3 q (by omega)).trans (u1 q h)
  · rcases (show q = 57 ∨ q = 56 ∨ (53 < q ∧ q < 56) ∨ q = 53 ∨ (50 < q ∧ q < 53) ∨ q = 50 by omega) with rfl | rfl | h | rfl | h | rfl
    · rfl
    · rfl
    · rw [zu_n _ _ (by omega), zu_n _ _ (by omega)]; exact y3 q h.1 h.2
    · rw [zu_n _ _ (by omega), zu_n _ _ (by omega), x3 53 (by omega), zu_s]
    · rw [zu_n _ _ (by omega), zu_n _ _ (by omega)]; exact (u3 q (by omega)).trans (y1 q h.1 h.2)
    · rw [zu_n _ _ (by omega), zu_n _ _ (by omega), u3 50 (by omega), x1 50 (by omega), zu_s]
  · rw [zu_n _ _ (by omega), zu_n _ _ (by omega), zu_n _ _ (by omega), zu_n _ _ (by omega), w4 q (by omega), w3 q (by omega), zu_n _ _ (by omega), w2 q (by omega), w1 q (by omega), zu_n _ _ (by omega)]
  · rw [zu_s, zu_n _ _ (by omega), zu_n _ _ (by omega), zu_s, zu_n _ _ (by omega), zu_n _ _ (by omega)]; exact k01
  · rw [zu_s, zu_n _ _ (by omega), zu_n _ _ (by omega), zu_s, zu_n _ _ (by omega), zu_n _ _ (by omega)]; exact k1
  · rw [zu_s, zu_n _ _ (by omega), zu_n _ _ (by omega), zu_s, zu_s]
  · rw [zu_s, zu_s]
  · rw [zu_n _ _ (by omega), zu_n _ _ (by omega), zu_n _ _ (by omega), zu_n _ _ (by omega), w4 50 (by omega), w3 50 (by omega), zu_n _ _ (by omega), w2 50 (by omega)]; exact p1
  · rw [zu_n _ _ (by omega), zu_n _ _ (by omega), zu_n _ _ (by omega), zu_n _ _ (by omega), w4 50 (by omega), w3 50 (by omega), zu_n _ _ (by omega), w2 50 (by omega)]; exact p2
  · rw [zu_n _ _ (by omega), zu_n _ _ (by omega), zu_n _ _ (by omega), zu_n _ _ (by omega), w4 53 (by omega)]; exact p3
  · rw [zu_n _ _ (by omega), zu_n _ _ (by omega), zu_n _ _ (by omega), zu_n _ _ (by omega), w4 53 (by omega)]; exact p4

