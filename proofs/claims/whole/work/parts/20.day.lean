/-- the Day's cells: two there are -/
def zDay (P : zP) (d : Nat) : Prop := (d = 66 ∨ d = 72) ∧ P d 4 = some (d + 1) ∧ P d 5 = some (d + 2) ∧ P d 6 = some (d + 3) ∧ P d 7 = some (d + 4) ∧ P d 8 = some (d + 5)
theorem zDay_s {P : zP} {d : Nat} (h : zDay P d) : d < 78 ∧ zSH d = .inl 1 ∧ zSH (d + 1) = .inr (.int, 36) ∧ zSH (d + 2) = .inr (.int, 36) ∧ zSH (d + 3) = .inr (.int, 6) ∧ zSH (d + 4) = .inr (.int, 6) ∧ zSH (d + 5) = .inr (.int, 6) := by
  rcases h.1 with rfl | rfl <;> exact ⟨by decide, rfl, rfl, rfl, rfl, rfl, rfl⟩
def f_isP (I : zI) (d : Nat) (a : Int32) : Int32 := if 0 ≤ a ∧ a < I d 0 then 1 else 0
set_option maxRecDepth 20000 in
theorem m_isPlace (I : zI) (J : zJ) (P : zP) (d : Nat) (hD : zDay P d) (a : Int32) : z_Fn 0 yX1_isPlace cX1_isPlace 2 (some .boolean) 108 108 I J P [.ref d, .int a] (some (.int (f_isP I d a))) (I) (J) (P) := by
  obtain ⟨hd, p4, p5, p6, p7, p8⟩ := id hD
  obtain ⟨hlt, s0, s1, s2, s3, s4, s5⟩ := zDay_s hD
  refine z_met false rfl (fun h => by cases h) (Nat.le_of_ble_eq_true rfl) (by first | decide | omega) (fun V hV => ?_)
  show V 108 I J P 0 [.ref d, .int a] []
  refine r_iload_n hV dX1_isPlace_0 rfl ?_
  refine r_if_lt hV 16 dX1_isPlace_1 (by decide) (fun c1 => ?_) (fun c1 => ?_)
  · refine r_iconst hV dX1_isPlace_16 (0) (by decide) ?_
    refine r_zret hV dX1_isPlace_17 rfl (by first | exact Or.inl rfl | exact Or.inr rfl) rfl ?_
    refine ⟨?_, rfl, rfl, rfl⟩
    simp_all [f_isP]
  · refine r_iload_n hV dX1_isPlace_4 rfl ?_
    refine r_aload_n hV dX1_isPlace_5 rfl rfl ?_
    refine r_getI hV dX1_isPlace_6 fl_X1_43 (by first | decide | omega) (by first | rfl | assumption) rfl ?_
    refine r_icmp_ge hV 16 dX1_isPlace_9 (by decide) (fun c9 => ?_) (fun c9 => ?_)
    · refine r_iconst hV dX1_isPlace_16 (0) (by decide) ?_
      refine r_zret hV dX1_isPlace_17 rfl (by first | exact Or.inl rfl | exact Or.inr rfl) rfl ?_
      refine ⟨?_, rfl, rfl, rfl⟩
      simp_all [f_isP]
    · refine r_iconst hV dX1_isPlace_12 (1) (by decide) ?_
      refine r_goto hV 17 dX1_isPlace_13 (by decide) ?_
      refine r_zret hV dX1_isPlace_17 rfl (by first | exact Or.inl rfl | exact Or.inr rfl) rfl ?_
      refine ⟨?_, rfl, rfl, rfl⟩
      simp_all [f_isP]

def f_isE (I : zI) (d : Nat) (a : Int32) : Int32 := if 0 ≤ a ∧ a < I d 3 then 1 else 0
set_option maxRecDepth 20000 in
theorem m_isErrand (I : zI) (J : zJ) (P : zP) (d : Nat) (hD : zDay P d) (a : Int32) : z_Fn 0 yX1_isErrand cX1_isErrand 2 (some .boolean) 108 108 I J P [.ref d, .int a] (some (.int (f_isE I d a))) (I) (J) (P) := by
  obtain ⟨hd, p4, p5, p6, p7, p8⟩ := id hD
  obtain ⟨hlt, s0, s1, s2, s3, s4, s5⟩ := zDay_s hD
  refine z_met false rfl (fun h => by cases h) (Nat.le_of_ble_eq_true rfl) (by first | decide | omega) (fun V hV => ?_)
  show V 108 I J P 0 [.ref d, .int a] []
  refine r_iload_n hV dX1_isErrand_0 rfl ?_
  refine r_if_lt hV 16 dX1_isErrand_1 (by decide) (fun c1 => ?_) (fun c1 => ?_)
  · refine r_iconst hV dX1_isErrand_16 (0) (by decide) ?_
    refine r_zret hV dX1_isErrand_17 rfl (by first | exact Or.inl rfl | exact Or.inr rfl) rfl ?_
    refine ⟨?_, rfl, rfl, rfl⟩
    simp_all [f_isE]
  · refine r_iload_n hV dX1_isErrand_4 rfl ?_
    refine r_aload_n hV dX1_isErrand_5 rfl rfl ?_
    refine r_getI hV dX1_isErrand_6 fl_X1_53 (by first | decide | omega) (by first | rfl | assumption) rfl ?_
    refine r_icmp_ge hV 16 dX1_isErrand_9 (by decide) (fun c9 => ?_) (fun c9 => ?_)
    · refine r_iconst hV dX1_isErrand_16 (0) (by decide) ?_
      refine r_zret hV dX1_isErrand_17 rfl (by first | exact Or.inl rfl | exact Or.inr rfl) rfl ?_
      refine ⟨?_, rfl, rfl, rfl⟩
      simp_all [f_isE]
    · refine r_iconst hV dX1_isErrand_12 (1) (by decide) ?_
      refine r_goto hV 17 dX1_isErrand_13 (by decide) ?_
      refine r_zret hV dX1_isErrand_17 rfl (by first | exact Or.inl rfl | exact Or.inr rfl) rfl ?_
      refine ⟨?_, rfl, rfl, rfl⟩
      simp_all [f_isE]
