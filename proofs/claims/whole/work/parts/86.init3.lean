/-! the other object's making -/
def PTl : List (Nat × Nat) := [(1, 79), (7, 80), (9, 81), (10, 82), (11, 83), (16, 84), (17, 85), (18, 86), (19, 87), (20, 88), (25, 89), (26, 90), (28, 91), (29, 92), (30, 93), (31, 94), (36, 95), (37, 96), (38, 97), (39, 98), (40, 99), (41, 100), (42, 101), (43, 102), (44, 103), (45, 104), (46, 105), (47, 106), (48, 107)]
/-- as far as cell m: what was there, the new arrays, their fields; s: the object's numbers -/
def zQ (I0 : zI) (P0 : zP) (m : Nat) (s : Nat → Int32) (I : zI) (P : zP) : Prop := (∀ q, q < 78 → I q = I0 q ∧ P q = P0 q) ∧ (∀ q, 78 < q → q < m → I q = fun _ => 0) ∧ (∀ kc, kc ∈ PTl → kc.2 < m → P 78 kc.1 = some kc.2) ∧ I 78 = s
theorem zQ_0 (I : zI) (P : zP) : zQ I P 79 (I 78) I P := ⟨fun q _ => ⟨rfl, rfl⟩, fun q a b => absurd b (by omega), fun kc h1 h2 => absurd h2 ((by decide : ∀ kc ∈ PTl, ¬ kc.2 < 79) kc h1), rfl⟩
theorem zQ_i {I0 : zI} {P0 : zP} {m : Nat} {s : Nat → Int32} {I : zI} {P : zP} (h : zQ I0 P0 m s I P) (k : Nat) (x : Int32) : zQ I0 P0 m (zu s k x) (zu I 78 (zu (I 78) k x)) P := by
  obtain ⟨h1, h2, h3, h4⟩ := h
  refine ⟨fun q hq => ⟨by rw [zu_n _ _ (by omega)]; exact (h1 q hq).1, (h1 q hq).2⟩, fun q a b => by rw [zu_n _ _ (by omega)]; exact h2 q a b, h3, by rw [zu_s, h4]⟩
theorem zQ_s {I0 : zI} {P0 : zP} {n m k : Nat} {s : Nat → Int32} {I : zI} {P : zP} (hm : m = n + 1) (h78 : 78 < n) (hk : ∀ kc ∈ PTl, (kc.1 = k ↔ kc.2 = n)) (h : zQ I0 P0 n s I P) : zQ I0 P0 m s (zu I n (fun _ => 0)) (zu (zu P n (fun _ => none)) 78 (zu ((zu P n (fun _ => none)) 78) k (some n))) := by
  obtain ⟨h1, h2, h3, h4⟩ := h
  refine ⟨fun q hq => ⟨by rw [zu_n _ _ (by omega)]; exact (h1 q hq).1, by rw [zu_n _ _ (by omega), zu_n _ _ (by omega)]; exact (h1 q hq).2⟩, fun q a b => ?_, fun kc hkc hlt => ?_, by rw [zu_n _ _ (by omega)]; exact h4⟩
  · by_cases hq : q = n
    · rw [hq, zu_s]
    · rw [zu_n _ _ hq]; exact h2 q a (by omega)
  · rw [zu_s]
    by_cases hq : kc.2 = n
    · rw [(hk kc hkc).mpr hq, zu_s, hq]
    · rw [zu_n _ _ (fun e => hq ((hk kc hkc).mp e)), zu_n _ _ (by omega)]
      exact h3 kc hkc (by omega)
theorem i_put {V : Nat → zI → zJ → zP → Nat → List Value → List Value → Prop} {post : Option Value → zI → zJ → zP → Prop} {d n1 : Nat} {ret : Option FieldType} {sc : Option (Nat × (Nat → Int32))} (hV : z_Cl RX12 cX12_init d n1 true sc ret post V) {pc i k n m : Nat} {I0 I : zI} {J : zJ} {P0 P : zP} {s : Nat → Int32} (hm : m = n + 1) (hd : decode cX12_init pc = .ok (.putfield i, 3)) (hf : z_FL RX12 i 12 k false) (hp : z_pf RX12 true i 12 k) (h78 : 78 < n) (hk : ∀ kc ∈ PTl, (kc.1 = k ↔ kc.2 = n)) (hQ : zQ I0 P0 n s I P) (hgo : ∀ (I : zI) (J : zJ) (P : zP), zQ I0 P0 m s I P → V m I J P (pc + 3) [.ref 78, .null] []) : V (n + 1) (zu I n (fun _ => 0)) (zu J n (fun _ => 0)) (zu P n (fun _ => none)) pc [.ref 78, .null] [.ref n, .ref 78] := by
  have h := hgo _ (zu J n (fun _ => 0)) _ (zQ_s hm h78 hk hQ)
  rw [hm] at h
  exact r_putR hV hd hf hp (by omega) rfl h
def q_i12 (I : zI) (P : zP) (v : Option Value) (I1 : zI) (J1 : zJ) (P1 : zP) : Prop := v = none ∧ mK P1 ∧ (∀ q, q < 78 → I1 q = I q ∧ P1 q = P q) ∧ I1 78 4 = iI 2 ∧ (∀ k, k ≠ 4 → I1 78 k = I 78 k) ∧ z_ar I1 80 36 (mRf (fun _ => 0)) ∧ ∀ q, 78 < q → q < 108 → q ≠ 80 → I1 q = fun _ => 0
set_option maxRecDepth 20000 in
theorem i_mod (I : zI) (J : zJ) (P : zP)  : z_Sp 3 yX12_init cX12_init 2 none 79 108 I J P [.ref 78] (q_i12 I P) := by
  refine z_met true (by decide +kernel) (fun _ => rfl) (Nat.le_of_ble_eq_true rfl) (by first | decide | omega) (fun V hV => ?_)
  show V 79 I J P 0 [.ref 78, .null] []
  refine r_aload_n hV dX12_init_0 rfl rfl ?_
  refine r_objinit hV dX12_init_1 oi_X12_1 (by decide) (Nat.le_of_ble_eq_true rfl) ?_
  have hQ0 := zQ_0 I P
  refine r_aload_n hV dX12_init_4 rfl rfl ?_
  refine s_bipush hV dX12_init_5 (80) (by decide) ?_
  refine r_newarray hV _ dX12_init_7 ac_int (by first | rfl | assumption) ⟨by decide, rfl, by decide⟩ (by first | decide | omega) ?_
  refine i_put hV rfl dX12_init_9 fl_X12_7 pf_X12_7 (by decide) (by decide) hQ0 (fun I1 J1 P1 hQ1 => ?_)
  refine r_aload_n hV dX12_init_12 rfl rfl ?_
  refine s_iconst hV dX12_init_13 (2) (by decide) ?_
  refine r_putI hV dX12_init_14 fl_X12_13 (pf_X12_13 _) (z_okI_int rfl _) (by first | decide | omega) (by first | rfl | assumption) ?_
  have hQ1b := zQ_i hQ1 4 (iI 2)
  generalize zu I1 78 (zu (I1 78) 4 (iI 2)) = I1b at hQ1b ⊢
  refine r_aload_n hV dX12_init_17 rfl rfl ?_
  refine s_bipush hV dX12_init_18 (36) (by decide) ?_
  refine r_newarray hV _ dX12_init_20 ac_int (by first | rfl | assumption) ⟨by decide, rfl, by decide⟩ (by first | decide | omega) ?_
  refine i_put hV rfl dX12_init_22 fl_X12_17 pf_X12_17 (by decide) (by decide) hQ1b (fun I2 J2 P2 hQ2 => ?_)
  clear hQ1b hQ1 I1b I1 J1 P1
  refine r_aload_n hV dX12_init_25 rfl rfl ?_
  refine s_bipush hV dX12_init_26 (6) (by decide) ?_
  refine r_newarray hV _ dX12_init_28 ac_int (by first | rfl | assumption) ⟨by decide, rfl, by decide⟩ (by first | decide | omega) ?_
  refine i_put hV rfl dX12_init_30 fl_X12_20 pf_X12_20 (by decide) (by decide) hQ2 (fun I3 J3 P3 hQ3 => ?_)
  clear hQ2 I2 J2 P2
  refine r_aload_n hV dX12_init_33 rfl rfl ?_
  refine s_bipush hV dX12_init_34 (6) (by decide) ?_
  refine r_newarray hV _ dX12_init_36 ac_int (by first | rfl | assumption) ⟨by decide, rfl, by decide⟩ (by first | decide | omega) ?_
  refine i_put hV rfl dX12_init_38 fl_X12_23 pf_X12_23 (by decide) (by decide) hQ3 (fun I4 J4 P4 hQ4 => ?_)
  clear hQ3 I3 J3 P3
  refine r_aload_n hV dX12_init_41 rfl rfl ?_
  refine s_bipush hV dX12_init_42 (6) (by decide) ?_
  refine r_newarray hV _ dX12_init_44 ac_int (by first | rfl | assumption) ⟨by decide, rfl, by decide⟩ (by first | decide | omega) ?_
  refine i_put hV rfl dX12_init_46 fl_X12_26 pf_X12_26 (by decide) (by decide) hQ4 (fun I5 J5 P5 hQ5 => ?_)
  clear hQ4 I4 J4 P4
  refine r_aload_n hV dX12_init_49 rfl rfl ?_
  refine s_bipush hV dX12_init_50 (36) (by decide) ?_
  refine r_newarray hV _ dX12_init_52 ac_int (by first | rfl | assumption) ⟨by decide, rfl, by decide⟩ (by first | decide | omega) ?_
  refine i_put hV rfl dX12_init_54 fl_X12_29 pf_X12_29 (by decide) (by decide) hQ5 (fun I6 J6 P6 hQ6 => ?_)
  clear hQ5 I5 J5 P5
  refine r_aload_n hV dX12_init_57 rfl rfl ?_
  refine s_bipush hV dX12_init_58 (6) (by decide) ?_
  refine r_newarray hV _ dX12_init_60 ac_int (by first | rfl | assumption) ⟨by decide, rfl, by decide⟩ (by first | decide | omega) ?_
  refine i_put hV rfl dX12_init_62 fl_X12_32 pf_X12_32 (by decide) (by decide) hQ6 (fun I7 J7 P7 hQ7 => ?_)
  clear hQ6 I6 J6 P6
  refine r_aload_n hV dX12_init_65 rfl rfl ?_
  refine s_bipush hV dX12_init_66 (6) (by decide) ?_
  refine r_newarray hV _ dX12_init_68 ac_int (by first | rfl | assumption) ⟨by decide, rfl, by decide⟩ (by first | decide | omega) ?_
  refine i_put hV rfl dX12_init_70 fl_X12_35 pf_X12_35 (by decide) (by decide) hQ7 (fun I8 J8 P8 hQ8 => ?_)
  clear hQ7 I7 J7 P7
  refine r_aload_n hV dX12_init_73 rfl rfl ?_
  refine s_bipush hV dX12_init_74 (6) (by decide) ?_
  refine r_newarray hV _ dX12_init_76 ac_int (by first | rfl | assumption) ⟨by decide, rfl, by decide⟩ (by first | decide | omega) ?_
  refine i_put hV rfl dX12_init_78 fl_X12_38 pf_X12_38 (by decide) (by decide) hQ8 (fun I9 J9 P9 hQ9 => ?_)
  clear hQ8 I8 J8 P8
  refine r_aload_n hV dX12_init_81 rfl rfl ?_
  refine s_iconst hV dX12_init_82 (2) (by decide) ?_
  refine r_newarray hV _ dX12_init_83 ac_int (by first | rfl | assumption) ⟨by decide, rfl, by decide⟩ (by first | decide | omega) ?_
  refine i_put hV rfl dX12_init_85 fl_X12_41 pf_X12_41 (by decide) (by decide) hQ9 (fun I10 J10 P10 hQ10 => ?_)
  clear hQ9 I9 J9 P9
  refine r_aload_n hV dX12_init_88 rfl rfl ?_
  refine s_bipush hV dX12_init_89 (8) (by decide) ?_
  refine r_newarray hV _ dX12_init_91 ac_int (by first | rfl | assumption) ⟨by decide, rfl, by decide⟩ (by first | decide | omega) ?_
  refine i_put hV rfl dX12_init_93 fl_X12_44 pf_X12_44 (by decide) (by decide) hQ10 (fun I11 J11 P11 hQ11 => ?_)
  clear hQ10 I10 J10 P10
  refine r_aload_n hV dX12_init_96 rfl rfl ?_
  refine s_sipush hV dX12_init_97 (448) (by decide) ?_
  refine r_newarray hV _ dX12_init_100 ac_int (by first | rfl | assumption) ⟨by decide, rfl, by decide⟩ (by first | decide | omega) ?_
  refine i_put hV rfl dX12_init_102 fl_X12_47 pf_X12_47 (by decide) (by decide) hQ11 (fun I12 J12 P12 hQ12 => ?_)
  clear hQ11 I11 J11 P11
  refine r_aload_n hV dX12_init_105 rfl rfl ?_
  refine s_bipush hV dX12_init_106 (56) (by decide) ?_
  refine r_newarray hV _ dX12_init_108 ac_int (by first | rfl | assumption) ⟨by decide, rfl, by decide⟩ (by first | decide | omega) ?_
  refine i_put hV rfl dX12_init_110 fl_X12_50 pf_X12_50 (by decide) (by decide) hQ12 (fun I13 J13 P13 hQ13 => ?_)
  clear hQ12 I12 J12 P12
  refine r_aload_n hV dX12_init_113 rfl rfl ?_
  refine s_iconst hV dX12_init_114 (2) (by decide) ?_
  refine r_newarray hV _ dX12_init_115 ac_boolean (by first | rfl | assumption) ⟨by decide, rfl, by decide⟩ (by first | decide | omega) ?_
  refine i_put hV rfl dX12_init_117 fl_X12_53 pf_X12_53 (by decide) (by decide) hQ13 (fun I14 J14 P14 hQ14 => ?_)
  clear hQ13 I13 J13 P13
  refine r_aload_n hV dX12_init_120 rfl rfl ?_
  refine s_sipush hV dX12_init_121 (128) (by decide) ?_
  refine r_newarray hV _ dX12_init_124 ac_int (by first | rfl | assumption) ⟨by decide, rfl, by decide⟩ (by first | decide | omega) ?_
  refine i_put hV rfl dX12_init_126 fl_X12_57 pf_X12_57 (by decide) (by decide) hQ14 (fun I15 J15 P15 hQ15 => ?_)
  clear hQ14 I14 J14 P14
  refine r_aload_n hV dX12_init_129 rfl rfl ?_
  refine s_sipush hV dX12_init_130 (384) (by decide) ?_
  refine r_newarray hV _ dX12_init_133 ac_int (by first | rfl | assumption) ⟨by decide, rfl, by decide⟩ (by first | decide | omega) ?_
  refine i_put hV rfl dX12_init_135 fl_X12_60 pf_X12_60 (by decide) (by decide) hQ15 (fun I16 J16 P16 hQ16 => ?_)
  clear hQ15 I15 J15 P15
  refine r_aload_n hV dX12_init_138 rfl rfl ?_
  refine s_bipush hV dX12_init_139 (9) (by decide) ?_
  refine r_newarray hV _ dX12_init_141 ac_int (by first | rfl | assumption) ⟨by decide, rfl, by decide⟩ (by first | decide | omega) ?_
  refine i_put hV rfl dX12_init_143 fl_X12_63 pf_X12_63 (by decide) (by decide) hQ16 (fun I17 J17 P17 hQ17 => ?_)
  clear hQ16 I16 J16 P16
  refine r_aload_n hV dX12_init_146 rfl rfl ?_
  refine s_bipush hV dX12_init_147 (9) (by decide) ?_
  refine r_newarray hV _ dX12_init_149 ac_int (by first | rfl | assumption) ⟨by decide, rfl, by decide⟩ (by first | decide | omega) ?_
  refine i_put hV rfl dX12_init_151 fl_X12_66 pf_X12_66 (by decide) (by decide) hQ17 (fun I18 J18 P18 hQ18 => ?_)
  clear hQ17 I17 J17 P17
  refine r_aload_n hV dX12_init_154 rfl rfl ?_
  refine s_bipush hV dX12_init_155 (9) (by decide) ?_
  refine r_newarray hV _ dX12_init_157 ac_int (by first | rfl | assumption) ⟨by decide, rfl, by decide⟩ (by first | decide | omega) ?_
  refine i_put hV rfl dX12_init_159 fl_X12_69 pf_X12_69 (by decide) (by decide) hQ18 (fun I19 J19 P19 hQ19 => ?_)
  clear hQ18 I18 J18 P18
  refine r_aload_n hV dX12_init_162 rfl rfl ?_
  refine s_bipush hV dX12_init_163 (9) (by decide) ?_
  refine r_newarray hV _ dX12_init_165 ac_int (by first | rfl | assumption) ⟨by decide, rfl, by decide⟩ (by first | decide | omega) ?_
  refine i_put hV rfl dX12_init_167 fl_X12_72 pf_X12_72 (by decide) (by decide) hQ19 (fun I20 J20 P20 hQ20 => ?_)
  clear hQ19 I19 J19 P19
  refine r_aload_n hV dX12_init_170 rfl rfl ?_
  refine s_bipush hV dX12_init_171 (9) (by decide) ?_
  refine r_newarray hV _ dX12_init_173 ac_int (by first | rfl | assumption) ⟨by decide, rfl, by decide⟩ (by first | decide | omega) ?_
  refine i_put hV rfl dX12_init_175 fl_X12_75 pf_X12_75 (by decide) (by decide) hQ20 (fun I21 J21 P21 hQ21 => ?_)
  clear hQ20 I20 J20 P20
  refine r_aload_n hV dX12_init_178 rfl rfl ?_
  refine s_bipush hV dX12_init_179 (9) (by decide) ?_
  refine r_newarray hV _ dX12_init_181 ac_int (by first | rfl | assumption) ⟨by decide, rfl, by decide⟩ (by first | decide | omega) ?_
  refine i_put hV rfl dX12_init_183 fl_X12_78 pf_X12_78 (by decide) (by decide) hQ21 (fun I22 J22 P22 hQ22 => ?_)
  clear hQ21 I21 J21 P21
  refine r_aload_n hV dX12_init_186 rfl rfl ?_
  refine s_bipush hV dX12_init_187 (9) (by decide) ?_
  refine r_newarray hV _ dX12_init_189 ac_int (by first | rfl | assumption) ⟨by decide, rfl, by decide⟩ (by first | decide | omega) ?_
  refine i_put hV rfl dX12_init_191 fl_X12_81 pf_X12_81 (by decide) (by decide) hQ22 (fun I23 J23 P23 hQ23 => ?_)
  clear hQ22 I22 J22 P22
  refine r_aload_n hV dX12_init_194 rfl rfl ?_
  refine s_bipush hV dX12_init_195 (9) (by decide) ?_
  refine r_newarray hV _ dX12_init_197 ac_int (by first | rfl | assumption) ⟨by decide, rfl, by decide⟩ (by first | decide | omega) ?_
  refine i_put hV rfl dX12_init_199 fl_X12_84 pf_X12_84 (by decide) (by decide) hQ23 (fun I24 J24 P24 hQ24 => ?_)
  clear hQ23 I23 J23 P23
  refine r_aload_n hV dX12_init_202 rfl rfl ?_
  refine s_bipush hV dX12_init_203 (9) (by decide) ?_
  refine r_newarray hV _ dX12_init_205 ac_int (by first | rfl | assumption) ⟨by decide, rfl, by decide⟩ (by first | decide | omega) ?_
  refine i_put hV rfl dX12_init_207 fl_X12_87 pf_X12_87 (by decide) (by decide) hQ24 (fun I25 J25 P25 hQ25 => ?_)
  clear hQ24 I24 J24 P24
  refine r_aload_n hV dX12_init_210 rfl rfl ?_
  refine s_bipush hV dX12_init_211 (9) (by decide) ?_
  refine r_newarray hV _ dX12_init_213 ac_int (by first | rfl | assumption) ⟨by decide, rfl, by decide⟩ (by first | decide | omega) ?_
  refine i_put hV rfl dX12_init_215 fl_X12_90 pf_X12_90 (by decide) (by decide) hQ25 (fun I26 J26 P26 hQ26 => ?_)
  clear hQ25 I25 J25 P25
  refine r_aload_n hV dX12_init_218 rfl rfl ?_
  refine s_bipush hV dX12_init_219 (9) (by decide) ?_
  refine r_newarray hV _ dX12_init_221 ac_int (by first | rfl | assumption) ⟨by decide, rfl, by decide⟩ (by first | decide | omega) ?_
  refine i_put hV rfl dX12_init_223 fl_X12_93 pf_X12_93 (by decide) (by decide) hQ26 (fun I27 J27 P27 hQ27 => ?_)
  clear hQ26 I26 J26 P26
  refine r_aload_n hV dX12_init_226 rfl rfl ?_
  refine s_sipush hV dX12_init_227 (6000) (by decide) ?_
  refine r_newarray hV _ dX12_init_230 ac_long (by first | rfl | assumption) ⟨by decide, rfl, by decide⟩ (by first | decide | omega) ?_
  refine i_put hV rfl dX12_init_232 fl_X12_96 pf_X12_96 (by decide) (by decide) hQ27 (fun I28 J28 P28 hQ28 => ?_)
  clear hQ27 I27 J27 P27
  refine r_aload_n hV dX12_init_235 rfl rfl ?_
  refine s_sipush hV dX12_init_236 (6000) (by decide) ?_
  refine r_newarray hV _ dX12_init_239 ac_long (by first | rfl | assumption) ⟨by decide, rfl, by decide⟩ (by first | decide | omega) ?_
  refine i_put hV rfl dX12_init_241 fl_X12_100 pf_X12_100 (by decide) (by decide) hQ28 (fun I29 J29 P29 hQ29 => ?_)
  clear hQ28 I28 J28 P28
  obtain ⟨g1, g2, g3, g4⟩ := hQ29
  have o7 : P29 78 7 = some 80 := g3 (7, 80) (by decide) (by decide)
  refine s_iconst hV dX12_init_244 (0) (by decide) ?_
  refine r_istore_n hV dX12_init_245 (Nat.le_of_ble_eq_true rfl) (z_st1_2_1 rfl) ?_
  have L246 : ∀ (k246 j : Nat) (IX : zI) (JX : zJ), 36 - j < k246 → j ≤ 36 → (z_ar IX 80 (j : Int) (mRf (fun _ => 0))) → (∀ q, q ≠ 80 → IX q = I29 q) → V 108 IX JX P29 246 [.ref 78, .int (iI (j : Int))] [] := by
    intro k246
    induction k246 with
    | zero => intro j IX  JX  hk1 hk2; omega
    | succ k246 ih246 =>
      intro j IX  JX  hk246 hl246 hz hfr
      refine r_iload_n hV dX12_init_246 rfl ?_
      refine s_bipush hV dX12_init_247 (36) (by decide) ?_
      refine s_icmp_ge hV 281 dX12_init_249 (by decide) (by unfold z_rg; first | omega | (split <;> omega)) (by unfold z_rg; first | omega | (split <;> omega)) (fun c249 => ?_) (fun c249 => ?_)
      · refine r_vret hV dX12_init_281 rfl rfl ?_
        rw [show j = 36 by omega] at hz
        have e78 : IX 78 = zu (I 78) 4 (iI 2) := (hfr 78 (by omega)).trans g4
        refine ⟨rfl, ⟨g3 (1, 79) (by decide) (by decide), g3 (7, 80) (by decide) (by decide), g3 (9, 81) (by decide) (by decide), g3 (10, 82) (by decide) (by decide), g3 (11, 83) (by decide) (by decide), g3 (16, 84) (by decide) (by decide), g3 (17, 85) (by decide) (by decide), g3 (18, 86) (by decide) (by decide), g3 (19, 87) (by decide) (by decide), g3 (20, 88) (by decide) (by decide), g3 (25, 89) (by decide) (by decide), g3 (26, 90) (by decide) (by decide), g3 (28, 91) (by decide) (by decide), g3 (29, 92) (by decide) (by decide), g3 (30, 93) (by decide) (by decide), g3 (31, 94) (by decide) (by decide), g3 (36, 95) (by decide) (by decide), g3 (37, 96) (by decide) (by decide), g3 (38, 97) (by decide) (by decide), g3 (39, 98) (by decide) (by decide), g3 (40, 99) (by decide) (by decide), g3 (41, 100) (by decide) (by decide), g3 (42, 101) (by decide) (by decide), g3 (43, 102) (by decide) (by decide), g3 (44, 103) (by decide) (by decide), g3 (45, 104) (by decide) (by decide), g3 (46, 105) (by decide) (by decide), g3 (47, 106) (by decide) (by decide), g3 (48, 107) (by decide) (by decide)⟩, fun q h => ⟨(hfr q (by omega)).trans (g1 q h).1, (g1 q h).2⟩, by rw [e78, zu_s], fun k h => by rw [e78, zu_n _ _ h], hz, fun q h1 h2 h3 => (hfr q h3).trans (g2 q h1 h2)⟩
      · refine r_aload_n hV dX12_init_252 rfl rfl ?_
        refine r_getR hV dX12_init_253 fl_X12_17 (by first | decide | omega) (by first | rfl | assumption) o7 ?_
        refine r_iload_n hV dX12_init_256 rfl ?_
        refine r_iload_n hV dX12_init_257 rfl ?_
        refine s_bipush hV dX12_init_258 (6) (by decide) ?_
        refine s_idiv hV dX12_init_260 (by unfold z_rg; first | omega | (split <;> omega)) (by unfold z_rg; first | omega | (split <;> omega)) (by omega) (by omega) ?_
        refine r_iload_n hV dX12_init_261 rfl ?_
        refine s_bipush hV dX12_init_262 (6) (by decide) ?_
        refine s_irem hV dX12_init_264 (by unfold z_rg; first | omega | (split <;> omega)) (by unfold z_rg; first | omega | (split <;> omega)) (by omega) (by omega) ?_
        refine s_icmp_ne hV 272 dX12_init_265 (by decide) (by unfold z_rg; first | omega | (split <;> omega)) (by unfold z_rg; first | omega | (split <;> omega)) (fun c265 => ?_) (fun c265 => ?_)
        · refine s_ldc hV dX12_init_272 ct_X12_103 (99999) (by decide) ?_
          first
            | rw [show iI 99999 = iI (mRf (fun _ => 0) (j : Int)) by unfold mRf; rw [if_neg (by omega), if_pos rfl]]
            | rw [show iI 0 = iI (mRf (fun _ => 0) (j : Int)) by unfold mRf; rw [if_pos (by omega)]]
          refine s_iastore hV dX12_init_274 (by first | decide | omega) (by first | rfl | assumption) (by decide) (by omega) (by omega) ?_
          refine s_iinc hV dX12_init_275 rfl (z_st1_2_1 rfl) ?_
          refine r_goto hV 246 dX12_init_278 (by decide) ?_
          exact ih246 (j + 1) _ _ (by omega) (by omega) (z_ar_push hz) (fun q h => by rw [zu_n _ _ h]; exact hfr q h)
        · refine s_iconst hV dX12_init_268 (0) (by decide) ?_
          refine r_goto hV 274 dX12_init_269 (by decide) ?_
          first
            | rw [show iI 99999 = iI (mRf (fun _ => 0) (j : Int)) by unfold mRf; rw [if_neg (by omega), if_pos rfl]]
            | rw [show iI 0 = iI (mRf (fun _ => 0) (j : Int)) by unfold mRf; rw [if_pos (by omega)]]
          refine s_iastore hV dX12_init_274 (by first | decide | omega) (by first | rfl | assumption) (by decide) (by omega) (by omega) ?_
          refine s_iinc hV dX12_init_275 rfl (z_st1_2_1 rfl) ?_
          refine r_goto hV 246 dX12_init_278 (by decide) ?_
          exact ih246 (j + 1) _ _ (by omega) (by omega) (z_ar_push hz) (fun q h => by rw [zu_n _ _ h]; exact hfr q h)
  exact L246 37 0 I29 _ (by omega) (by omega) z_ar_0 (fun q h => rfl)

