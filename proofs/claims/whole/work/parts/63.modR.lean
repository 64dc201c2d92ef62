def q_ch (I : zI) (J : zJ) (P : zP) (D : Nat) (ok : Prop) [Decidable ok] (hp ip rest : Int) (gone home : Nat) (who ha hb : Int) (v : Option Value) (I1 : zI) (J1 : zJ) (P1 : zP) : Prop := v = some (.int (iI (if ok then 1 else 0))) ∧ J1 = J ∧ P1 = P ∧ (∀ q, (q < 95 ∨ 105 < q) → I1 q = I q) ∧ (∀ q i, i ≠ D + 1 → I1 q i = I q i) ∧ (ok → mFr I1 (D + 1) hp ip rest gone home who ha hb ∧ I1 101 (D + 1) = iI 0 ∧ I1 104 (D + 1) = iI (-9) ∧ I1 105 (D + 1) = iI (-9))
set_option maxRecDepth 20000 in
theorem n_ch00h (I : zI) (J : zJ) (P : zP) (hM : mK P) (n e : Nat) (hnb : 2 ≤ n ∧ n ≤ 6) (h8 : I 78 8 = iI (e : Int)) (he6 : e ≤ 6) (F W U K : Int → Int) (zF : z_ar I 80 36 (mF F)) (hFd : zD F) (zW : z_ar I 81 e W) (hWb : z_bd W e 0 (n - 1)) (zU : z_ar I 82 e U) (hUb : z_bd U 6 0 9) (zK : z_ar I 83 e K) (hKb : z_bd K 6 0 2) (D : Nat) (hD : D ≤ 7) (hp ip rest : Int) (gone : Nat) (hg64 : gone < 64) (ha hb : Int) (hFr : mFr I D hp ip rest gone 0 0 ha hb) (hhp : 0 ≤ hp ∧ hp < n) (hip : 0 ≤ ip ∧ ip < n) (hrest : -50000 ≤ rest ∧ rest ≤ 90000) (hcost : F (hp * 6) < 1000000) : z_Sp 2 yX12_choose cX12_choose 8 (some .boolean) 108 108 I J P [.ref 78, .int (iI (D : Int)), .int (iI 0)] (q_ch I J P D (F ((0) * 6) + F ((ip) * 6) ≤ rest - F (hp * 6)) (0) (ip) (rest - F (hp * 6)) gone 1 1 (ha) (hb)) := by
  obtain ⟨o1, o7, o9, o10, o11, o16, o17, o18, o19, o20, o25, o26, o28, o29, o30, o31, o36, o37, o38, o39, o40, o41, o42, o43, o44, o45, o46, o47, o48⟩ := id hM
  obtain ⟨e95, e96, e97, e98, e99, e100, e102, e103⟩ := id hFr
  have hfx := hFd (6 * hp + 0) (by omega) (by omega)
  rw [show 6 * hp + 0 = hp * 6 by omega] at hfx
  have hmv : mF F (6 * hp + 0) = F (hp * 6) := by
    unfold mF
    rw [show 6 * hp + 0 = hp * 6 by omega, if_pos hcost]
  refine z_met false (by decide +kernel) (fun h => by cases h) (Nat.le_of_ble_eq_true rfl) (by first | decide | omega) (fun V hV => ?_)
  show V 108 I J P 0 [.ref 78, .int (iI (D : Int)), .int (iI 0), .null, .null, .null, .null, .null] []
  refine r_aload_n hV dX12_choose_0 rfl rfl ?_
  refine r_getR hV dX12_choose_1 fl_X12_78 (by first | decide | omega) (by first | rfl | assumption) o41 ?_
  refine r_iload_n hV dX12_choose_4 rfl ?_
  refine s_iaload hV dX12_choose_5 (by first | decide | omega) (by first | rfl | assumption) (by decide) (by omega) (by omega) (show I 100 ((D : Nat) : Int).toNat = iI (0) from by rw [Int.toNat_natCast]; exact e100) ?_
  refine r_istore_n hV dX12_choose_6 (Nat.le_of_ble_eq_true rfl) (z_st1_8_3 rfl) ?_
  refine r_iload_n hV dX12_choose_7 rfl ?_
  refine s_if_ne hV 20 dX12_choose_8 (by decide) (by unfold z_rg; first | omega | (split <;> omega)) (fun c8 => absurd c8 (by decide)) (fun _ => ?_)
  refine r_aload_n hV dX12_choose_11 rfl rfl ?_
  refine r_getR hV dX12_choose_12 fl_X12_63 (by first | decide | omega) (by first | rfl | assumption) o36 ?_
  refine r_iload_n hV dX12_choose_15 rfl ?_
  refine s_iaload hV dX12_choose_16 (by first | decide | omega) (by first | rfl | assumption) (by decide) (by omega) (by omega) (show I 95 ((D : Nat) : Int).toNat = iI (hp) from by rw [Int.toNat_natCast]; exact e95) ?_
  refine r_goto hV 26 dX12_choose_17 (by decide) ?_
  refine r_istore hV dX12_choose_26 (Nat.le_of_ble_eq_true rfl) (z_st1_8_4 rfl) ?_
  refine r_iload_n hV dX12_choose_28 rfl ?_
  refine s_iconst hV dX12_choose_29 (1) (by decide) ?_
  refine s_isub hV dX12_choose_30 ?_
  refine r_istore hV dX12_choose_31 (Nat.le_of_ble_eq_true rfl) (z_st1_8_5 rfl) ?_
  refine r_iload_n hV dX12_choose_33 rfl ?_
  refine s_if_le hV 86 dX12_choose_34 (by decide) (by unfold z_rg; first | omega | (split <;> omega)) (fun _ => ?_) (fun c34 => absurd (by omega) c34)
  refine r_iload_n hV dX12_choose_86 rfl ?_
  refine s_if_ne hV 94 dX12_choose_87 (by decide) (by unfold z_rg; first | omega | (split <;> omega)) (fun c87 => absurd c87 (by omega)) (fun _ => ?_)
  refine s_iconst hV dX12_choose_90 (0) (by decide) ?_
  refine r_goto hV 101 dX12_choose_91 (by decide) ?_
  refine r_istore hV dX12_choose_101 (Nat.le_of_ble_eq_true rfl) (z_st1_8_6 rfl) ?_
  refine r_iload_n hV dX12_choose_103 rfl ?_
  refine s_iconst hV dX12_choose_104 (1) (by decide) ?_
  refine s_iadd hV dX12_choose_105 ?_
  refine r_istore hV dX12_choose_106 (Nat.le_of_ble_eq_true rfl) (z_st1_8_7 rfl) ?_
  refine r_aload_n hV dX12_choose_108 rfl rfl ?_
  refine r_getR hV dX12_choose_109 fl_X12_63 (by first | decide | omega) (by first | rfl | assumption) o36 ?_
  refine r_iload hV dX12_choose_112 rfl ?_
  refine r_iload_n hV dX12_choose_114 rfl ?_
  refine s_if_ne hV 123 dX12_choose_115 (by decide) (by unfold z_rg; first | omega | (split <;> omega)) (fun c115 => absurd c115 (by decide)) (fun _ => ?_)
  refine r_iload hV dX12_choose_118 rfl ?_
  refine r_goto hV 129 dX12_choose_120 (by decide) ?_
  refine s_iastore hV dX12_choose_129 (by first | decide | omega) (by first | rfl | assumption) (by decide) (by omega) (by omega) ?_
  generalize hgN1 : zu I 95 (zu (I 95) ((D : Int) + 1).toNat (iI (0))) = N1
  have uN1 : ∀ q, q ≠ 95 → N1 q = I q := fun q h => by rw [← hgN1, zu_n _ _ h]
  have aN1_95 : N1 95 (D + 1) = iI (0) := by rw [← hgN1, zu_s, show ((D : Int) + 1).toNat = D + 1 by omega, zu_s]
  have fN1 : ∀ q i, i ≠ D + 1 → N1 q i = I q i := fun q i h => by
    by_cases hq : q = 95
    · rw [hq, ← hgN1, zu_s, show ((D : Int) + 1).toNat = D + 1 by omega, zu_n _ _ h]
    · rw [uN1 q hq]
  have zN1 : ∀ q, (q < 95 ∨ 105 < q) → N1 q = I q := fun q h => uN1 q (by omega)
  clear hgN1
  refine r_aload_n hV dX12_choose_130 rfl rfl ?_
  refine r_getR hV dX12_choose_131 fl_X12_66 (by first | decide | omega) (by first | rfl | assumption) o37 ?_
  refine r_iload hV dX12_choose_134 rfl ?_
  refine r_iload_n hV dX12_choose_136 rfl ?_
  refine s_iconst hV dX12_choose_137 (1) (by decide) ?_
  refine s_icmp_ne hV 146 dX12_choose_138 (by decide) (by unfold z_rg; first | omega | (split <;> omega)) (by unfold z_rg; first | omega | (split <;> omega)) (fun _ => ?_) (fun c138 => absurd c138 (by decide))
  refine r_aload_n hV dX12_choose_146 rfl rfl ?_
  refine r_getR hV dX12_choose_147 fl_X12_66 (by first | decide | omega) (by first | rfl | assumption) o37 ?_
  refine r_iload_n hV dX12_choose_150 rfl ?_
  refine s_iaload hV dX12_choose_151 (by first | decide | omega) (by first | rfl | assumption) (by decide) (by omega) (by omega) (show N1 96 ((D : Nat) : Int).toNat = iI (ip) from by rw [Int.toNat_natCast]; exact (fN1 96 D (by omega)).trans e96) ?_
  refine s_iastore hV dX12_choose_152 (by first | decide | omega) (by first | rfl | assumption) (by decide) (by omega) (by omega) ?_
  generalize hgN2 : zu N1 96 (zu (N1 96) ((D : Int) + 1).toNat (iI (ip))) = N2
  have uN2 : ∀ q, q ≠ 96 → N2 q = N1 q := fun q h => by rw [← hgN2, zu_n _ _ h]
  have aN2_96 : N2 96 (D + 1) = iI (ip) := by rw [← hgN2, zu_s, show ((D : Int) + 1).toNat = D + 1 by omega, zu_s]
  have fN2 : ∀ q i, i ≠ D + 1 → N2 q i = I q i := fun q i h => by
    by_cases hq : q = 96
    · rw [hq, ← hgN2, zu_s, show ((D : Int) + 1).toNat = D + 1 by omega, zu_n _ _ h]; exact fN1 96 i h
    · rw [uN2 q hq]; exact fN1 q i h
  have zN2 : ∀ q, (q < 95 ∨ 105 < q) → N2 q = I q := fun q h => (uN2 q (by omega)).trans (zN1 q h)
  have aN2_95 : N2 95 (D + 1) = iI (0) := by rw [uN2 95 (by omega)]; exact aN1_95
  clear hgN2 fN1 zN1 aN1_95
  refine r_aload_n hV dX12_choose_153 rfl rfl ?_
  refine r_getR hV dX12_choose_154 fl_X12_69 (by first | decide | omega) (by first | rfl | assumption) o38 ?_
  refine r_iload hV dX12_choose_157 rfl ?_
  refine r_aload_n hV dX12_choose_159 rfl rfl ?_
  refine r_getR hV dX12_choose_160 fl_X12_69 (by first | decide | omega) (by first | rfl | assumption) o38 ?_
  refine r_iload_n hV dX12_choose_163 rfl ?_
  refine s_iaload hV dX12_choose_164 (by first | decide | omega) (by first | rfl | assumption) (by decide) (by omega) (by omega) (show N2 97 ((D : Nat) : Int).toNat = iI (rest) from by rw [Int.toNat_natCast]; exact (fN2 97 D (by omega)).trans e97) ?_
  refine r_aload_n hV dX12_choose_165 rfl rfl ?_
  refine r_getR hV dX12_choose_166 fl_X12_17 (by first | decide | omega) (by first | rfl | assumption) o7 ?_
  refine s_bipush hV dX12_choose_169 (6) (by decide) ?_
  refine r_iload hV dX12_choose_171 rfl ?_
  refine s_imul hV dX12_choose_173 ?_
  refine r_iload hV dX12_choose_174 rfl ?_
  refine s_iadd hV dX12_choose_176 ?_
  refine s_iaload hV dX12_choose_177 (by first | decide | omega) (by first | rfl | assumption) (by decide) (by omega) (by omega) (show N2 80 (6 * hp + 0).toNat = iI (F (hp * 6)) from (congrFun (zN2 80 (by omega)) _).trans ((zF (6 * hp + 0) (by omega) (by omega)).trans (congrArg iI hmv))) ?_
  refine s_isub hV dX12_choose_178 ?_
  refine s_iastore hV dX12_choose_179 (by first | decide | omega) (by first | rfl | assumption) (by decide) (by omega) (by omega) ?_
  generalize hgN3 : zu N2 97 (zu (N2 97) ((D : Int) + 1).toNat (iI (rest - F (hp * 6)))) = N3
  have uN3 : ∀ q, q ≠ 97 → N3 q = N2 q := fun q h => by rw [← hgN3, zu_n _ _ h]
  have aN3_97 : N3 97 (D + 1) = iI (rest - F (hp * 6)) := by rw [← hgN3, zu_s, show ((D : Int) + 1).toNat = D + 1 by omega, zu_s]
  have fN3 : ∀ q i, i ≠ D + 1 → N3 q i = I q i := fun q i h => by
    by_cases hq : q = 97
    · rw [hq, ← hgN3, zu_s, show ((D : Int) + 1).toNat = D + 1 by omega, zu_n _ _ h]; exact fN2 97 i h
    · rw [uN3 q hq]; exact fN2 q i h
  have zN3 : ∀ q, (q < 95 ∨ 105 < q) → N3 q = I q := fun q h => (uN3 q (by omega)).trans (zN2 q h)
  have aN3_95 : N3 95 (D + 1) = iI (0) := by rw [uN3 95 (by omega)]; exact aN2_95
  have aN3_96 : N3 96 (D + 1) = iI (ip) := by rw [uN3 96 (by omega)]; exact aN2_96
  clear hgN3 fN2 zN2 aN2_95 aN2_96
  refine r_aload_n hV dX12_choose_180 rfl rfl ?_
  refine r_getR hV dX12_choose_181 fl_X12_72 (by first | decide | omega) (by first | rfl | assumption) o39 ?_
  refine r_iload hV dX12_choose_184 rfl ?_
  refine r_aload_n hV dX12_choose_186 rfl rfl ?_
  refine r_getR hV dX12_choose_187 fl_X12_72 (by first | decide | omega) (by first | rfl | assumption) o39 ?_
  refine r_iload_n hV dX12_choose_190 rfl ?_
  refine s_iaload hV dX12_choose_191 (by first | decide | omega) (by first | rfl | assumption) (by decide) (by omega) (by omega) (show N3 98 ((D : Nat) : Int).toNat = iI (((gone : Nat) : Int)) from by rw [Int.toNat_natCast]; exact (fN3 98 D (by omega)).trans e98) ?_
  refine r_iload_n hV dX12_choose_192 rfl ?_
  refine s_if_le hV 203 dX12_choose_193 (by decide) (by unfold z_rg; first | omega | (split <;> omega)) (fun _ => ?_) (fun c193 => absurd (by omega) c193)
  refine s_iconst hV dX12_choose_203 (0) (by decide) ?_
  refine s_ior hV dX12_choose_204 (show iI ((gone : Nat) : Int) ||| iI 0 = iI ((gone : Nat) : Int) from by have h0 := zb_or (b := 0) hg64 (by omega); rw [Nat.or_zero] at h0; exact h0) ?_
  refine s_iastore hV dX12_choose_205 (by first | decide | omega) (by first | rfl | assumption) (by decide) (by omega) (by omega) ?_
  generalize hgN4 : zu N3 98 (zu (N3 98) ((D : Int) + 1).toNat (iI (((gone : Nat) : Int)))) = N4
  have uN4 : ∀ q, q ≠ 98 → N4 q = N3 q := fun q h => by rw [← hgN4, zu_n _ _ h]
  have aN4_98 : N4 98 (D + 1) = iI (((gone : Nat) : Int)) := by rw [← hgN4, zu_s, show ((D : Int) + 1).toNat = D + 1 by omega, zu_s]
  have fN4 : ∀ q i, i ≠ D + 1 → N4 q i = I q i := fun q i h => by
    by_cases hq : q = 98
    · rw [hq, ← hgN4, zu_s, show ((D : Int) + 1).toNat = D + 1 by omega, zu_n _ _ h]; exact fN3 98 i h
    · rw [uN4 q hq]; exact fN3 q i h
  have zN4 : ∀ q, (q < 95 ∨ 105 < q) → N4 q = I q := fun q h => (uN4 q (by omega)).trans (zN3 q h)
  have aN4_95 : N4 95 (D + 1) = iI (0) := by rw [uN4 95 (by omega)]; exact aN3_95
  have aN4_96 : N4 96 (D + 1) = iI (ip) := by rw [uN4 96 (by omega)]; exact aN3_96
  have aN4_97 : N4 97 (D + 1) = iI (rest - F (hp * 6)) := by rw [uN4 97 (by omega)]; exact aN3_97
  clear hgN4 fN3 zN3 aN3_95 aN3_96 aN3_97
  refine r_aload_n hV dX12_choose_206 rfl rfl ?_
  refine r_getR hV dX12_choose_207 fl_X12_75 (by first | decide | omega) (by first | rfl | assumption) o40 ?_
  refine r_iload hV dX12_choose_210 rfl ?_
  refine r_aload_n hV dX12_choose_212 rfl rfl ?_
  refine r_getR hV dX12_choose_213 fl_X12_75 (by first | decide | omega) (by first | rfl | assumption) o40 ?_
  refine r_iload_n hV dX12_choose_216 rfl ?_
  refine s_iaload hV dX12_choose_217 (by first | decide | omega) (by first | rfl | assumption) (by decide) (by omega) (by omega) (show N4 99 ((D : Nat) : Int).toNat = iI (((0 : Nat) : Int)) from by rw [Int.toNat_natCast]; exact (fN4 99 D (by omega)).trans e99) ?_
  refine r_iload_n hV dX12_choose_218 rfl ?_
  refine s_if_ne hV 228 dX12_choose_219 (by decide) (by unfold z_rg; first | omega | (split <;> omega)) (fun c219 => absurd c219 (by omega)) (fun _ => ?_)
  refine s_iconst hV dX12_choose_222 (1) (by decide) ?_
  refine r_iload_n hV dX12_choose_223 rfl ?_
  refine s_ishl hV dX12_choose_224 (show iI 1 <<< (iI 0 &&& 31) = iI 1 from by decide) ?_
  refine r_goto hV 229 dX12_choose_225 (by decide) ?_
  refine s_ior hV dX12_choose_229 (show iI ((0 : Nat) : Int) ||| iI 1 = iI ((1 : Nat) : Int) from by decide) ?_
  refine s_iastore hV dX12_choose_230 (by first | decide | omega) (by first | rfl | assumption) (by decide) (by omega) (by omega) ?_
  generalize hgN5 : zu N4 99 (zu (N4 99) ((D : Int) + 1).toNat (iI (((1 : Nat) : Int)))) = N5
  have uN5 : ∀ q, q ≠ 99 → N5 q = N4 q := fun q h => by rw [← hgN5, zu_n _ _ h]
  have aN5_99 : N5 99 (D + 1) = iI (((1 : Nat) : Int)) := by rw [← hgN5, zu_s, show ((D : Int) + 1).toNat = D + 1 by omega, zu_s]
  have fN5 : ∀ q i, i ≠ D + 1 → N5 q i = I q i := fun q i h => by
    by_cases hq : q = 99
    · rw [hq, ← hgN5, zu_s, show ((D : Int) + 1).toNat = D + 1 by omega, zu_n _ _ h]; exact fN4 99 i h
    · rw [uN5 q hq]; exact fN4 q i h
  have zN5 : ∀ q, (q < 95 ∨ 105 < q) → N5 q = I q := fun q h => (uN5 q (by omega)).trans (zN4 q h)
  have aN5_95 : N5 95 (D + 1) = iI (0) := by rw [uN5 95 (by omega)]; exact aN4_95
  have aN5_96 : N5 96 (D + 1) = iI (ip) := by rw [uN5 96 (by omega)]; exact aN4_96
  have aN5_97 : N5 97 (D + 1) = iI (rest - F (hp * 6)) := by rw [uN5 97 (by omega)]; exact aN4_97
  have aN5_98 : N5 98 (D + 1) = iI (((gone : Nat) : Int)) := by rw [uN5 98 (by omega)]; exact aN4_98
  clear hgN5 fN4 zN4 aN4_95 aN4_96 aN4_97 aN4_98
  refine r_aload_n hV dX12_choose_231 rfl rfl ?_
  refine r_getR hV dX12_choose_232 fl_X12_84 (by first | decide | omega) (by first | rfl | assumption) o43 ?_
  refine r_iload hV dX12_choose_235 rfl ?_
  refine r_aload_n hV dX12_choose_237 rfl rfl ?_
  refine r_getR hV dX12_choose_238 fl_X12_84 (by first | decide | omega) (by first | rfl | assumption) o43 ?_
  refine r_iload_n hV dX12_choose_241 rfl ?_
  refine s_iaload hV dX12_choose_242 (by first | decide | omega) (by first | rfl | assumption) (by decide) (by omega) (by omega) (show N5 102 ((D : Nat) : Int).toNat = iI (ha) from by rw [Int.toNat_natCast]; exact (fN5 102 D (by omega)).trans e102) ?_
  refine r_iload_n hV dX12_choose_243 rfl ?_
  refine s_if_ne hV 261 dX12_choose_244 (by decide) (by unfold z_rg; first | omega | (split <;> omega)) (fun c244 => absurd c244 (by decide)) (fun _ => ?_)
  refine r_iload_n hV dX12_choose_247 rfl ?_
  refine s_if_le hV 261 dX12_choose_248 (by decide) (by unfold z_rg; first | omega | (split <;> omega)) (fun _ => ?_) (fun c248 => absurd (by omega) c248)
  refine s_iconst hV dX12_choose_261 (0) (by decide) ?_
  refine s_iadd hV dX12_choose_262 ?_
  rw [Int.add_zero]
  refine s_iastore hV dX12_choose_263 (by first | decide | omega) (by first | rfl | assumption) (by decide) (by omega) (by omega) ?_
  generalize hgN6 : zu N5 102 (zu (N5 102) ((D : Int) + 1).toNat (iI (ha))) = N6
  have uN6 : ∀ q, q ≠ 102 → N6 q = N5 q := fun q h => by rw [← hgN6, zu_n _ _ h]
  have aN6_102 : N6 102 (D + 1) = iI (ha) := by rw [← hgN6, zu_s, show ((D : Int) + 1).toNat = D + 1 by omega, zu_s]
  have fN6 : ∀ q i, i ≠ D + 1 → N6 q i = I q i := fun q i h => by
    by_cases hq : q = 102
    · rw [hq, ← hgN6, zu_s, show ((D : Int) + 1).toNat = D + 1 by omega, zu_n _ _ h]; exact fN5 102 i h
    · rw [uN6 q hq]; exact fN5 q i h
  have zN6 : ∀ q, (q < 95 ∨ 105 < q) → N6 q = I q := fun q h => (uN6 q (by omega)).trans (zN5 q h)
  have aN6_95 : N6 95 (D + 1) = iI (0) := by rw [uN6 95 (by omega)]; exact aN5_95
  have aN6_96 : N6 96 (D + 1) = iI (ip) := by rw [uN6 96 (by omega)]; exact aN5_96
  have aN6_97 : N6 97 (D + 1) = iI (rest - F (hp * 6)) := by rw [uN6 97 (by omega)]; exact aN5_97
  have aN6_98 : N6 98 (D + 1) = iI (((gone : Nat) : Int)) := by rw [uN6 98 (by omega)]; exact aN5_98
  have aN6_99 : N6 99 (D + 1) = iI (((1 : Nat) : Int)) := by rw [uN6 99 (by omega)]; exact aN5_99
  clear hgN6 fN5 zN5 aN5_95 aN5_96 aN5_97 aN5_98 aN5_99
  refine r_aload_n hV dX12_choose_264 rfl rfl ?_
  refine r_getR hV dX12_choose_265 fl_X12_87 (by first | decide | omega) (by first | rfl | assumption) o44 ?_
  refine r_iload hV dX12_choose_268 rfl ?_
  refine r_aload_n hV dX12_choose_270 rfl rfl ?_
  refine r_getR hV dX12_choose_271 fl_X12_87 (by first | decide | omega) (by first | rfl | assumption) o44 ?_
  refine r_iload_n hV dX12_choose_274 rfl ?_
  refine s_iaload hV dX12_choose_275 (by first | decide | omega) (by first | rfl | assumption) (by decide) (by omega) (by omega) (show N6 103 ((D : Nat) : Int).toNat = iI (hb) from by rw [Int.toNat_natCast]; exact (fN6 103 D (by omega)).trans e103) ?_
  refine r_iload_n hV dX12_choose_276 rfl ?_
  refine s_iconst hV dX12_choose_277 (1) (by decide) ?_
  refine s_icmp_ne hV 295 dX12_choose_278 (by decide) (by unfold z_rg; first | omega | (split <;> omega)) (by unfold z_rg; first | omega | (split <;> omega)) (fun _ => ?_) (fun c278 => absurd c278 (by decide))
  refine s_iconst hV dX12_choose_295 (0) (by decide) ?_
  refine s_iadd hV dX12_choose_296 ?_
  rw [Int.add_zero]
  refine s_iastore hV dX12_choose_297 (by first | decide | omega) (by first | rfl | assumption) (by decide) (by omega) (by omega) ?_
  generalize hgN7 : zu N6 103 (zu (N6 103) ((D : Int) + 1).toNat (iI (hb))) = N7
  have uN7 : ∀ q, q ≠ 103 → N7 q = N6 q := fun q h => by rw [← hgN7, zu_n _ _ h]
  have aN7_103 : N7 103 (D + 1) = iI (hb) := by rw [← hgN7, zu_s, show ((D : Int) + 1).toNat = D + 1 by omega, zu_s]
  have fN7 : ∀ q i, i ≠ D + 1 → N7 q i = I q i := fun q i h => by
    by_cases hq : q = 103
    · rw [hq, ← hgN7, zu_s, show ((D : Int) + 1).toNat = D + 1 by omega, zu_n _ _ h]; exact fN6 103 i h
    · rw [uN7 q hq]; exact fN6 q i h
  have zN7 : ∀ q, (q < 95 ∨ 105 < q) → N7 q = I q := fun q h => (uN7 q (by omega)).trans (zN6 q h)
  have aN7_95 : N7 95 (D + 1) = iI (0) := by rw [uN7 95 (by omega)]; exact aN6_95
  have aN7_96 : N7 96 (D + 1) = iI (ip) := by rw [uN7 96 (by omega)]; exact aN6_96
  have aN7_97 : N7 97 (D + 1) = iI (rest - F (hp * 6)) := by rw [uN7 97 (by omega)]; exact aN6_97
  have aN7_98 : N7 98 (D + 1) = iI (((gone : Nat) : Int)) := by rw [uN7 98 (by omega)]; exact aN6_98
  have aN7_99 : N7 99 (D + 1) = iI (((1 : Nat) : Int)) := by rw [uN7 99 (by omega)]; exact aN6_99
  have aN7_102 : N7 102 (D + 1) = iI (ha) := by rw [uN7 102 (by omega)]; exact aN6_102
  clear hgN7 fN6 zN6 aN6_95 aN6_96 aN6_97 aN6_98 aN6_99 aN6_102
  refine r_aload_n hV dX12_choose_298 rfl rfl ?_
  refine r_getR hV dX12_choose_299 fl_X12_78 (by first | decide | omega) (by first | rfl | assumption) o41 ?_
  refine r_iload hV dX12_choose_302 rfl ?_
  refine r_aload_n hV dX12_choose_304 rfl rfl ?_
  refine r_getR hV dX12_choose_305 fl_X12_75 (by first | decide | omega) (by first | rfl | assumption) o40 ?_
  refine r_iload hV dX12_choose_308 rfl ?_
  refine s_iaload hV dX12_choose_310 (by first | decide | omega) (by first | rfl | assumption) (by decide) (by omega) (by omega) (show N7 99 ((D : Int) + 1).toNat = iI ((1 : Nat) : Int) from by rw [show ((D : Int) + 1).toNat = D + 1 by omega]; exact aN7_99) ?_
  refine s_iconst hV dX12_choose_311 (1) (by decide) ?_
  refine r_iload_n hV dX12_choose_312 rfl ?_
  refine s_isub hV dX12_choose_313 ?_
  rw [show (1 : Int) - 0 = ((1 : Nat) : Int) from rfl]
  refine q_is2v hV dX12_choose_314 ms_X12_180 (n_has N7 J P 1 1 (by decide) (by decide)) (by decide) (Nat.le_refl _) (Nat.le_of_ble_eq_true rfl) ?_
  refine s_if_eq hV 324 dX12_choose_317 (by decide) (by unfold z_rg; first | omega | (split <;> omega)) (fun _ => ?_) (fun c317 => absurd (by decide) c317)
  refine s_iconst hV dX12_choose_324 (1) (by decide) ?_
  refine r_iload_n hV dX12_choose_325 rfl ?_
  refine s_isub hV dX12_choose_326 ?_
  rw [show (1 : Int) - 0 = 1 from rfl]
  refine s_iastore hV dX12_choose_327 (by first | decide | omega) (by first | rfl | assumption) (by decide) (by omega) (by omega) ?_
  generalize hgN8 : zu N7 100 (zu (N7 100) ((D : Int) + 1).toNat (iI (1))) = N8
  have uN8 : ∀ q, q ≠ 100 → N8 q = N7 q := fun q h => by rw [← hgN8, zu_n _ _ h]
  have aN8_100 : N8 100 (D + 1) = iI (1) := by rw [← hgN8, zu_s, show ((D : Int) + 1).toNat = D + 1 by omega, zu_s]
  have fN8 : ∀ q i, i ≠ D + 1 → N8 q i = I q i := fun q i h => by
    by_cases hq : q = 100
    · rw [hq, ← hgN8, zu_s, show ((D : Int) + 1).toNat = D + 1 by omega, zu_n _ _ h]; exact fN7 100 i h
    · rw [uN8 q hq]; exact fN7 q i h
  have zN8 : ∀ q, (q < 95 ∨ 105 < q) → N8 q = I q := fun q h => (uN8 q (by omega)).trans (zN7 q h)
  have aN8_95 : N8 95 (D + 1) = iI (0) := by rw [uN8 95 (by omega)]; exact aN7_95
  have aN8_96 : N8 96 (D + 1) = iI (ip) := by rw [uN8 96 (by omega)]; exact aN7_96
  have aN8_97 : N8 97 (D + 1) = iI (rest - F (hp * 6)) := by rw [uN8 97 (by omega)]; exact aN7_97
  have aN8_98 : N8 98 (D + 1) = iI (((gone : Nat) : Int)) := by rw [uN8 98 (by omega)]; exact aN7_98
  have aN8_99 : N8 99 (D + 1) = iI (((1 : Nat) : Int)) := by rw [uN8 99 (by omega)]; exact aN7_99
  have aN8_102 : N8 102 (D + 1) = iI (ha) := by rw [uN8 102 (by omega)]; exact aN7_102
  have aN8_103 : N8 103 (D + 1) = iI (hb) := by rw [uN8 103 (by omega)]; exact aN7_103
  clear hgN8 fN7 zN7 aN7_95 aN7_96 aN7_97 aN7_98 aN7_99 aN7_102 aN7_103
  refine r_aload_n hV dX12_choose_328 rfl rfl ?_
  refine r_getR hV dX12_choose_329 fl_X12_81 (by first | decide | omega) (by first | rfl | assumption) o42 ?_
  refine r_iload hV dX12_choose_332 rfl ?_
  refine s_iconst hV dX12_choose_334 (0) (by decide) ?_
  refine s_iastore hV dX12_choose_335 (by first | decide | omega) (by first | rfl | assumption) (by decide) (by omega) (by omega) ?_
  generalize hgN9 : zu N8 101 (zu (N8 101) ((D : Int) + 1).toNat (iI (0))) = N9
  have uN9 : ∀ q, q ≠ 101 → N9 q = N8 q := fun q h => by rw [← hgN9, zu_n _ _ h]
  have aN9_101 : N9 101 (D + 1) = iI (0) := by rw [← hgN9, zu_s, show ((D : Int) + 1).toNat = D + 1 by omega, zu_s]
  have fN9 : ∀ q i, i ≠ D + 1 → N9 q i = I q i := fun q i h => by
    by_cases hq : q = 101
    · rw [hq, ← hgN9, zu_s, show ((D : Int) + 1).toNat = D + 1 by omega, zu_n _ _ h]; exact fN8 101 i h
    · rw [uN9 q hq]; exact fN8 q i h
  have zN9 : ∀ q, (q < 95 ∨ 105 < q) → N9 q = I q := fun q h => (uN9 q (by omega)).trans (zN8 q h)
  have aN9_95 : N9 95 (D + 1) = iI (0) := by rw [uN9 95 (by omega)]; exact aN8_95
  have aN9_96 : N9 96 (D + 1) = iI (ip) := by rw [uN9 96 (by omega)]; exact aN8_96
  have aN9_97 : N9 97 (D + 1) = iI (rest - F (hp * 6)) := by rw [uN9 97 (by omega)]; exact aN8_97
  have aN9_98 : N9 98 (D + 1) = iI (((gone : Nat) : Int)) := by rw [uN9 98 (by omega)]; exact aN8_98
  have aN9_99 : N9 99 (D + 1) = iI (((1 : Nat) : Int)) := by rw [uN9 99 (by omega)]; exact aN8_99
  have aN9_102 : N9 102 (D + 1) = iI (ha) := by rw [uN9 102 (by omega)]; exact aN8_102
  have aN9_103 : N9 103 (D + 1) = iI (hb) := by rw [uN9 103 (by omega)]; exact aN8_103
  have aN9_100 : N9 100 (D + 1) = iI (1) := by rw [uN9 100 (by omega)]; exact aN8_100
  clear hgN9 fN8 zN8 aN8_95 aN8_96 aN8_97 aN8_98 aN8_99 aN8_102 aN8_103 aN8_100
  refine r_aload_n hV dX12_choose_336 rfl rfl ?_
  refine r_getR hV dX12_choose_337 fl_X12_90 (by first | decide | omega) (by first | rfl | assumption) o45 ?_
  refine r_iload hV dX12_choose_340 rfl ?_
  refine s_bipush hV dX12_choose_342 (-9) (by decide) ?_
  refine s_iastore hV dX12_choose_344 (by first | decide | omega) (by first | rfl | assumption) (by decide) (by omega) (by omega) ?_
  generalize hgN10 : zu N9 104 (zu (N9 104) ((D : Int) + 1).toNat (iI (-9))) = N10
  have uN10 : ∀ q, q ≠ 104 → N10 q = N9 q := fun q h => by rw [← hgN10, zu_n _ _ h]
  have aN10_104 : N10 104 (D + 1) = iI (-9) := by rw [← hgN10, zu_s, show ((D : Int) + 1).toNat = D + 1 by omega, zu_s]
  have fN10 : ∀ q i, i ≠ D + 1 → N10 q i = I q i := fun q i h => by
    by_cases hq : q = 104
    · rw [hq, ← hgN10, zu_s, show ((D : Int) + 1).toNat = D + 1 by omega, zu_n _ _ h]; exact fN9 104 i h
    · rw [uN10 q hq]; exact fN9 q i h
  have zN10 : ∀ q, (q < 95 ∨ 105 < q) → N10 q = I q := fun q h => (uN10 q (by omega)).trans (zN9 q h)
  have aN10_95 : N10 95 (D + 1) = iI (0) := by rw [uN10 95 (by omega)]; exact aN9_95
  have aN10_96 : N10 96 (D + 1) = iI (ip) := by rw [uN10 96 (by omega)]; exact aN9_96
  have aN10_97 : N10 97 (D + 1) = iI (rest - F (hp * 6)) := by rw [uN10 97 (by omega)]; exact aN9_97
  have aN10_98 : N10 98 (D + 1) = iI (((gone : Nat) : Int)) := by rw [uN10 98 (by omega)]; exact aN9_98
  have aN10_99 : N10 99 (D + 1) = iI (((1 : Nat) : Int)) := by rw [uN10 99 (by omega)]; exact aN9_99
  have aN10_102 : N10 102 (D + 1) = iI (ha) := by rw [uN10 102 (by omega)]; exact aN9_102
  have aN10_103 : N10 103 (D + 1) = iI (hb) := by rw [uN10 103 (by omega)]; exact aN9_103
  have aN10_100 : N10 100 (D + 1) = iI (1) := by rw [uN10 100 (by omega)]; exact aN9_100
  have aN10_101 : N10 101 (D + 1) = iI (0) := by rw [uN10 101 (by omega)]; exact aN9_101
  clear hgN10 fN9 zN9 aN9_95 aN9_96 aN9_97 aN9_98 aN9_99 aN9_102 aN9_103 aN9_100 aN9_101
  refine r_aload_n hV dX12_choose_345 rfl rfl ?_
  refine r_getR hV dX12_choose_346 fl_X12_93 (by first | decide | omega) (by first | rfl | assumption) o46 ?_
  refine r_iload hV dX12_choose_349 rfl ?_
  refine s_bipush hV dX12_choose_351 (-9) (by decide) ?_
  refine s_iastore hV dX12_choose_353 (by first | decide | omega) (by first | rfl | assumption) (by decide) (by omega) (by omega) ?_
  generalize hgN11 : zu N10 105 (zu (N10 105) ((D : Int) + 1).toNat (iI (-9))) = N11
  have uN11 : ∀ q, q ≠ 105 → N11 q = N10 q := fun q h => by rw [← hgN11, zu_n _ _ h]
  have aN11_105 : N11 105 (D + 1) = iI (-9) := by rw [← hgN11, zu_s, show ((D : Int) + 1).toNat = D + 1 by omega, zu_s]
  have fN11 : ∀ q i, i ≠ D + 1 → N11 q i = I q i := fun q i h => by
    by_cases hq : q = 105
    · rw [hq, ← hgN11, zu_s, show ((D : Int) + 1).toNat = D + 1 by omega, zu_n _ _ h]; exact fN10 105 i h
    · rw [uN11 q hq]; exact fN10 q i h
  have zN11 : ∀ q, (q < 95 ∨ 105 < q) → N11 q = I q := fun q h => (uN11 q (by omega)).trans (zN10 q h)
  have aN11_95 : N11 95 (D + 1) = iI (0) := by rw [uN11 95 (by omega)]; exact aN10_95
  have aN11_96 : N11 96 (D + 1) = iI (ip) := by rw [uN11 96 (by omega)]; exact aN10_96
  have aN11_97 : N11 97 (D + 1) = iI (rest - F (hp * 6)) := by rw [uN11 97 (by omega)]; exact aN10_97
  have aN11_98 : N11 98 (D + 1) = iI (((gone : Nat) : Int)) := by rw [uN11 98 (by omega)]; exact aN10_98
  have aN11_99 : N11 99 (D + 1) = iI (((1 : Nat) : Int)) := by rw [uN11 99 (by omega)]; exact aN10_99
  have aN11_102 : N11 102 (D + 1) = iI (ha) := by rw [uN11 102 (by omega)]; exact aN10_102
  have aN11_103 : N11 103 (D + 1) = iI (hb) := by rw [uN11 103 (by omega)]; exact aN10_103
  have aN11_100 : N11 100 (D + 1) = iI (1) := by rw [uN11 100 (by omega)]; exact aN10_100
  have aN11_101 : N11 101 (D + 1) = iI (0) := by rw [uN11 101 (by omega)]; exact aN10_101
  have aN11_104 : N11 104 (D + 1) = iI (-9) := by rw [uN11 104 (by omega)]; exact aN10_104
  clear hgN11 fN10 zN10 aN10_95 aN10_96 aN10_97 aN10_98 aN10_99 aN10_102 aN10_103 aN10_100 aN10_101 aN10_104
  refine r_aload_n hV dX12_choose_354 rfl rfl ?_
  refine r_iload hV dX12_choose_355 rfl ?_
  rw [show (D : Int) + 1 = ((D + 1 : Nat) : Int) by omega]
  refine q_iv1v hV dX12_choose_357 mv_X12_241 (n_canBoth N11 J P hM n hnb F (z_ar_fr zF (zN11 80 (by omega))) hFd (D + 1) (by omega) (0) (ip) (rest - F (hp * 6)) aN11_95 aN11_96 aN11_97 (by omega) (by omega) (by omega)) (by first | decide | omega) (by first | rfl | assumption) (by decide) (Nat.le_refl _) (Nat.le_of_ble_eq_true rfl) ?_
  refine s_zret hV dX12_choose_360 rfl (by split <;> omega) rfl ?_
  refine ⟨?_, rfl, rfl, zN11, fN11, fun _ => ⟨⟨aN11_95, aN11_96, aN11_97, aN11_98, aN11_99, aN11_100, aN11_102, aN11_103⟩, aN11_101, aN11_104, aN11_105⟩⟩
  rfl

set_option maxRecDepth 20000 in
theorem n_ch00e (I : zI) (J : zJ) (P : zP) (hM : mK P) (n e : Nat) (hnb : 2 ≤ n ∧ n ≤ 6) (h8 : I 78 8 = iI (e : Int)) (he6 : e ≤ 6) (F W U K : Int → Int) (zF : z_ar I 80 36 (mF F)) (hFd : zD F) (zW : z_ar I 81 e W) (hWb : z_bd W e 0 (n - 1)) (zU : z_ar I 82 e U) (hUb : z_bd U 6 0 9) (zK : z_ar I 83 e K) (hKb : z_bd K 6 0 2) (D : Nat) (hD : D ≤ 7) (hp ip rest : Int) (gone : Nat) (hg64 : gone < 64) (ha hb : Int) (hFr : mFr I D hp ip rest gone 0 0 ha hb) (hhp : 0 ≤ hp ∧ hp < n) (hip : 0 ≤ ip ∧ ip < n) (hrest : -50000 ≤ rest ∧ rest ≤ 90000) (x : Nat) (hx : x < e) : z_Sp 2 yX12_choose cX12_choose 8 (some .boolean) 108 108 I J P [.ref 78, .int (iI (D : Int)), .int (iI ((x : Int) + 1))] (q_ch I J P D ((¬ gone.testBit x = true ∧ (K (x : Int) = 2 ∨ K (x : Int) = 0) ∧ F (hp * 6 + W (x : Int)) < 1000000) ∧ F ((W (x : Int)) * 6) + F ((ip) * 6) ≤ rest - F (hp * 6 + W (x : Int))) (W (x : Int)) (ip) (rest - F (hp * 6 + W (x : Int))) (gone ||| 2 ^ x) 0 1 (ha + U (x : Int)) (hb)) := by
  obtain ⟨o1, o7, o9, o10, o11, o16, o17, o18, o19, o20, o25, o26, o28, o29, o30, o31, o36, o37, o38, o39, o40, o41, o42, o43, o44, o45, o46, o47, o48⟩ := id hM
  obtain ⟨e95, e96, e97, e98, e99, e100, e102, e103⟩ := id hFr
  refine z_met false (by decide +kernel) (fun h => by cases h) (Nat.le_of_ble_eq_true rfl) (by first | decide | omega) (fun V hV => ?_)
  show V 108 I J P 0 [.ref 78, .int (iI (D : Int)), .int (iI ((x : Int) + 1)), .null, .null, .null, .null, .null] []
  refine r_aload_n hV dX12_choose_0 rfl rfl ?_
  refine r_getR hV dX12_choose_1 fl_X12_78 (by first | decide | omega) (by first | rfl | assumption) o41 ?_
  refine r_iload_n hV dX12_choose_4 rfl ?_
  refine s_iaload hV dX12_choose_5 (by first | decide | omega) (by first | rfl | assumption) (by decide) (by omega) (by omega) (show I 100 ((D : Nat) : Int).toNat = iI (0) from by rw [Int.toNat_natCast]; exact e100) ?_
  refine r_istore_n hV dX12_choose_6 (Nat.le_of_ble_eq_true rfl) (z_st1_8_3 rfl) ?_
  refine r_iload_n hV dX12_choose_7 rfl ?_
  refine s_if_ne hV 20 dX12_choose_8 (by decide) (by unfold z_rg; first | omega | (split <;> omega)) (fun c8 => absurd c8 (by decide)) (fun _ => ?_)
  refine r_aload_n hV dX12_choose_11 rfl rfl ?_
  refine r_getR hV dX12_choose_12 fl_X12_63 (by first | decide | omega) (by first | rfl | assumption) o36 ?_
  refine r_iload_n hV dX12_choose_15 rfl ?_
  refine s_iaload hV dX12_choose_16 (by first | decide | omega) (by first | rfl | assumption) (by decide) (by omega) (by omega) (show I 95 ((D : Nat) : Int).toNat = iI (hp) from by rw [Int.toNat_natCast]; exact e95) ?_
  refine r_goto hV 26 dX12_choose_17 (by decide) ?_
  refine r_istore hV dX12_choose_26 (Nat.le_of_ble_eq_true rfl) (z_st1_8_4 rfl) ?_
  refine r_iload_n hV dX12_choose_28 rfl ?_
  refine s_iconst hV dX12_choose_29 (1) (by decide) ?_
  refine s_isub hV dX12_choose_30 ?_
  rw [show (x : Int) + 1 - 1 = (x : Int) by omega]
  refine r_istore hV dX12_choose_31 (Nat.le_of_ble_eq_true rfl) (z_st1_8_5 rfl) ?_
  refine r_iload_n hV dX12_choose_33 rfl ?_
  refine s_if_le hV 86 dX12_choose_34 (by decide) (by unfold z_rg; first | omega | (split <;> omega)) (fun c34 => absurd c34 (by omega)) (fun _ => ?_)
  refine r_aload_n hV dX12_choose_37 rfl rfl ?_
  refine r_getR hV dX12_choose_38 fl_X12_72 (by first | decide | omega) (by first | rfl | assumption) o39 ?_
  refine r_iload_n hV dX12_choose_41 rfl ?_
  refine s_iaload hV dX12_choose_42 (by first | decide | omega) (by first | rfl | assumption) (by decide) (by omega) (by omega) (show I 98 ((D : Nat) : Int).toNat = iI (((gone : Nat) : Int)) from by rw [Int.toNat_natCast]; exact e98) ?_
  refine r_iload hV dX12_choose_43 rfl ?_
  refine q_is2v hV dX12_choose_45 ms_X12_180 (n_has I J P gone x hg64 (by omega)) (by decide) (Nat.le_refl _) (Nat.le_of_ble_eq_true rfl) ?_
  refine s_if_ne hV 84 dX12_choose_48 (by decide) (by unfold z_rg; first | omega | (split <;> omega)) (fun c48 => ?_) (fun c48 => ?_)
  · have hg := z_ite1 c48
    refine s_iconst hV dX12_choose_84 (0) (by decide) ?_
    refine s_zret hV dX12_choose_85 rfl (by omega) rfl ?_
    refine ⟨?_, rfl, rfl, fun _ _ => rfl, fun _ _ _ => rfl, fun hh => ?_⟩
    · refine congrArg (fun z => some (Value.int (iI z))) ?_
      rw [if_neg (by first | exact fun hh => hh.1.1 hg | exact fun hh => hc hh.1.2.1 | (rw [hfe]; omega))]
    · first | exact absurd hg hh.1.1 | exact absurd hh.1.2.1 hc | (exfalso; rw [hfe] at hh; omega)
  · have hg := z_ite0 (by first | exact c48 | exact Classical.not_not.mp c48)
    refine r_aload_n hV dX12_choose_51 rfl rfl ?_
    refine r_iload_n hV dX12_choose_52 rfl ?_
    refine r_iload hV dX12_choose_53 rfl ?_
    refine q_iv2v hV dX12_choose_55 mv_X12_211 (n_canDo I J P hM e K zK he6 hKb 0 (x : Int) (by unfold z_rg; omega) (by omega)) (by first | decide | omega) (by first | rfl | assumption) (by decide) (Nat.le_refl _) (Nat.le_of_ble_eq_true rfl) ?_
    refine s_if_eq hV 84 dX12_choose_58 (by decide) (by unfold z_rg; first | omega | (split <;> omega)) (fun c58 => ?_) (fun c58 => ?_)
    · have hc := z_ite0 c58
      refine s_iconst hV dX12_choose_84 (0) (by decide) ?_
      refine s_zret hV dX12_choose_85 rfl (by omega) rfl ?_
      refine ⟨?_, rfl, rfl, fun _ _ => rfl, fun _ _ _ => rfl, fun hh => ?_⟩
      · refine congrArg (fun z => some (Value.int (iI z))) ?_
        rw [if_neg (by first | exact fun hh => hh.1.1 hg | exact fun hh => hc hh.1.2.1 | (rw [hfe]; omega))]
      · first | exact absurd hg hh.1.1 | exact absurd hh.1.2.1 hc | (exfalso; rw [hfe] at hh; omega)
    · have hc := z_ite1 c58
      have hwx := hWb (x : Int) (by omega) (by omega)
      have hux := hUb (x : Int) (by omega) (by omega)
      have hfx := hFd (6 * hp + W (x : Int)) (by omega) (by omega)
      have hfe : F (hp * 6 + W (x : Int)) = F (6 * hp + W (x : Int)) := congrArg F (by omega)
      have hmx : mF F (6 * hp + W (x : Int)) = if F (6 * hp + W (x : Int)) < 1000000 then F (6 * hp + W (x : Int)) else 99999 := rfl
      refine r_aload_n hV dX12_choose_61 rfl rfl ?_
      refine r_getR hV dX12_choose_62 fl_X12_17 (by first | decide | omega) (by first | rfl | assumption) o7 ?_
      refine s_bipush hV dX12_choose_65 (6) (by decide) ?_
      refine r_iload hV dX12_choose_67 rfl ?_
      refine s_imul hV dX12_choose_69 ?_
      refine r_aload_n hV dX12_choose_70 rfl rfl ?_
      refine r_getR hV dX12_choose_71 fl_X12_20 (by first | decide | omega) (by first | rfl | assumption) o9 ?_
      refine r_iload hV dX12_choose_74 rfl ?_
      refine s_iaload hV dX12_choose_76 (by first | decide | omega) (by first | rfl | assumption) (by decide) (by omega) (by omega) (zW (x : Int) (by omega) (by omega)) ?_
      refine s_iadd hV dX12_choose_77 ?_
      refine s_iaload hV dX12_choose_78 (by first | decide | omega) (by first | rfl | assumption) (by decide) (by omega) (by omega) (zF (6 * hp + W (x : Int)) (by omega) (by omega)) ?_
      refine s_ldc hV dX12_choose_79 ct_X12_103 (99999) (by decide) ?_
      refine s_icmp_lt hV 86 dX12_choose_81 (by decide) (by unfold z_rg; first | omega | (split <;> omega)) (by unfold z_rg; first | omega | (split <;> omega)) (fun c81 => ?_) (fun c81 => ?_)
      · have hmv : mF F (6 * hp + W (x : Int)) = F (hp * 6 + W (x : Int)) := by rw [hfe]; omega
        refine r_iload_n hV dX12_choose_86 rfl ?_
        refine s_if_ne hV 94 dX12_choose_87 (by decide) (by unfold z_rg; first | omega | (split <;> omega)) (fun _ => ?_) (fun c87 => absurd c87 (by omega))
        refine r_aload_n hV dX12_choose_94 rfl rfl ?_
        refine r_getR hV dX12_choose_95 fl_X12_20 (by first | decide | omega) (by first | rfl | assumption) o9 ?_
        refine r_iload hV dX12_choose_98 rfl ?_
        refine s_iaload hV dX12_choose_100 (by first | decide | omega) (by first | rfl | assumption) (by decide) (by omega) (by omega) (zW (x : Int) (by omega) (by omega)) ?_
        refine r_istore hV dX12_choose_101 (Nat.le_of_ble_eq_true rfl) (z_st1_8_6 rfl) ?_
        refine r_iload_n hV dX12_choose_103 rfl ?_
        refine s_iconst hV dX12_choose_104 (1) (by decide) ?_
        refine s_iadd hV dX12_choose_105 ?_
        refine r_istore hV dX12_choose_106 (Nat.le_of_ble_eq_true rfl) (z_st1_8_7 rfl) ?_
        refine r_aload_n hV dX12_choose_108 rfl rfl ?_
        refine r_getR hV dX12_choose_109 fl_X12_63 (by first | decide | omega) (by first | rfl | assumption) o36 ?_
        refine r_iload hV dX12_choose_112 rfl ?_
        refine r_iload_n hV dX12_choose_114 rfl ?_
        refine s_if_ne hV 123 dX12_choose_115 (by decide) (by unfold z_rg; first | omega | (split <;> omega)) (fun c115 => absurd c115 (by decide)) (fun _ => ?_)
        refine r_iload hV dX12_choose_118 rfl ?_
        refine r_goto hV 129 dX12_choose_120 (by decide) ?_
        refine s_iastore hV dX12_choose_129 (by first | decide | omega) (by first | rfl | assumption) (by decide) (by omega) (by omega) ?_
        generalize hgN1 : zu I 95 (zu (I 95) ((D : Int) + 1).toNat (iI (W (x : Int)))) = N1
        have uN1 : ∀ q, q ≠ 95 → N1 q = I q := fun q h => by rw [← hgN1, zu_n _ _ h]
        have aN1_95 : N1 95 (D + 1) = iI (W (x : Int)) := by rw [← hgN1, zu_s, show ((D : Int) + 1).toNat = D + 1 by omega, zu_s]
        have fN1 : ∀ q i, i ≠ D + 1 → N1 q i = I q i := fun q i h => by
          by_cases hq : q = 95
          · rw [hq, ← hgN1, zu_s, show ((D : Int) + 1).toNat = D + 1 by omega, zu_n _ _ h]
          · rw [uN1 q hq]
        have zN1 : ∀ q, (q < 95 ∨ 105 < q) → N1 q = I q := fun q h => uN1 q (by omega)
        clear hgN1
        refine r_aload_n hV dX12_choose_130 rfl rfl ?_
        refine r_getR hV dX12_choose_131 fl_X12_66 (by first | decide | omega) (by first | rfl | assumption) o37 ?_
        refine r_iload hV dX12_choose_134 rfl ?_
        refine r_iload_n hV dX12_choose_136 rfl ?_
        refine s_iconst hV dX12_choose_137 (1) (by decide) ?_
        refine s_icmp_ne hV 146 dX12_choose_138 (by decide) (by unfold z_rg; first | omega | (split <;> omega)) (by unfold z_rg; first | omega | (split <;> omega)) (fun _ => ?_) (fun c138 => absurd c138 (by decide))
        refine r_aload_n hV dX12_choose_146 rfl rfl ?_
        refine r_getR hV dX12_choose_147 fl_X12_66 (by first | decide | omega) (by first | rfl | assumption) o37 ?_
        refine r_iload_n hV dX12_choose_150 rfl ?_
        refine s_iaload hV dX12_choose_151 (by first | decide | omega) (by first | rfl | assumption) (by decide) (by omega) (by omega) (show N1 96 ((D : Nat) : Int).toNat = iI (ip) from by rw [Int.toNat_natCast]; exact (fN1 96 D (by omega)).trans e96) ?_
        refine s_iastore hV dX12_choose_152 (by first | decide | omega) (by first | rfl | assumption) (by decide) (by omega) (by omega) ?_
        generalize hgN2 : zu N1 96 (zu (N1 96) ((D : Int) + 1).toNat (iI (ip))) = N2
        have uN2 : ∀ q, q ≠ 96 → N2 q = N1 q := fun q h => by rw [← hgN2, zu_n _ _ h]
        have aN2_96 : N2 96 (D + 1) = iI (ip) := by rw [← hgN2, zu_s, show ((D : Int) + 1).toNat = D + 1 by omega, zu_s]
        have fN2 : ∀ q i, i ≠ D + 1 → N2 q i = I q i := fun q i h => by
          by_cases hq : q = 96
          · rw [hq, ← hgN2, zu_s, show ((D : Int) + 1).toNat = D + 1 by omega, zu_n _ _ h]; exact fN1 96 i h
          · rw [uN2 q hq]; exact fN1 q i h
        have zN2 : ∀ q, (q < 95 ∨ 105 < q) → N2 q = I q := fun q h => (uN2 q (by omega)).trans (zN1 q h)
        have aN2_95 : N2 95 (D + 1) = iI (W (x : Int)) := by rw [uN2 95 (by omega)]; exact aN1_95
        clear hgN2 fN1 zN1 aN1_95
        refine r_aload_n hV dX12_choose_153 rfl rfl ?_
        refine r_getR hV dX12_choose_154 fl_X12_69 (by first | decide | omega) (by first | rfl | assumption) o38 ?_
        refine r_iload hV dX12_choose_157 rfl ?_
        refine r_aload_n hV dX12_choose_159 rfl rfl ?_
        refine r_getR hV dX12_choose_160 fl_X12_69 (by first | decide | omega) (by first | rfl | assumption) o38 ?_
        refine r_iload_n hV dX12_choose_163 rfl ?_
        refine s_iaload hV dX12_choose_164 (by first | decide | omega) (by first | rfl | assumption) (by decide) (by omega) (by omega) (show N2 97 ((D : Nat) : Int).toNat = iI (rest) from by rw [Int.toNat_natCast]; exact (fN2 97 D (by omega)).trans e97) ?_
        refine r_aload_n hV dX12_choose_165 rfl rfl ?_
        refine r_getR hV dX12_choose_166 fl_X12_17 (by first | decide | omega) (by first | rfl | assumption) o7 ?_
        refine s_bipush hV dX12_choose_169 (6) (by decide) ?_
        refine r_iload hV dX12_choose_171 rfl ?_
        refine s_imul hV dX12_choose_173 ?_
        refine r_iload hV dX12_choose_174 rfl ?_
        refine s_iadd hV dX12_choose_176 ?_
        refine s_iaload hV dX12_choose_177 (by first | decide | omega) (by first | rfl | assumption) (by decide) (by omega) (by omega) ((congrFun (zN2 80 (by omega)) _).trans ((zF (6 * hp + W (x : Int)) (by omega) (by omega)).trans (congrArg iI hmv))) ?_
        refine s_isub hV dX12_choose_178 ?_
        refine s_iastore hV dX12_choose_179 (by first | decide | omega) (by first | rfl | assumption) (by decide) (by omega) (by omega) ?_
        generalize hgN3 : zu N2 97 (zu (N2 97) ((D : Int) + 1).toNat (iI (rest - F (hp * 6 + W (x : Int))))) = N3
        have uN3 : ∀ q, q ≠ 97 → N3 q = N2 q := fun q h => by rw [← hgN3, zu_n _ _ h]
        have aN3_97 : N3 97 (D + 1) = iI (rest - F (hp * 6 + W (x : Int))) := by rw [← hgN3, zu_s, show ((D : Int) + 1).toNat = D + 1 by omega, zu_s]
        have fN3 : ∀ q i, i ≠ D + 1 → N3 q i = I q i := fun q i h => by
          by_cases hq : q = 97
          · rw [hq, ← hgN3, zu_s, show ((D : Int) + 1).toNat = D + 1 by omega, zu_n _ _ h]; exact fN2 97 i h
          · rw [uN3 q hq]; exact fN2 q i h
        have zN3 : ∀ q, (q < 95 ∨ 105 < q) → N3 q = I q := fun q h => (uN3 q (by omega)).trans (zN2 q h)
        have aN3_95 : N3 95 (D + 1) = iI (W (x : Int)) := by rw [uN3 95 (by omega)]; exact aN2_95
        have aN3_96 : N3 96 (D + 1) = iI (ip) := by rw [uN3 96 (by omega)]; exact aN2_96
        clear hgN3 fN2 zN2 aN2_95 aN2_96
        refine r_aload_n hV dX12_choose_180 rfl rfl ?_
        refine r_getR hV dX12_choose_181 fl_X12_72 (by first | decide | omega) (by first | rfl | assumption) o39 ?_
        refine r_iload hV dX12_choose_184 rfl ?_
        refine r_aload_n hV dX12_choose_186 rfl rfl ?_
        refine r_getR hV dX12_choose_187 fl_X12_72 (by first | decide | omega) (by first | rfl | assumption) o39 ?_
        refine r_iload_n hV dX12_choose_190 rfl ?_
        refine s_iaload hV dX12_choose_191 (by first | decide | omega) (by first | rfl | assumption) (by decide) (by omega) (by omega) (show N3 98 ((D : Nat) : Int).toNat = iI (((gone : Nat) : Int)) from by rw [Int.toNat_natCast]; exact (fN3 98 D (by omega)).trans e98) ?_
        refine r_iload_n hV dX12_choose_192 rfl ?_
        refine s_if_le hV 203 dX12_choose_193 (by decide) (by unfold z_rg; first | omega | (split <;> omega)) (fun c193 => absurd c193 (by omega)) (fun _ => ?_)
        refine s_iconst hV dX12_choose_196 (1) (by decide) ?_
        refine r_iload hV dX12_choose_197 rfl ?_
        refine s_ishl hV dX12_choose_199 (zb_shl (by omega)) ?_
        refine r_goto hV 204 dX12_choose_200 (by decide) ?_
        refine s_ior hV dX12_choose_204 (zb_or hg64 (z_pw (by omega))) ?_
        refine s_iastore hV dX12_choose_205 (by first | decide | omega) (by first | rfl | assumption) (by decide) (by omega) (by omega) ?_
        generalize hgN4 : zu N3 98 (zu (N3 98) ((D : Int) + 1).toNat (iI ((((gone ||| 2 ^ x) : Nat) : Int)))) = N4
        have uN4 : ∀ q, q ≠ 98 → N4 q = N3 q := fun q h => by rw [← hgN4, zu_n _ _ h]
        have aN4_98 : N4 98 (D + 1) = iI ((((gone ||| 2 ^ x) : Nat) : Int)) := by rw [← hgN4, zu_s, show ((D : Int) + 1).toNat = D + 1 by omega, zu_s]
        have fN4 : ∀ q i, i ≠ D + 1 → N4 q i = I q i := fun q i h => by
          by_cases hq : q = 98
          · rw [hq, ← hgN4, zu_s, show ((D : Int) + 1).toNat = D + 1 by omega, zu_n _ _ h]; exact fN3 98 i h
          · rw [uN4 q hq]; exact fN3 q i h
        have zN4 : ∀ q, (q < 95 ∨ 105 < q) → N4 q = I q := fun q h => (uN4 q (by omega)).trans (zN3 q h)
        have aN4_95 : N4 95 (D + 1) = iI (W (x : Int)) := by rw [uN4 95 (by omega)]; exact aN3_95
        have aN4_96 : N4 96 (D + 1) = iI (ip) := by rw [uN4 96 (by omega)]; exact aN3_96
        have aN4_97 : N4 97 (D + 1) = iI (rest - F (hp * 6 + W (x : Int))) := by rw [uN4 97 (by omega)]; exact aN3_97
        clear hgN4 fN3 zN3 aN3_95 aN3_96 aN3_97
        refine r_aload_n hV dX12_choose_206 rfl rfl ?_
        refine r_getR hV dX12_choose_207 fl_X12_75 (by first | decide | omega) (by first | rfl | assumption) o40 ?_
        refine r_iload hV dX12_choose_210 rfl ?_
        refine r_aload_n hV dX12_choose_212 rfl rfl ?_
        refine r_getR hV dX12_choose_213 fl_X12_75 (by first | decide | omega) (by first | rfl | assumption) o40 ?_
        refine r_iload_n hV dX12_choose_216 rfl ?_
        refine s_iaload hV dX12_choose_217 (by first | decide | omega) (by first | rfl | assumption) (by decide) (by omega) (by omega) (show N4 99 ((D : Nat) : Int).toNat = iI (((0 : Nat) : Int)) from by rw [Int.toNat_natCast]; exact (fN4 99 D (by omega)).trans e99) ?_
        refine r_iload_n hV dX12_choose_218 rfl ?_
        refine s_if_ne hV 228 dX12_choose_219 (by decide) (by unfold z_rg; first | omega | (split <;> omega)) (fun _ => ?_) (fun c219 => absurd c219 (by omega))
        refine s_iconst hV dX12_choose_228 (0) (by decide) ?_
        refine s_ior hV dX12_choose_229 (show iI ((0 : Nat) : Int) ||| iI 0 = iI ((0 : Nat) : Int) from by decide) ?_
        refine s_iastore hV dX12_choose_230 (by first | decide | omega) (by first | rfl | assumption) (by decide) (by omega) (by omega) ?_
        generalize hgN5 : zu N4 99 (zu (N4 99) ((D : Int) + 1).toNat (iI (((0 : Nat) : Int)))) = N5
        have uN5 : ∀ q, q ≠ 99 → N5 q = N4 q := fun q h => by rw [← hgN5, zu_n _ _ h]
        have aN5_99 : N5 99 (D + 1) = iI (((0 : Nat) : Int)) := by rw [← hgN5, zu_s, show ((D : Int) + 1).toNat = D + 1 by omega, zu_s]
        have fN5 : ∀ q i, i ≠ D + 1 → N5 q i = I q i := fun q i h => by
          by_cases hq : q = 99
          · rw [hq, ← hgN5, zu_s, show ((D : Int) + 1).toNat = D + 1 by omega, zu_n _ _ h]; exact fN4 99 i h
          · rw [uN5 q hq]; exact fN4 q i h
        have zN5 : ∀ q, (q < 95 ∨ 105 < q) → N5 q = I q := fun q h => (uN5 q (by omega)).trans (zN4 q h)
        have aN5_95 : N5 95 (D + 1) = iI (W (x : Int)) := by rw [uN5 95 (by omega)]; exact aN4_95
        have aN5_96 : N5 96 (D + 1) = iI (ip) := by rw [uN5 96 (by omega)]; exact aN4_96
        have aN5_97 : N5 97 (D + 1) = iI (rest - F (hp * 6 + W (x : Int))) := by rw [uN5 97 (by omega)]; exact aN4_97
        have aN5_98 : N5 98 (D + 1) = iI ((((gone ||| 2 ^ x) : Nat) : Int)) := by rw [uN5 98 (by omega)]; exact aN4_98
        clear hgN5 fN4 zN4 aN4_95 aN4_96 aN4_97 aN4_98
        refine r_aload_n hV dX12_choose_231 rfl rfl ?_
        refine r_getR hV dX12_choose_232 fl_X12_84 (by first | decide | omega) (by first | rfl | assumption) o43 ?_
        refine r_iload hV dX12_choose_235 rfl ?_
        refine r_aload_n hV dX12_choose_237 rfl rfl ?_
        refine r_getR hV dX12_choose_238 fl_X12_84 (by first | decide | omega) (by first | rfl | assumption) o43 ?_
        refine r_iload_n hV dX12_choose_241 rfl ?_
        refine s_iaload hV dX12_choose_242 (by first | decide | omega) (by first | rfl | assumption) (by decide) (by omega) (by omega) (show N5 102 ((D : Nat) : Int).toNat = iI (ha) from by rw [Int.toNat_natCast]; exact (fN5 102 D (by omega)).trans e102) ?_
        refine r_iload_n hV dX12_choose_243 rfl ?_
        refine s_if_ne hV 261 dX12_choose_244 (by decide) (by unfold z_rg; first | omega | (split <;> omega)) (fun c244 => absurd c244 (by decide)) (fun _ => ?_)
        refine r_iload_n hV dX12_choose_247 rfl ?_
        refine s_if_le hV 261 dX12_choose_248 (by decide) (by unfold z_rg; first | omega | (split <;> omega)) (fun c248 => absurd c248 (by omega)) (fun _ => ?_)
        refine r_aload_n hV dX12_choose_251 rfl rfl ?_
        refine r_getR hV dX12_choose_252 fl_X12_23 (by first | decide | omega) (by first | rfl | assumption) o10 ?_
        refine r_iload hV dX12_choose_255 rfl ?_
        refine s_iaload hV dX12_choose_257 (by first | decide | omega) (by first | rfl | assumption) (by decide) (by omega) (by omega) ((congrFun (zN5 82 (by omega)) _).trans (zU (x : Int) (by omega) (by omega))) ?_
        refine r_goto hV 262 dX12_choose_258 (by decide) ?_
        refine s_iadd hV dX12_choose_262 ?_
        refine s_iastore hV dX12_choose_263 (by first | decide | omega) (by first | rfl | assumption) (by decide) (by omega) (by omega) ?_
        generalize hgN6 : zu N5 102 (zu (N5 102) ((D : Int) + 1).toNat (iI (ha + U (x : Int)))) = N6
        have uN6 : ∀ q, q ≠ 102 → N6 q = N5 q := fun q h => by rw [← hgN6, zu_n _ _ h]
        have aN6_102 : N6 102 (D + 1) = iI (ha + U (x : Int)) := by rw [← hgN6, zu_s, show ((D : Int) + 1).toNat = D + 1 by omega, zu_s]
        have fN6 : ∀ q i, i ≠ D + 1 → N6 q i = I q i := fun q i h => by
          by_cases hq : q = 102
          · rw [hq, ← hgN6, zu_s, show ((D : Int) + 1).toNat = D + 1 by omega, zu_n _ _ h]; exact fN5 102 i h
          · rw [uN6 q hq]; exact fN5 q i h
        have zN6 : ∀ q, (q < 95 ∨ 105 < q) → N6 q = I q := fun q h => (uN6 q (by omega)).trans (zN5 q h)
        have aN6_95 : N6 95 (D + 1) = iI (W (x : Int)) := by rw [uN6 95 (by omega)]; exact aN5_95
        have aN6_96 : N6 96 (D + 1) = iI (ip) := by rw [uN6 96 (by omega)]; exact aN5_96
        have aN6_97 : N6 97 (D + 1) = iI (rest - F (hp * 6 + W (x : Int))) := by rw [uN6 97 (by omega)]; exact aN5_97
        have aN6_98 : N6 98 (D + 1) = iI ((((gone ||| 2 ^ x) : Nat) : Int)) := by rw [uN6 98 (by omega)]; exact aN5_98
        have aN6_99 : N6 99 (D + 1) = iI (((0 : Nat) : Int)) := by rw [uN6 99 (by omega)]; exact aN5_99
        clear hgN6 fN5 zN5 aN5_95 aN5_96 aN5_97 aN5_98 aN5_99
        refine r_aload_n hV dX12_choose_264 rfl rfl ?_
        refine r_getR hV dX12_choose_265 fl_X12_87 (by first | decide | omega) (by first | rfl | assumption) o44 ?_
        refine r_iload hV dX12_choose_268 rfl ?_
        refine r_aload_n hV dX12_choose_270 rfl rfl ?_
        refine r_getR hV dX12_choose_271 fl_X12_87 (by first | decide | omega) (by first | rfl | assumption) o44 ?_
        refine r_iload_n hV dX12_choose_274 rfl ?_
        refine s_iaload hV dX12_choose_275 (by first | decide | omega) (by first | rfl | assumption) (by decide) (by omega) (by omega) (show N6 103 ((D : Nat) : Int).toNat = iI (hb) from by rw [Int.toNat_natCast]; exact (fN6 103 D (by omega)).trans e103) ?_
        refine r_iload_n hV dX12_choose_276 rfl ?_
        refine s_iconst hV dX12_choose_277 (1) (by decide) ?_
        refine s_icmp_ne hV 295 dX12_choose_278 (by decide) (by unfold z_rg; first | omega | (split <;> omega)) (by unfold z_rg; first | omega | (split <;> omega)) (fun _ => ?_) (fun c278 => absurd c278 (by decide))
        refine s_iconst hV dX12_choose_295 (0) (by decide) ?_
        refine s_iadd hV dX12_choose_296 ?_
        rw [Int.add_zero]
        refine s_iastore hV dX12_choose_297 (by first | decide | omega) (by first | rfl | assumption) (by decide) (by omega) (by omega) ?_
        generalize hgN7 : zu N6 103 (zu (N6 103) ((D : Int) + 1).toNat (iI (hb))) = N7
        have uN7 : ∀ q, q ≠ 103 → N7 q = N6 q := fun q h => by rw [← hgN7, zu_n _ _ h]
        have aN7_103 : N7 103 (D + 1) = iI (hb) := by rw [← hgN7, zu_s, show ((D : Int) + 1).toNat = D + 1 by omega, zu_s]
        have fN7 : ∀ q i, i ≠ D + 1 → N7 q i = I q i := fun q i h => by
          by_cases hq : q = 103
          · rw [hq, ← hgN7, zu_s, show ((D : Int) + 1).toNat = D + 1 by omega, zu_n _ _ h]; exact fN6 103 i h
          · rw [uN7 q hq]; exact fN6 q i h
        have zN7 : ∀ q, (q < 95 ∨ 105 < q) → N7 q = I q := fun q h => (uN7 q (by omega)).trans (zN6 q h)
        have aN7_95 : N7 95 (D + 1) = iI (W (x : Int)) := by rw [uN7 95 (by omega)]; exact aN6_95
        have aN7_96 : N7 96 (D + 1) = iI (ip) := by rw [uN7 96 (by omega)]; exact aN6_96
        have aN7_97 : N7 97 (D + 1) = iI (rest - F (hp * 6 + W (x : Int))) := by rw [uN7 97 (by omega)]; exact aN6_97
        have aN7_98 : N7 98 (D + 1) = iI ((((gone ||| 2 ^ x) : Nat) : Int)) := by rw [uN7 98 (by omega)]; exact aN6_98
        have aN7_99 : N7 99 (D + 1) = iI (((0 : Nat) : Int)) := by rw [uN7 99 (by omega)]; exact aN6_99
        have aN7_102 : N7 102 (D + 1) = iI (ha + U (x : Int)) := by rw [uN7 102 (by omega)]; exact aN6_102
        clear hgN7 fN6 zN6 aN6_95 aN6_96 aN6_97 aN6_98 aN6_99 aN6_102
        refine r_aload_n hV dX12_choose_298 rfl rfl ?_
        refine r_getR hV dX12_choose_299 fl_X12_78 (by first | decide | omega) (by first | rfl | assumption) o41 ?_
        refine r_iload hV dX12_choose_302 rfl ?_
        refine r_aload_n hV dX12_choose_304 rfl rfl ?_
        refine r_getR hV dX12_choose_305 fl_X12_75 (by first | decide | omega) (by first | rfl | assumption) o40 ?_
        refine r_iload hV dX12_choose_308 rfl ?_
        refine s_iaload hV dX12_choose_310 (by first | decide | omega) (by first | rfl | assumption) (by decide) (by omega) (by omega) (show N7 99 ((D : Int) + 1).toNat = iI ((0 : Nat) : Int) from by rw [show ((D : Int) + 1).toNat = D + 1 by omega]; exact aN7_99) ?_
        refine s_iconst hV dX12_choose_311 (1) (by decide) ?_
        refine r_iload_n hV dX12_choose_312 rfl ?_
        refine s_isub hV dX12_choose_313 ?_
        rw [show (1 : Int) - 0 = ((1 : Nat) : Int) from rfl]
        refine q_is2v hV dX12_choose_314 ms_X12_180 (n_has N7 J P 0 1 (by decide) (by decide)) (by decide) (Nat.le_refl _) (Nat.le_of_ble_eq_true rfl) ?_
        refine s_if_eq hV 324 dX12_choose_317 (by decide) (by unfold z_rg; first | omega | (split <;> omega)) (fun _ => ?_) (fun c317 => absurd (by decide) c317)
        refine s_iconst hV dX12_choose_324 (1) (by decide) ?_
        refine r_iload_n hV dX12_choose_325 rfl ?_
        refine s_isub hV dX12_choose_326 ?_
        rw [show (1 : Int) - 0 = 1 from rfl]
        refine s_iastore hV dX12_choose_327 (by first | decide | omega) (by first | rfl | assumption) (by decide) (by omega) (by omega) ?_
        generalize hgN8 : zu N7 100 (zu (N7 100) ((D : Int) + 1).toNat (iI (1))) = N8
        have uN8 : ∀ q, q ≠ 100 → N8 q = N7 q := fun q h => by rw [← hgN8, zu_n _ _ h]
        have aN8_100 : N8 100 (D + 1) = iI (1) := by rw [← hgN8, zu_s, show ((D : Int) + 1).toNat = D + 1 by omega, zu_s]
        have fN8 : ∀ q i, i ≠ D + 1 → N8 q i = I q i := fun q i h => by
          by_cases hq : q = 100
          · rw [hq, ← hgN8, zu_s, show ((D : Int) + 1).toNat = D + 1 by omega, zu_n _ _ h]; exact fN7 100 i h
          · rw [uN8 q hq]; exact fN7 q i h
        have zN8 : ∀ q, (q < 95 ∨ 105 < q) → N8 q = I q := fun q h => (uN8 q (by omega)).trans (zN7 q h)
        have aN8_95 : N8 95 (D + 1) = iI (W (x : Int)) := by rw [uN8 95 (by omega)]; exact aN7_95
        have aN8_96 : N8 96 (D + 1) = iI (ip) := by rw [uN8 96 (by omega)]; exact aN7_96
        have aN8_97 : N8 97 (D + 1) = iI (rest - F (hp * 6 + W (x : Int))) := by rw [uN8 97 (by omega)]; exact aN7_97
        have aN8_98 : N8 98 (D + 1) = iI ((((gone ||| 2 ^ x) : Nat) : Int)) := by rw [uN8 98 (by omega)]; exact aN7_98
        have aN8_99 : N8 99 (D + 1) = iI (((0 : Nat) : Int)) := by rw [uN8 99 (by omega)]; exact aN7_99
        have aN8_102 : N8 102 (D + 1) = iI (ha + U (x : Int)) := by rw [uN8 102 (by omega)]; exact aN7_102
        have aN8_103 : N8 103 (D + 1) = iI (hb) := by rw [uN8 103 (by omega)]; exact aN7_103
        clear hgN8 fN7 zN7 aN7_95 aN7_96 aN7_97 aN7_98 aN7_99 aN7_102 aN7_103
        refine r_aload_n hV dX12_choose_328 rfl rfl ?_
        refine r_getR hV dX12_choose_329 fl_X12_81 (by first | decide | omega) (by first | rfl | assumption) o42 ?_
        refine r_iload hV dX12_choose_332 rfl ?_
        refine s_iconst hV dX12_choose_334 (0) (by decide) ?_
        refine s_iastore hV dX12_choose_335 (by first | decide | omega) (by first | rfl | assumption) (by decide) (by omega) (by omega) ?_
        generalize hgN9 : zu N8 101 (zu (N8 101) ((D : Int) + 1).toNat (iI (0))) = N9
        have uN9 : ∀ q, q ≠ 101 → N9 q = N8 q := fun q h => by rw [← hgN9, zu_n _ _ h]
        have aN9_101 : N9 101 (D + 1) = iI (0) := by rw [← hgN9, zu_s, show ((D : Int) + 1).toNat = D + 1 by omega, zu_s]
        have fN9 : ∀ q i, i ≠ D + 1 → N9 q i = I q i := fun q i h => by
          by_cases hq : q = 101
          · rw [hq, ← hgN9, zu_s, show ((D : Int) + 1).toNat = D + 1 by omega, zu_n _ _ h]; exact fN8 101 i h
          · rw [uN9 q hq]; exact fN8 q i h
        have zN9 : ∀ q, (q < 95 ∨ 105 < q) → N9 q = I q := fun q h => (uN9 q (by omega)).trans (zN8 q h)
        have aN9_95 : N9 95 (D + 1) = iI (W (x : Int)) := by rw [uN9 95 (by omega)]; exact aN8_95
        have aN9_96 : N9 96 (D + 1) = iI (ip) := by rw [uN9 96 (by omega)]; exact aN8_96
        have aN9_97 : N9 97 (D + 1) = iI (rest - F (hp * 6 + W (x : Int))) := by rw [uN9 97 (by omega)]; exact aN8_97
        have aN9_98 : N9 98 (D + 1) = iI ((((gone ||| 2 ^ x) : Nat) : Int)) := by rw [uN9 98 (by omega)]; exact aN8_98
        have aN9_99 : N9 99 (D + 1) = iI (((0 : Nat) : Int)) := by rw [uN9 99 (by omega)]; exact aN8_99
        have aN9_102 : N9 102 (D + 1) = iI (ha + U (x : Int)) := by rw [uN9 102 (by omega)]; exact aN8_102
        have aN9_103 : N9 103 (D + 1) = iI (hb) := by rw [uN9 103 (by omega)]; exact aN8_103
        have aN9_100 : N9 100 (D + 1) = iI (1) := by rw [uN9 100 (by omega)]; exact aN8_100
        clear hgN9 fN8 zN8 aN8_95 aN8_96 aN8_97 aN8_98 aN8_99 aN8_102 aN8_103 aN8_100
        refine r_aload_n hV dX12_choose_336 rfl rfl ?_
        refine r_getR hV dX12_choose_337 fl_X12_90 (by first | decide | omega) (by first | rfl | assumption) o45 ?_
        refine r_iload hV dX12_choose_340 rfl ?_
        refine s_bipush hV dX12_choose_342 (-9) (by decide) ?_
        refine s_iastore hV dX12_choose_344 (by first | decide | omega) (by first | rfl | assumption) (by decide) (by omega) (by omega) ?_
        generalize hgN10 : zu N9 104 (zu (N9 104) ((D : Int) + 1).toNat (iI (-9))) = N10
        have uN10 : ∀ q, q ≠ 104 → N10 q = N9 q := fun q h => by rw [← hgN10, zu_n _ _ h]
        have aN10_104 : N10 104 (D + 1) = iI (-9) := by rw [← hgN10, zu_s, show ((D : Int) + 1).toNat = D + 1 by omega, zu_s]
        have fN10 : ∀ q i, i ≠ D + 1 → N10 q i = I q i := fun q i h => by
          by_cases hq : q = 104
          · rw [hq, ← hgN10, zu_s, show ((D : Int) + 1).toNat = D + 1 by omega, zu_n _ _ h]; exact fN9 104 i h
          · rw [uN10 q hq]; exact fN9 q i h
        have zN10 : ∀ q, (q < 95 ∨ 105 < q) → N10 q = I q := fun q h => (uN10 q (by omega)).trans (zN9 q h)
        have aN10_95 : N10 95 (D + 1) = iI (W (x : Int)) := by rw [uN10 95 (by omega)]; exact aN9_95
        have aN10_96 : N10 96 (D + 1) = iI (ip) := by rw [uN10 96 (by omega)]; exact aN9_96
        have aN10_97 : N10 97 (D + 1) = iI (rest - F (hp * 6 + W (x : Int))) := by rw [uN10 97 (by omega)]; exact aN9_97
        have aN10_98 : N10 98 (D + 1) = iI ((((gone ||| 2 ^ x) : Nat) : Int)) := by rw [uN10 98 (by omega)]; exact aN9_98
        have aN10_99 : N10 99 (D + 1) = iI (((0 : Nat) : Int)) := by rw [uN10 99 (by omega)]; exact aN9_99
        have aN10_102 : N10 102 (D + 1) = iI (ha + U (x : Int)) := by rw [uN10 102 (by omega)]; exact aN9_102
        have aN10_103 : N10 103 (D + 1) = iI (hb) := by rw [uN10 103 (by omega)]; exact aN9_103
        have aN10_100 : N10 100 (D + 1) = iI (1) := by rw [uN10 100 (by omega)]; exact aN9_100
        have aN10_101 : N10 101 (D + 1) = iI (0) := by rw [uN10 101 (by omega)]; exact aN9_101
        clear hgN10 fN9 zN9 aN9_95 aN9_96 aN9_97 aN9_98 aN9_99 aN9_102 aN9_103 aN9_100 aN9_101
        refine r_aload_n hV dX12_choose_345 rfl rfl ?_
        refine r_getR hV dX12_choose_346 fl_X12_93 (by first | decide | omega) (by first | rfl | assumption) o46 ?_
        refine r_iload hV dX12_choose_349 rfl ?_
        refine s_bipush hV dX12_choose_351 (-9) (by decide) ?_
        refine s_iastore hV dX12_choose_353 (by first | decide | omega) (by first | rfl | assumption) (by decide) (by omega) (by omega) ?_
        generalize hgN11 : zu N10 105 (zu (N10 105) ((D : Int) + 1).toNat (iI (-9))) = N11
        have uN11 : ∀ q, q ≠ 105 → N11 q = N10 q := fun q h => by rw [← hgN11, zu_n _ _ h]
        have aN11_105 : N11 105 (D + 1) = iI (-9) := by rw [← hgN11, zu_s, show ((D : Int) + 1).toNat = D + 1 by omega, zu_s]
        have fN11 : ∀ q i, i ≠ D + 1 → N11 q i = I q i := fun q i h => by
          by_cases hq : q = 105
          · rw [hq, ← hgN11, zu_s, show ((D : Int) + 1).toNat = D + 1 by omega, zu_n _ _ h]; exact fN10 105 i h
          · rw [uN11 q hq]; exact fN10 q i h
        have zN11 : ∀ q, (q < 95 ∨ 105 < q) → N11 q = I q := fun q h => (uN11 q (by omega)).trans (zN10 q h)
        have aN11_95 : N11 95 (D + 1) = iI (W (x : Int)) := by rw [uN11 95 (by omega)]; exact aN10_95
        have aN11_96 : N11 96 (D + 1) = iI (ip) := by rw [uN11 96 (by omega)]; exact aN10_96
        have aN11_97 : N11 97 (D + 1) = iI (rest - F (hp * 6 + W (x : Int))) := by rw [uN11 97 (by omega)]; exact aN10_97
        have aN11_98 : N11 98 (D + 1) = iI ((((gone ||| 2 ^ x) : Nat) : Int)) := by rw [uN11 98 (by omega)]; exact aN10_98
        have aN11_99 : N11 99 (D + 1) = iI (((0 : Nat) : Int)) := by rw [uN11 99 (by omega)]; exact aN10_99
        have aN11_102 : N11 102 (D + 1) = iI (ha + U (x : Int)) := by rw [uN11 102 (by omega)]; exact aN10_102
        have aN11_103 : N11 103 (D + 1) = iI (hb) := by rw [uN11 103 (by omega)]; exact aN10_103
        have aN11_100 : N11 100 (D + 1) = iI (1) := by rw [uN11 100 (by omega)]; exact aN10_100
        have aN11_101 : N11 101 (D + 1) = iI (0) := by rw [uN11 101 (by omega)]; exact aN10_101
        have aN11_104 : N11 104 (D + 1) = iI (-9) := by rw [uN11 104 (by omega)]; exact aN10_104
        clear hgN11 fN10 zN10 aN10_95 aN10_96 aN10_97 aN10_98 aN10_99 aN10_102 aN10_103 aN10_100 aN10_101 aN10_104
        refine r_aload_n hV dX12_choose_354 rfl rfl ?_
        refine r_iload hV dX12_choose_355 rfl ?_
        rw [show (D : Int) + 1 = ((D + 1 : Nat) : Int) by omega]
        refine q_iv1v hV dX12_choose_357 mv_X12_241 (n_canBoth N11 J P hM n hnb F (z_ar_fr zF (zN11 80 (by omega))) hFd (D + 1) (by omega) (W (x : Int)) (ip) (rest - F (hp * 6 + W (x : Int))) aN11_95 aN11_96 aN11_97 (by omega) (by omega) (by omega)) (by first | decide | omega) (by first | rfl | assumption) (by decide) (Nat.le_refl _) (Nat.le_of_ble_eq_true rfl) ?_
        refine s_zret hV dX12_choose_360 rfl (by split <;> omega) rfl ?_
        refine ⟨?_, rfl, rfl, zN11, fN11, fun _ => ⟨⟨aN11_95, aN11_96, aN11_97, aN11_98, aN11_99, aN11_100, aN11_102, aN11_103⟩, aN11_101, aN11_104, aN11_105⟩⟩
        refine congrArg (fun z => some (Value.int (iI z))) ?_
        by_cases hk : F ((W (x : Int)) * 6) + F ((ip) * 6) ≤ rest - F (hp * 6 + W (x : Int))
        · rw [if_pos hk, if_pos ⟨⟨hg, hc, by omega⟩, hk⟩]
        · rw [if_neg hk, if_neg (fun hh => hk hh.2)]
      · refine s_iconst hV dX12_choose_84 (0) (by decide) ?_
        refine s_zret hV dX12_choose_85 rfl (by omega) rfl ?_
        refine ⟨?_, rfl, rfl, fun _ _ => rfl, fun _ _ _ => rfl, fun hh => ?_⟩
        · refine congrArg (fun z => some (Value.int (iI z))) ?_
          rw [if_neg (by first | exact fun hh => hh.1.1 hg | exact fun hh => hc hh.1.2.1 | (rw [hfe]; omega))]
        · first | exact absurd hg hh.1.1 | exact absurd hh.1.2.1 hc | (exfalso; rw [hfe] at hh; omega)

set_option maxRecDepth 20000 in
theorem n_ch02h (I : zI) (J : zJ) (P : zP) (hM : mK P) (n e : Nat) (hnb : 2 ≤ n ∧ n ≤ 6) (h8 : I 78 8 = iI (e : Int)) (he6 : e ≤ 6) (F W U K : Int → Int) (zF : z_ar I 80 36 (mF F)) (hFd : zD F) (zW : z_ar I 81 e W) (hWb : z_bd W e 0 (n - 1)) (zU : z_ar I 82 e U) (hUb : z_bd U 6 0 9) (zK : z_ar I 83 e K) (hKb : z_bd K 6 0 2) (D : Nat) (hD : D ≤ 7) (hp ip rest : Int) (gone : Nat) (hg64 : gone < 64) (ha hb : Int) (hFr : mFr I D hp ip rest gone 2 0 ha hb) (hhp : 0 ≤ hp ∧ hp < n) (hip : 0 ≤ ip ∧ ip < n) (hrest : -50000 ≤ rest ∧ rest ≤ 90000) (hcost : F (hp * 6) < 1000000) : z_Sp 2 yX12_choose cX12_choose 8 (some .boolean) 108 108 I J P [.ref 78, .int (iI (D : Int)), .int (iI 0)] (q_ch I J P D (F ((0) * 6) + F ((ip) * 6) ≤ rest - F (hp * 6)) (0) (ip) (rest - F (hp * 6)) gone 3 0 (ha) (hb)) := by
  obtain ⟨o1, o7, o9, o10, o11, o16, o17, o18, o19, o20, o25, o26, o28, o29, o30, o31, o36, o37, o38, o39, o40, o41, o42, o43, o44, o45, o46, o47, o48⟩ := id hM
  obtain ⟨e95, e96, e97, e98, e99, e100, e102, e103⟩ := id hFr
  have hfx := hFd (6 * hp + 0) (by omega) (by omega)
  rw [show 6 * hp + 0 = hp * 6 by omega] at hfx
  have hmv : mF F (6 * hp + 0) = F (hp * 6) := by
    unfold mF
    rw [show 6 * hp + 0 = hp * 6 by omega, if_pos hcost]
  refine z_met false (by decide +kernel) (fun h => by cases h) (Nat.le_of_ble_eq_true rfl) (by first | decide | omega) (fun V hV => ?_)
  show V 108 I J P 0 [.ref 78, .int (iI (D : Int)), .int (iI 0), .null, .null, .null, .null, .null] []
  refine r_aload_n hV dX12_choose_0 rfl rfl ?_
  refine r_getR hV dX12_choose_1 fl_X12_78 (by first | decide | omega) (by first | rfl | assumption) o41 ?_
  refine r_iload_n hV dX12_choose_4 rfl ?_
  refine s_iaload hV dX12_choose_5 (by first | decide | omega) (by first | rfl | assumption) (by decide) (by omega) (by omega) (show I 100 ((D : Nat) : Int).toNat = iI (0) from by rw [Int.toNat_natCast]; exact e100) ?_
  refine r_istore_n hV dX12_choose_6 (Nat.le_of_ble_eq_true rfl) (z_st1_8_3 rfl) ?_
  refine r_iload_n hV dX12_choose_7 rfl ?_
  refine s_if_ne hV 20 dX12_choose_8 (by decide) (by unfold z_rg; first | omega | (split <;> omega)) (fun c8 => absurd c8 (by decide)) (fun _ => ?_)
  refine r_aload_n hV dX12_choose_11 rfl rfl ?_
  refine r_getR hV dX12_choose_12 fl_X12_63 (by first | decide | omega) (by first | rfl | assumption) o36 ?_
  refine r_iload_n hV dX12_choose_15 rfl ?_
  refine s_iaload hV dX12_choose_16 (by first | decide | omega) (by first | rfl | assumption) (by decide) (by omega) (by omega) (show I 95 ((D : Nat) : Int).toNat = iI (hp) from by rw [Int.toNat_natCast]; exact e95) ?_
  refine r_goto hV 26 dX12_choose_17 (by decide) ?_
  refine r_istore hV dX12_choose_26 (Nat.le_of_ble_eq_true rfl) (z_st1_8_4 rfl) ?_
  refine r_iload_n hV dX12_choose_28 rfl ?_
  refine s_iconst hV dX12_choose_29 (1) (by decide) ?_
  refine s_isub hV dX12_choose_30 ?_
  refine r_istore hV dX12_choose_31 (Nat.le_of_ble_eq_true rfl) (z_st1_8_5 rfl) ?_
  refine r_iload_n hV dX12_choose_33 rfl ?_
  refine s_if_le hV 86 dX12_choose_34 (by decide) (by unfold z_rg; first | omega | (split <;> omega)) (fun _ => ?_) (fun c34 => absurd (by omega) c34)
  refine r_iload_n hV dX12_choose_86 rfl ?_
  refine s_if_ne hV 94 dX12_choose_87 (by decide) (by unfold z_rg; first | omega | (split <;> omega)) (fun c87 => absurd c87 (by omega)) (fun _ => ?_)
  refine s_iconst hV dX12_choose_90 (0) (by decide) ?_
  refine r_goto hV 101 dX12_choose_91 (by decide) ?_
  refine r_istore hV dX12_choose_101 (Nat.le_of_ble_eq_true rfl) (z_st1_8_6 rfl) ?_
  refine r_iload_n hV dX12_choose_103 rfl ?_
  refine s_iconst hV dX12_choose_104 (1) (by decide) ?_
  refine s_iadd hV dX12_choose_105 ?_
  refine r_istore hV dX12_choose_106 (Nat.le_of_ble_eq_true rfl) (z_st1_8_7 rfl) ?_
  refine r_aload_n hV dX12_choose_108 rfl rfl ?_
  refine r_getR hV dX12_choose_109 fl_X12_63 (by first | decide | omega) (by first | rfl | assumption) o36 ?_
  refine r_iload hV dX12_choose_112 rfl ?_
  refine r_iload_n hV dX12_choose_114 rfl ?_
  refine s_if_ne hV 123 dX12_choose_115 (by decide) (by unfold z_rg; first | omega | (split <;> omega)) (fun c115 => absurd c115 (by decide)) (fun _ => ?_)
  refine r_iload hV dX12_choose_118 rfl ?_
  refine r_goto hV 129 dX12_choose_120 (by decide) ?_
  refine s_iastore hV dX12_choose_129 (by first | decide | omega) (by first | rfl | assumption) (by decide) (by omega) (by omega) ?_
  generalize hgN1 : zu I 95 (zu (I 95) ((D : Int) + 1).toNat (iI (0))) = N1
  have uN1 : ∀ q, q ≠ 95 → N1 q = I q := fun q h => by rw [← hgN1, zu_n _ _ h]
  have aN1_95 : N1 95 (D + 1) = iI (0) := by rw [← hgN1, zu_s, show ((D : Int) + 1).toNat = D + 1 by omega, zu_s]
  have fN1 : ∀ q i, i ≠ D + 1 → N1 q i = I q i := fun q i h => by
    by_cases hq : q = 95
    · rw [hq, ← hgN1, zu_s, show ((D : Int) + 1).toNat = D + 1 by omega, zu_n _ _ h]
    · rw [uN1 q hq]
  have zN1 : ∀ q, (q < 95 ∨ 105 < q) → N1 q = I q := fun q h => uN1 q (by omega)
  clear hgN1
  refine r_aload_n hV dX12_choose_130 rfl rfl ?_
  refine r_getR hV dX12_choose_131 fl_X12_66 (by first | decide | omega) (by first | rfl | assumption) o37 ?_
  refine r_iload hV dX12_choose_134 rfl ?_
  refine r_iload_n hV dX12_choose_136 rfl ?_
  refine s_iconst hV dX12_choose_137 (1) (by decide) ?_
  refine s_icmp_ne hV 146 dX12_choose_138 (by decide) (by unfold z_rg; first | omega | (split <;> omega)) (by unfold z_rg; first | omega | (split <;> omega)) (fun _ => ?_) (fun c138 => absurd c138 (by decide))
  refine r_aload_n hV dX12_choose_146 rfl rfl ?_
  refine r_getR hV dX12_choose_147 fl_X12_66 (by first | decide | omega) (by first | rfl | assumption) o37 ?_
  refine r_iload_n hV dX12_choose_150 rfl ?_
  refine s_iaload hV dX12_choose_151 (by first | decide | omega) (by first | rfl | assumption) (by decide) (by omega) (by omega) (show N1 96 ((D : Nat) : Int).toNat = iI (ip) from by rw [Int.toNat_natCast]; exact (fN1 96 D (by omega)).trans e96) ?_
  refine s_iastore hV dX12_choose_152 (by first | decide | omega) (by first | rfl | assumption) (by decide) (by omega) (by omega) ?_
  generalize hgN2 : zu N1 96 (zu (N1 96) ((D : Int) + 1).toNat (iI (ip))) = N2
  have uN2 : ∀ q, q ≠ 96 → N2 q = N1 q := fun q h => by rw [← hgN2, zu_n _ _ h]
  have aN2_96 : N2 96 (D + 1) = iI (ip) := by rw [← hgN2, zu_s, show ((D : Int) + 1).toNat = D + 1 by omega, zu_s]
  have fN2 : ∀ q i, i ≠ D + 1 → N2 q i = I q i := fun q i h => by
    by_cases hq : q = 96
    · rw [hq, ← hgN2, zu_s, show ((D : Int) + 1).toNat = D + 1 by omega, zu_n _ _ h]; exact fN1 96 i h
    · rw [uN2 q hq]; exact fN1 q i h
  have zN2 : ∀ q, (q < 95 ∨ 105 < q) → N2 q = I q := fun q h => (uN2 q (by omega)).trans (zN1 q h)
  have aN2_95 : N2 95 (D + 1) = iI (0) := by rw [uN2 95 (by omega)]; exact aN1_95
  clear hgN2 fN1 zN1 aN1_95
  refine r_aload_n hV dX12_choose_153 rfl rfl ?_
  refine r_getR hV dX12_choose_154 fl_X12_69 (by first | decide | omega) (by first | rfl | assumption) o38 ?_
  refine r_iload hV dX12_choose_157 rfl ?_
  refine r_aload_n hV dX12_choose_159 rfl rfl ?_
  refine r_getR hV dX12_choose_160 fl_X12_69 (by first | decide | omega) (by first | rfl | assumption) o38 ?_
  refine r_iload_n hV dX12_choose_163 rfl ?_
  refine s_iaload hV dX12_choose_164 (by first | decide | omega) (by first | rfl | assumption) (by decide) (by omega) (by omega) (show N2 97 ((D : Nat) : Int).toNat = iI (rest) from by rw [Int.toNat_natCast]; exact (fN2 97 D (by omega)).trans e97) ?_
  refine r_aload_n hV dX12_choose_165 rfl rfl ?_
  refine r_getR hV dX12_choose_166 fl_X12_17 (by first | decide | omega) (by first | rfl | assumption) o7 ?_
  refine s_bipush hV dX12_choose_169 (6) (by decide) ?_
  refine r_iload hV dX12_choose_171 rfl ?_
  refine s_imul hV dX12_choose_173 ?_
  refine r_iload hV dX12_choose_174 rfl ?_
  refine s_iadd hV dX12_choose_176 ?_
  refine s_iaload hV dX12_choose_177 (by first | decide | omega) (by first | rfl | assumption) (by decide) (by omega) (by omega) (show N2 80 (6 * hp + 0).toNat = iI (F (hp * 6)) from (congrFun (zN2 80 (by omega)) _).trans ((zF (6 * hp + 0) (by omega) (by omega)).trans (congrArg iI hmv))) ?_
  refine s_isub hV dX12_choose_178 ?_
  refine s_iastore hV dX12_choose_179 (by first | decide | omega) (by first | rfl | assumption) (by decide) (by omega) (by omega) ?_
  generalize hgN3 : zu N2 97 (zu (N2 97) ((D : Int) + 1).toNat (iI (rest - F (hp * 6)))) = N3
  have uN3 : ∀ q, q ≠ 97 → N3 q = N2 q := fun q h => by rw [← hgN3, zu_n _ _ h]
  have aN3_97 : N3 97 (D + 1) = iI (rest - F (hp * 6)) := by rw [← hgN3, zu_s, show ((D : Int) + 1).toNat = D + 1 by omega, zu_s]
  have fN3 : ∀ q i, i ≠ D + 1 → N3 q i = I q i := fun q i h => by
    by_cases hq : q = 97
    · rw [hq, ← hgN3, zu_s, show ((D : Int) + 1).toNat = D + 1 by omega, zu_n _ _ h]; exact fN2 97 i h
    · rw [uN3 q hq]; exact fN2 q i h
  have zN3 : ∀ q, (q < 95 ∨ 105 < q) → N3 q = I q := fun q h => (uN3 q (by omega)).trans (zN2 q h)
  have aN3_95 : N3 95 (D + 1) = iI (0) := by rw [uN3 95 (by omega)]; exact aN2_95
  have aN3_96 : N3 96 (D + 1) = iI (ip) := by rw [uN3 96 (by omega)]; exact aN2_96
  clear hgN3 fN2 zN2 aN2_95 aN2_96
  refine r_aload_n hV dX12_choose_180 rfl rfl ?_
  refine r_getR hV dX12_choose_181 fl_X12_72 (by first | decide | omega) (by first | rfl | assumption) o39 ?_
  refine r_iload hV dX12_choose_184 rfl ?_
  refine r_aload_n hV dX12_choose_186 rfl rfl ?_
  refine r_getR hV dX12_choose_187 fl_X12_72 (by first | decide | omega) (by first | rfl | assumption) o39 ?_
  refine r_iload_n hV dX12_choose_190 rfl ?_
  refine s_iaload hV dX12_choose_191 (by first | decide | omega) (by first | rfl | assumption) (by decide) (by omega) (by omega) (show N3 98 ((D : Nat) : Int).toNat = iI (((gone : Nat) : Int)) from by rw [Int.toNat_natCast]; exact (fN3 98 D (by omega)).trans e98) ?_
  refine r_iload_n hV dX12_choose_192 rfl ?_
  refine s_if_le hV 203 dX12_choose_193 (by decide) (by unfold z_rg; first | omega | (split <;> omega)) (fun _ => ?_) (fun c193 => absurd (by omega) c193)
  refine s_iconst hV dX12_choose_203 (0) (by decide) ?_
  refine s_ior hV dX12_choose_204 (show iI ((gone : Nat) : Int) ||| iI 0 = iI ((gone : Nat) : Int) from by have h0 := zb_or (b := 0) hg64 (by omega); rw [Nat.or_zero] at h0; exact h0) ?_
  refine s_iastore hV dX12_choose_205 (by first | decide | omega) (by first | rfl | assumption) (by decide) (by omega) (by omega) ?_
  generalize hgN4 : zu N3 98 (zu (N3 98) ((D : Int) + 1).toNat (iI (((gone : Nat) : Int)))) = N4
  have uN4 : ∀ q, q ≠ 98 → N4 q = N3 q := fun q h => by rw [← hgN4, zu_n _ _ h]
  have aN4_98 : N4 98 (D + 1) = iI (((gone : Nat) : Int)) := by rw [← hgN4, zu_s, show ((D : Int) + 1).toNat = D + 1 by omega, zu_s]
  have fN4 : ∀ q i, i ≠ D + 1 → N4 q i = I q i := fun q i h => by
    by_cases hq : q = 98
    · rw [hq, ← hgN4, zu_s, show ((D : Int) + 1).toNat = D + 1 by omega, zu_n _ _ h]; exact fN3 98 i h
    · rw [uN4 q hq]; exact fN3 q i h
  have zN4 : ∀ q, (q < 95 ∨ 105 < q) → N4 q = I q := fun q h => (uN4 q (by omega)).trans (zN3 q h)
  have aN4_95 : N4 95 (D + 1) = iI (0) := by rw [uN4 95 (by omega)]; exact aN3_95
  have aN4_96 : N4 96 (D + 1) = iI (ip) := by rw [uN4 96 (by omega)]; exact aN3_96
  have aN4_97 : N4 97 (D + 1) = iI (rest - F (hp * 6)) := by rw [uN4 97 (by omega)]; exact aN3_97
  clear hgN4 fN3 zN3 aN3_95 aN3_96 aN3_97
  refine r_aload_n hV dX12_choose_206 rfl rfl ?_
  refine r_getR hV dX12_choose_207 fl_X12_75 (by first | decide | omega) (by first | rfl | assumption) o40 ?_
  refine r_iload hV dX12_choose_210 rfl ?_
  refine r_aload_n hV dX12_choose_212 rfl rfl ?_
  refine r_getR hV dX12_choose_213 fl_X12_75 (by first | decide | omega) (by first | rfl | assumption) o40 ?_
  refine r_iload_n hV dX12_choose_216 rfl ?_
  refine s_iaload hV dX12_choose_217 (by first | decide | omega) (by first | rfl | assumption) (by decide) (by omega) (by omega) (show N4 99 ((D : Nat) : Int).toNat = iI (((2 : Nat) : Int)) from by rw [Int.toNat_natCast]; exact (fN4 99 D (by omega)).trans e99) ?_
  refine r_iload_n hV dX12_choose_218 rfl ?_
  refine s_if_ne hV 228 dX12_choose_219 (by decide) (by unfold z_rg; first | omega | (split <;> omega)) (fun c219 => absurd c219 (by omega)) (fun _ => ?_)
  refine s_iconst hV dX12_choose_222 (1) (by decide) ?_
  refine r_iload_n hV dX12_choose_223 rfl ?_
  refine s_ishl hV dX12_choose_224 (show iI 1 <<< (iI 0 &&& 31) = iI 1 from by decide) ?_
  refine r_goto hV 229 dX12_choose_225 (by decide) ?_
  refine s_ior hV dX12_choose_229 (show iI ((2 : Nat) : Int) ||| iI 1 = iI ((3 : Nat) : Int) from by decide) ?_
  refine s_iastore hV dX12_choose_230 (by first | decide | omega) (by first | rfl | assumption) (by decide) (by omega) (by omega) ?_
  generalize hgN5 : zu N4 99 (zu (N4 99) ((D : Int) + 1).toNat (iI (((3 : Nat) : Int)))) = N5
  have uN5 : ∀ q, q ≠ 99 → N5 q = N4 q := fun q h => by rw [← hgN5, zu_n _ _ h]
  have aN5_99 : N5 99 (D + 1) = iI (((3 : Nat) : Int)) := by rw [← hgN5, zu_s, show ((D : Int) + 1).toNat = D + 1 by omega, zu_s]
  have fN5 : ∀ q i, i ≠ D + 1 → N5 q i = I q i := fun q i h => by
    by_cases hq : q = 99
    · rw [hq, ← hgN5, zu_s, show ((D : Int) + 1).toNat = D + 1 by omega, zu_n _ _ h]; exact fN4 99 i h
    · rw [uN5 q hq]; exact fN4 q i h
  have zN5 : ∀ q, (q < 95 ∨ 105 < q) → N5 q = I q := fun q h => (uN5 q (by omega)).trans (zN4 q h)
  have aN5_95 : N5 95 (D + 1) = iI (0) := by rw [uN5 95 (by omega)]; exact aN4_95
  have aN5_96 : N5 96 (D + 1) = iI (ip) := by rw [uN5 96 (by omega)]; exact aN4_96
  have aN5_97 : N5 97 (D + 1) = iI (rest - F (hp * 6)) := by rw [uN5 97 (by omega)]; exact aN4_97
  have aN5_98 : N5 98 (D + 1) = iI (((gone : Nat) : Int)) := by rw [uN5 98 (by omega)]; exact aN4_98
  clear hgN5 fN4 zN4 aN4_95 aN4_96 aN4_97 aN4_98
  refine r_aload_n hV dX12_choose_231 rfl rfl ?_
  refine r_getR hV dX12_choose_232 fl_X12_84 (by first | decide | omega) (by first | rfl | assumption) o43 ?_
  refine r_iload hV dX12_choose_235 rfl ?_
  refine r_aload_n hV dX12_choose_237 rfl rfl ?_
  refine r_getR hV dX12_choose_238 fl_X12_84 (by first | decide | omega) (by first | rfl | assumption) o43 ?_
  refine r_iload_n hV dX12_choose_241 rfl ?_
  refine s_iaload hV dX12_choose_242 (by first | decide | omega) (by first | rfl | assumption) (by decide) (by omega) (by omega) (show N5 102 ((D : Nat) : Int).toNat = iI (ha) from by rw [Int.toNat_natCast]; exact (fN5 102 D (by omega)).trans e102) ?_
  refine r_iload_n hV dX12_choose_243 rfl ?_
  refine s_if_ne hV 261 dX12_choose_244 (by decide) (by unfold z_rg; first | omega | (split <;> omega)) (fun c244 => absurd c244 (by decide)) (fun _ => ?_)
  refine r_iload_n hV dX12_choose_247 rfl ?_
  refine s_if_le hV 261 dX12_choose_248 (by decide) (by unfold z_rg; first | omega | (split <;> omega)) (fun _ => ?_) (fun c248 => absurd (by omega) c248)
  refine s_iconst hV dX12_choose_261 (0) (by decide) ?_
  refine s_iadd hV dX12_choose_262 ?_
  rw [Int.add_zero]
  refine s_iastore hV dX12_choose_263 (by first | decide | omega) (by first | rfl | assumption) (by decide) (by omega) (by omega) ?_
  generalize hgN6 : zu N5 102 (zu (N5 102) ((D : Int) + 1).toNat (iI (ha))) = N6
  have uN6 : ∀ q, q ≠ 102 → N6 q = N5 q := fun q h => by rw [← hgN6, zu_n _ _ h]
  have aN6_102 : N6 102 (D + 1) = iI (ha) := by rw [← hgN6, zu_s, show ((D : Int) + 1).toNat = D + 1 by omega, zu_s]
  have fN6 : ∀ q i, i ≠ D + 1 → N6 q i = I q i := fun q i h => by
    by_cases hq : q = 102
    · rw [hq, ← hgN6, zu_s, show ((D : Int) + 1).toNat = D + 1 by omega, zu_n _ _ h]; exact fN5 102 i h
    · rw [uN6 q hq]; exact fN5 q i h
  have zN6 : ∀ q, (q < 95 ∨ 105 < q) → N6 q = I q := fun q h => (uN6 q (by omega)).trans (zN5 q h)
  have aN6_95 : N6 95 (D + 1) = iI (0) := by rw [uN6 95 (by omega)]; exact aN5_95
  have aN6_96 : N6 96 (D + 1) = iI (ip) := by rw [uN6 96 (by omega)]; exact aN5_96
  have aN6_97 : N6 97 (D + 1) = iI (rest - F (hp * 6)) := by rw [uN6 97 (by omega)]; exact aN5_97
  have aN6_98 : N6 98 (D + 1) = iI (((gone : Nat) : Int)) := by rw [uN6 98 (by omega)]; exact aN5_98
  have aN6_99 : N6 99 (D + 1) = iI (((3 : Nat) : Int)) := by rw [uN6 99 (by omega)]; exact aN5_99
  clear hgN6 fN5 zN5 aN5_95 aN5_96 aN5_97 aN5_98 aN5_99
  refine r_aload_n hV dX12_choose_264 rfl rfl ?_
  refine r_getR hV dX12_choose_265 fl_X12_87 (by first | decide | omega) (by first | rfl | assumption) o44 ?_
  refine r_iload hV dX12_choose_268 rfl ?_
  refine r_aload_n hV dX12_choose_270 rfl rfl ?_
  refine r_getR hV dX12_choose_271 fl_X12_87 (by first | decide | omega) (by first | rfl | assumption) o44 ?_
  refine r_iload_n hV dX12_choose_274 rfl ?_
  refine s_iaload hV dX12_choose_275 (by first | decide | omega) (by first | rfl | assumption) (by decide) (by omega) (by omega) (show N6 103 ((D : Nat) : Int).toNat = iI (hb) from by rw [Int.toNat_natCast]; exact (fN6 103 D (by omega)).trans e103) ?_
  refine r_iload_n hV dX12_choose_276 rfl ?_
  refine s_iconst hV dX12_choose_277 (1) (by decide) ?_
  refine s_icmp_ne hV 295 dX12_choose_278 (by decide) (by unfold z_rg; first | omega | (split <;> omega)) (by unfold z_rg; first | omega | (split <;> omega)) (fun _ => ?_) (fun c278 => absurd c278 (by decide))
  refine s_iconst hV dX12_choose_295 (0) (by decide) ?_
  refine s_iadd hV dX12_choose_296 ?_
  rw [Int.add_zero]
  refine s_iastore hV dX12_choose_297 (by first | decide | omega) (by first | rfl | assumption) (by decide) (by omega) (by omega) ?_
  generalize hgN7 : zu N6 103 (zu (N6 103) ((D : Int) + 1).toNat (iI (hb))) = N7
  have uN7 : ∀ q, q ≠ 103 → N7 q = N6 q := fun q h => by rw [← hgN7, zu_n _ _ h]
  have aN7_103 : N7 103 (D + 1) = iI (hb) := by rw [← hgN7, zu_s, show ((D : Int) + 1).toNat = D + 1 by omega, zu_s]
  have fN7 : ∀ q i, i ≠ D + 1 → N7 q i = I q i := fun q i h => by
    by_cases hq : q = 103
    · rw [hq, ← hgN7, zu_s, show ((D : Int) + 1).toNat = D + 1 by omega, zu_n _ _ h]; exact fN6 103 i h
    · rw [uN7 q hq]; exact fN6 q i h
  have zN7 : ∀ q, (q < 95 ∨ 105 < q) → N7 q = I q := fun q h => (uN7 q (by omega)).trans (zN6 q h)
  have aN7_95 : N7 95 (D + 1) = iI (0) := by rw [uN7 95 (by omega)]; exact aN6_95
  have aN7_96 : N7 96 (D + 1) = iI (ip) := by rw [uN7 96 (by omega)]; exact aN6_96
  have aN7_97 : N7 97 (D + 1) = iI (rest - F (hp * 6)) := by rw [uN7 97 (by omega)]; exact aN6_97
  have aN7_98 : N7 98 (D + 1) = iI (((gone : Nat) : Int)) := by rw [uN7 98 (by omega)]; exact aN6_98
  have aN7_99 : N7 99 (D + 1) = iI (((3 : Nat) : Int)) := by rw [uN7 99 (by omega)]; exact aN6_99
  have aN7_102 : N7 102 (D + 1) = iI (ha) := by rw [uN7 102 (by omega)]; exact aN6_102
  clear hgN7 fN6 zN6 aN6_95 aN6_96 aN6_97 aN6_98 aN6_99 aN6_102
  refine r_aload_n hV dX12_choose_298 rfl rfl ?_
  refine r_getR hV dX12_choose_299 fl_X12_78 (by first | decide | omega) (by first | rfl | assumption) o41 ?_
  refine r_iload hV dX12_choose_302 rfl ?_
  refine r_aload_n hV dX12_choose_304 rfl rfl ?_
  refine r_getR hV dX12_choose_305 fl_X12_75 (by first | decide | omega) (by first | rfl | assumption) o40 ?_
  refine r_iload hV dX12_choose_308 rfl ?_
  refine s_iaload hV dX12_choose_310 (by first | decide | omega) (by first | rfl | assumption) (by decide) (by omega) (by omega) (show N7 99 ((D : Int) + 1).toNat = iI ((3 : Nat) : Int) from by rw [show ((D : Int) + 1).toNat = D + 1 by omega]; exact aN7_99) ?_
  refine s_iconst hV dX12_choose_311 (1) (by decide) ?_
  refine r_iload_n hV dX12_choose_312 rfl ?_
  refine s_isub hV dX12_choose_313 ?_
  rw [show (1 : Int) - 0 = ((1 : Nat) : Int) from rfl]
  refine q_is2v hV dX12_choose_314 ms_X12_180 (n_has N7 J P 3 1 (by decide) (by decide)) (by decide) (Nat.le_refl _) (Nat.le_of_ble_eq_true rfl) ?_
  refine s_if_eq hV 324 dX12_choose_317 (by decide) (by unfold z_rg; first | omega | (split <;> omega)) (fun c317 => absurd c317 (by decide)) (fun _ => ?_)
  refine r_iload_n hV dX12_choose_320 rfl ?_
  refine r_goto hV 327 dX12_choose_321 (by decide) ?_
  refine s_iastore hV dX12_choose_327 (by first | decide | omega) (by first | rfl | assumption) (by decide) (by omega) (by omega) ?_
  generalize hgN8 : zu N7 100 (zu (N7 100) ((D : Int) + 1).toNat (iI (0))) = N8
  have uN8 : ∀ q, q ≠ 100 → N8 q = N7 q := fun q h => by rw [← hgN8, zu_n _ _ h]
  have aN8_100 : N8 100 (D + 1) = iI (0) := by rw [← hgN8, zu_s, show ((D : Int) + 1).toNat = D + 1 by omega, zu_s]
  have fN8 : ∀ q i, i ≠ D + 1 → N8 q i = I q i := fun q i h => by
    by_cases hq : q = 100
    · rw [hq, ← hgN8, zu_s, show ((D : Int) + 1).toNat = D + 1 by omega, zu_n _ _ h]; exact fN7 100 i h
    · rw [uN8 q hq]; exact fN7 q i h
  have zN8 : ∀ q, (q < 95 ∨ 105 < q) → N8 q = I q := fun q h => (uN8 q (by omega)).trans (zN7 q h)
  have aN8_95 : N8 95 (D + 1) = iI (0) := by rw [uN8 95 (by omega)]; exact aN7_95
  have aN8_96 : N8 96 (D + 1) = iI (ip) := by rw [uN8 96 (by omega)]; exact aN7_96
  have aN8_97 : N8 97 (D + 1) = iI (rest - F (hp * 6)) := by rw [uN8 97 (by omega)]; exact aN7_97
  have aN8_98 : N8 98 (D + 1) = iI (((gone : Nat) : Int)) := by rw [uN8 98 (by omega)]; exact aN7_98
  have aN8_99 : N8 99 (D + 1) = iI (((3 : Nat) : Int)) := by rw [uN8 99 (by omega)]; exact aN7_99
  have aN8_102 : N8 102 (D + 1) = iI (ha) := by rw [uN8 102 (by omega)]; exact aN7_102
  have aN8_103 : N8 103 (D + 1) = iI (hb) := by rw [uN8 103 (by omega)]; exact aN7_103
  clear hgN8 fN7 zN7 aN7_95 aN7_96 aN7_97 aN7_98 aN7_99 aN7_102 aN7_103
  refine r_aload_n hV dX12_choose_328 rfl rfl ?_
  refine r_getR hV dX12_choose_329 fl_X12_81 (by first | decide | omega) (by first | rfl | assumption) o42 ?_
  refine r_iload hV dX12_choose_332 rfl ?_
  refine s_iconst hV dX12_choose_334 (0) (by decide) ?_
  refine s_iastore hV dX12_choose_335 (by first | decide | omega) (by first | rfl | assumption) (by decide) (by omega) (by omega) ?_
  generalize hgN9 : zu N8 101 (zu (N8 101) ((D : Int) + 1).toNat (iI (0))) = N9
  have uN9 : ∀ q, q ≠ 101 → N9 q = N8 q := fun q h => by rw [← hgN9, zu_n _ _ h]
  have aN9_101 : N9 101 (D + 1) = iI (0) := by rw [← hgN9, zu_s, show ((D : Int) + 1).toNat = D + 1 by omega, zu_s]
  have fN9 : ∀ q i, i ≠ D + 1 → N9 q i = I q i := fun q i h => by
    by_cases hq : q = 101
    · rw [hq, ← hgN9, zu_s, show ((D : Int) + 1).toNat = D + 1 by omega, zu_n _ _ h]; exact fN8 101 i h
    · rw [uN9 q hq]; exact fN8 q i h
  have zN9 : ∀ q, (q < 95 ∨ 105 < q) → N9 q = I q := fun q h => (uN9 q (by omega)).trans (zN8 q h)
  have aN9_95 : N9 95 (D + 1) = iI (0) := by rw [uN9 95 (by omega)]; exact aN8_95
  have aN9_96 : N9 96 (D + 1) = iI (ip) := by rw [uN9 96 (by omega)]; exact aN8_96
  have aN9_97 : N9 97 (D + 1) = iI (rest - F (hp * 6)) := by rw [uN9 97 (by omega)]; exact aN8_97
  have aN9_98 : N9 98 (D + 1) = iI (((gone : Nat) : Int)) := by rw [uN9 98 (by omega)]; exact aN8_98
  have aN9_99 : N9 99 (D + 1) = iI (((3 : Nat) : Int)) := by rw [uN9 99 (by omega)]; exact aN8_99
  have aN9_102 : N9 102 (D + 1) = iI (ha) := by rw [uN9 102 (by omega)]; exact aN8_102
  have aN9_103 : N9 103 (D + 1) = iI (hb) := by rw [uN9 103 (by omega)]; exact aN8_103
  have aN9_100 : N9 100 (D + 1) = iI (0) := by rw [uN9 100 (by omega)]; exact aN8_100
  clear hgN9 fN8 zN8 aN8_95 aN8_96 aN8_97 aN8_98 aN8_99 aN8_102 aN8_103 aN8_100
  refine r_aload_n hV dX12_choose_336 rfl rfl ?_
  refine r_getR hV dX12_choose_337 fl_X12_90 (by first | decide | omega) (by first | rfl | assumption) o45 ?_
  refine r_iload hV dX12_choose_340 rfl ?_
  refine s_bipush hV dX12_choose_342 (-9) (by decide) ?_
  refine s_iastore hV dX12_choose_344 (by first | decide | omega) (by first | rfl | assumption) (by decide) (by omega) (by omega) ?_
  generalize hgN10 : zu N9 104 (zu (N9 104) ((D : Int) + 1).toNat (iI (-9))) = N10
  have uN10 : ∀ q, q ≠ 104 → N10 q = N9 q := fun q h => by rw [← hgN10, zu_n _ _ h]
  have aN10_104 : N10 104 (D + 1) = iI (-9) := by rw [← hgN10, zu_s, show ((D : Int) + 1).toNat = D + 1 by omega, zu_s]
  have fN10 : ∀ q i, i ≠ D + 1 → N10 q i = I q i := fun q i h => by
    by_cases hq : q = 104
    · rw [hq, ← hgN10, zu_s, show ((D : Int) + 1).toNat = D + 1 by omega, zu_n _ _ h]; exact fN9 104 i h
    · rw [uN10 q hq]; exact fN9 q i h
  have zN10 : ∀ q, (q < 95 ∨ 105 < q) → N10 q = I q := fun q h => (uN10 q (by omega)).trans (zN9 q h)
  have aN10_95 : N10 95 (D + 1) = iI (0) := by rw [uN10 95 (by omega)]; exact aN9_95
  have aN10_96 : N10 96 (D + 1) = iI (ip) := by rw [uN10 96 (by omega)]; exact aN9_96
  have aN10_97 : N10 97 (D + 1) = iI (rest - F (hp * 6)) := by rw [uN10 97 (by omega)]; exact aN9_97
  have aN10_98 : N10 98 (D + 1) = iI (((gone : Nat) : Int)) := by rw [uN10 98 (by omega)]; exact aN9_98
  have aN10_99 : N10 99 (D + 1) = iI (((3 : Nat) : Int)) := by rw [uN10 99 (by omega)]; exact aN9_99
  have aN10_102 : N10 102 (D + 1) = iI (ha) := by rw [uN10 102 (by omega)]; exact aN9_102
  have aN10_103 : N10 103 (D + 1) = iI (hb) := by rw [uN10 103 (by omega)]; exact aN9_103
  have aN10_100 : N10 100 (D + 1) = iI (0) := by rw [uN10 100 (by omega)]; exact aN9_100
  have aN10_101 : N10 101 (D + 1) = iI (0) := by rw [uN10 101 (by omega)]; exact aN9_101
  clear hgN10 fN9 zN9 aN9_95 aN9_96 aN9_97 aN9_98 aN9_99 aN9_102 aN9_103 aN9_100 aN9_101
  refine r_aload_n hV dX12_choose_345 rfl rfl ?_
  refine r_getR hV dX12_choose_346 fl_X12_93 (by first | decide | omega) (by first | rfl | assumption) o46 ?_
  refine r_iload hV dX12_choose_349 rfl ?_
  refine s_bipush hV dX12_choose_351 (-9) (by decide) ?_
  refine s_iastore hV dX12_choose_353 (by first | decide | omega) (by first | rfl | assumption) (by decide) (by omega) (by omega) ?_
  generalize hgN11 : zu N10 105 (zu (N10 105) ((D : Int) + 1).toNat (iI (-9))) = N11
  have uN11 : ∀ q, q ≠ 105 → N11 q = N10 q := fun q h => by rw [← hgN11, zu_n _ _ h]
  have aN11_105 : N11 105 (D + 1) = iI (-9) := by rw [← hgN11, zu_s, show ((D : Int) + 1).toNat = D + 1 by omega, zu_s]
  have fN11 : ∀ q i, i ≠ D + 1 → N11 q i = I q i := fun q i h => by
    by_cases hq : q = 105
    · rw [hq, ← hgN11, zu_s, show ((D : Int) + 1).toNat = D + 1 by omega, zu_n _ _ h]; exact fN10 105 i h
    · rw [uN11 q hq]; exact fN10 q i h
  have zN11 : ∀ q, (q < 95 ∨ 105 < q) → N11 q = I q := fun q h => (uN11 q (by omega)).trans (zN10 q h)
  have aN11_95 : N11 95 (D + 1) = iI (0) := by rw [uN11 95 (by omega)]; exact aN10_95
  have aN11_96 : N11 96 (D + 1) = iI (ip) := by rw [uN11 96 (by omega)]; exact aN10_96
  have aN11_97 : N11 97 (D + 1) = iI (rest - F (hp * 6)) := by rw [uN11 97 (by omega)]; exact aN10_97
  have aN11_98 : N11 98 (D + 1) = iI (((gone : Nat) : Int)) := by rw [uN11 98 (by omega)]; exact aN10_98
  have aN11_99 : N11 99 (D + 1) = iI (((3 : Nat) : Int)) := by rw [uN11 99 (by omega)]; exact aN10_99
  have aN11_102 : N11 102 (D + 1) = iI (ha) := by rw [uN11 102 (by omega)]; exact aN10_102
  have aN11_103 : N11 103 (D + 1) = iI (hb) := by rw [uN11 103 (by omega)]; exact aN10_103
  have aN11_100 : N11 100 (D + 1) = iI (0) := by rw [uN11 100 (by omega)]; exact aN10_100
  have aN11_101 : N11 101 (D + 1) = iI (0) := by rw [uN11 101 (by omega)]; exact aN10_101
  have aN11_104 : N11 104 (D + 1) = iI (-9) := by rw [uN11 104 (by omega)]; exact aN10_104
  clear hgN11 fN10 zN10 aN10_95 aN10_96 aN10_97 aN10_98 aN10_99 aN10_102 aN10_103 aN10_100 aN10_101 aN10_104
  refine r_aload_n hV dX12_choose_354 rfl rfl ?_
  refine r_iload hV dX12_choose_355 rfl ?_
  rw [show (D : Int) + 1 = ((D + 1 : Nat) : Int) by omega]
  refine q_iv1v hV dX12_choose_357 mv_X12_241 (n_canBoth N11 J P hM n hnb F (z_ar_fr zF (zN11 80 (by omega))) hFd (D + 1) (by omega) (0) (ip) (rest - F (hp * 6)) aN11_95 aN11_96 aN11_97 (by omega) (by omega) (by omega)) (by first | decide | omega) (by first | rfl | assumption) (by decide) (Nat.le_refl _) (Nat.le_of_ble_eq_true rfl) ?_
  refine s_zret hV dX12_choose_360 rfl (by split <;> omega) rfl ?_
  refine ⟨?_, rfl, rfl, zN11, fN11, fun _ => ⟨⟨aN11_95, aN11_96, aN11_97, aN11_98, aN11_99, aN11_100, aN11_102, aN11_103⟩, aN11_101, aN11_104, aN11_105⟩⟩
  rfl

set_option maxRecDepth 20000 in
theorem n_ch02e (I : zI) (J : zJ) (P : zP) (hM : mK P) (n e : Nat) (hnb : 2 ≤ n ∧ n ≤ 6) (h8 : I 78 8 = iI (e : Int)) (he6 : e ≤ 6) (F W U K : Int → Int) (zF : z_ar I 80 36 (mF F)) (hFd : zD F) (zW : z_ar I 81 e W) (hWb : z_bd W e 0 (n - 1)) (zU : z_ar I 82 e U) (hUb : z_bd U 6 0 9) (zK : z_ar I 83 e K) (hKb : z_bd K 6 0 2) (D : Nat) (hD : D ≤ 7) (hp ip rest : Int) (gone : Nat) (hg64 : gone < 64) (ha hb : Int) (hFr : mFr I D hp ip rest gone 2 0 ha hb) (hhp : 0 ≤ hp ∧ hp < n) (hip : 0 ≤ ip ∧ ip < n) (hrest : -50000 ≤ rest ∧ rest ≤ 90000) (x : Nat) (hx : x < e) : z_Sp 2 yX12_choose cX12_choose 8 (some .boolean) 108 108 I J P [.ref 78, .int (iI (D : Int)), .int (iI ((x : Int) + 1))] (q_ch I J P D ((¬ gone.testBit x = true ∧ (K (x : Int) = 2 ∨ K (x : Int) = 0) ∧ F (hp * 6 + W (x : Int)) < 1000000) ∧ F ((W (x : Int)) * 6) + F ((ip) * 6) ≤ rest - F (hp * 6 + W (x : Int))) (W (x : Int)) (ip) (rest - F (hp * 6 + W (x : Int))) (gone ||| 2 ^ x) 2 0 (ha + U (x : Int)) (hb)) := by
  obtain ⟨o1, o7, o9, o10, o11, o16, o17, o18, o19, o20, o25, o26, o28, o29, o30, o31, o36, o37, o38, o39, o40, o41, o42, o43, o44, o45, o46, o47, o48⟩ := id hM
  obtain ⟨e95, e96, e97, e98, e99, e100, e102, e103⟩ := id hFr
  refine z_met false (by decide +kernel) (fun h => by cases h) (Nat.le_of_ble_eq_true rfl) (by first | decide | omega) (fun V hV => ?_)
  show V 108 I J P 0 [.ref 78, .int (iI (D : Int)), .int (iI ((x : Int) + 1)), .null, .null, .null, .null, .null] []
  refine r_aload_n hV dX12_choose_0 rfl rfl ?_
  refine r_getR hV dX12_choose_1 fl_X12_78 (by first | decide | omega) (by first | rfl | assumption) o41 ?_
  refine r_iload_n hV dX12_choose_4 rfl ?_
  refine s_iaload hV dX12_choose_5 (by first | decide | omega) (by first | rfl | assumption) (by decide) (by omega) (by omega) (show I 100 ((D : Nat) : Int).toNat = iI (0) from by rw [Int.toNat_natCast]; exact e100) ?_
  refine r_istore_n hV dX12_choose_6 (Nat.le_of_ble_eq_true rfl) (z_st1_8_3 rfl) ?_
  refine r_iload_n hV dX12_choose_7 rfl ?_
  refine s_if_ne hV 20 dX12_choose_8 (by decide) (by unfold z_rg; first | omega | (split <;> omega)) (fun c8 => absurd c8 (by decide)) (fun _ => ?_)
  refine r_aload_n hV dX12_choose_11 rfl rfl ?_
  refine r_getR hV dX12_choose_12 fl_X12_63 (by first | decide | omega) (by first | rfl | assumption) o36 ?_
  refine r_iload_n hV dX12_choose_15 rfl ?_
  refine s_iaload hV dX12_choose_16 (by first | decide | omega) (by first | rfl | assumption) (by decide) (by omega) (by omega) (show I 95 ((D : Nat) : Int).toNat = iI (hp) from by rw [Int.toNat_natCast]; exact e95) ?_
  refine r_goto hV 26 dX12_choose_17 (by decide) ?_
  refine r_istore hV dX12_choose_26 (Nat.le_of_ble_eq_true rfl) (z_st1_8_4 rfl) ?_
  refine r_iload_n hV dX12_choose_28 rfl ?_
  refine s_iconst hV dX12_choose_29 (1) (by decide) ?_
  refine s_isub hV dX12_choose_30 ?_
  rw [show (x : Int) + 1 - 1 = (x : Int) by omega]
  refine r_istore hV dX12_choose_31 (Nat.le_of_ble_eq_true rfl) (z_st1_8_5 rfl) ?_
  refine r_iload_n hV dX12_choose_33 rfl ?_
  refine s_if_le hV 86 dX12_choose_34 (by decide) (by unfold z_rg; first | omega | (split <;> omega)) (fun c34 => absurd c34 (by omega)) (fun _ => ?_)
  refine r_aload_n hV dX12_choose_37 rfl rfl ?_
  refine r_getR hV dX12_choose_38 fl_X12_72 (by first | decide | omega) (by first | rfl | assumption) o39 ?_
  refine r_iload_n hV dX12_choose_41 rfl ?_
  refine s_iaload hV dX12_choose_42 (by first | decide | omega) (by first | rfl | assumption) (by decide) (by omega) (by omega) (show I 98 ((D : Nat) : Int).toNat = iI (((gone : Nat) : Int)) from by rw [Int.toNat_natCast]; exact e98) ?_
  refine r_iload hV dX12_choose_43 rfl ?_
  refine q_is2v hV dX12_choose_45 ms_X12_180 (n_has I J P gone x hg64 (by omega)) (by decide) (Nat.le_refl _) (Nat.le_of_ble_eq_true rfl) ?_
  refine s_if_ne hV 84 dX12_choose_48 (by decide) (by unfold z_rg; first | omega | (split <;> omega)) (fun c48 => ?_) (fun c48 => ?_)
  · have hg := z_ite1 c48
    refine s_iconst hV dX12_choose_84 (0) (by decide) ?_
    refine s_zret hV dX12_choose_85 rfl (by omega) rfl ?_
    refine ⟨?_, rfl, rfl, fun _ _ => rfl, fun _ _ _ => rfl, fun hh => ?_⟩
    · refine congrArg (fun z => some (Value.int (iI z))) ?_
      rw [if_neg (by first | exact fun hh => hh.1.1 hg | exact fun hh => hc hh.1.2.1 | (rw [hfe]; omega))]
    · first | exact absurd hg hh.1.1 | exact absurd hh.1.2.1 hc | (exfalso; rw [hfe] at hh; omega)
  · have hg := z_ite0 (by first | exact c48 | exact Classical.not_not.mp c48)
    refine r_aload_n hV dX12_choose_51 rfl rfl ?_
    refine r_iload_n hV dX12_choose_52 rfl ?_
    refine r_iload hV dX12_choose_53 rfl ?_
    refine q_iv2v hV dX12_choose_55 mv_X12_211 (n_canDo I J P hM e K zK he6 hKb 0 (x : Int) (by unfold z_rg; omega) (by omega)) (by first | decide | omega) (by first | rfl | assumption) (by decide) (Nat.le_refl _) (Nat.le_of_ble_eq_true rfl) ?_
    refine s_if_eq hV 84 dX12_choose_58 (by decide) (by unfold z_rg; first | omega | (split <;> omega)) (fun c58 => ?_) (fun c58 => ?_)
    · have hc := z_ite0 c58
      refine s_iconst hV dX12_choose_84 (0) (by decide) ?_
      refine s_zret hV dX12_choose_85 rfl (by omega) rfl ?_
      refine ⟨?_, rfl, rfl, fun _ _ => rfl, fun _ _ _ => rfl, fun hh => ?_⟩
      · refine congrArg (fun z => some (Value.int (iI z))) ?_
        rw [if_neg (by first | exact fun hh => hh.1.1 hg | exact fun hh => hc hh.1.2.1 | (rw [hfe]; omega))]
      · first | exact absurd hg hh.1.1 | exact absurd hh.1.2.1 hc | (exfalso; rw [hfe] at hh; omega)
    · have hc := z_ite1 c58
      have hwx := hWb (x : Int) (by omega) (by omega)
      have hux := hUb (x : Int) (by omega) (by omega)
      have hfx := hFd (6 * hp + W (x : Int)) (by omega) (by omega)
      have hfe : F (hp * 6 + W (x : Int)) = F (6 * hp + W (x : Int)) := congrArg F (by omega)
      have hmx : mF F (6 * hp + W (x : Int)) = if F (6 * hp + W (x : Int)) < 1000000 then F (6 * hp + W (x : Int)) else 99999 := rfl
      refine r_aload_n hV dX12_choose_61 rfl rfl ?_
      refine r_getR hV dX12_choose_62 fl_X12_17 (by first | decide | omega) (by first | rfl | assumption) o7 ?_
      refine s_bipush hV dX12_choose_65 (6) (by decide) ?_
      refine r_iload hV dX12_choose_67 rfl ?_
      refine s_imul hV dX12_choose_69 ?_
      refine r_aload_n hV dX12_choose_70 rfl rfl ?_
      refine r_getR hV dX12_choose_71 fl_X12_20 (by first | decide | omega) (by first | rfl | assumption) o9 ?_
      refine r_iload hV dX12_choose_74 rfl ?_
      refine s_iaload hV dX12_choose_76 (by first | decide | omega) (by first | rfl | assumption) (by decide) (by omega) (by omega) (zW (x : Int) (by omega) (by omega)) ?_
      refine s_iadd hV dX12_choose_77 ?_
      refine s_iaload hV dX12_choose_78 (by first | decide | omega) (by first | rfl | assumption) (by decide) (by omega) (by omega) (zF (6 * hp + W (x : Int)) (by omega) (by omega)) ?_
      refine s_ldc hV dX12_choose_79 ct_X12_103 (99999) (by decide) ?_
      refine s_icmp_lt hV 86 dX12_choose_81 (by decide) (by unfold z_rg; first | omega | (split <;> omega)) (by unfold z_rg; first | omega | (split <;> omega)) (fun c81 => ?_) (fun c81 => ?_)
      · have hmv : mF F (6 * hp + W (x : Int)) = F (hp * 6 + W (x : Int)) := by rw [hfe]; omega
        refine r_iload_n hV dX12_choose_86 rfl ?_
        refine s_if_ne hV 94 dX12_choose_87 (by decide) (by unfold z_rg; first | omega | (split <;> omega)) (fun _ => ?_) (fun c87 => absurd c87 (by omega))
        refine r_aload_n hV dX12_choose_94 rfl rfl ?_
        refine r_getR hV dX12_choose_95 fl_X12_20 (by first | decide | omega) (by first | rfl | assumption) o9 ?_
        refine r_iload hV dX12_choose_98 rfl ?_
        refine s_iaload hV dX12_choose_100 (by first | decide | omega) (by first | rfl | assumption) (by decide) (by omega) (by omega) (zW (x : Int) (by omega) (by omega)) ?_
        refine r_istore hV dX12_choose_101 (Nat.le_of_ble_eq_true rfl) (z_st1_8_6 rfl) ?_
        refine r_iload_n hV dX12_choose_103 rfl ?_
        refine s_iconst hV dX12_choose_104 (1) (by decide) ?_
        refine s_iadd hV dX12_choose_105 ?_
        refine r_istore hV dX12_choose_106 (Nat.le_of_ble_eq_true rfl) (z_st1_8_7 rfl) ?_
        refine r_aload_n hV dX12_choose_108 rfl rfl ?_
        refine r_getR hV dX12_choose_109 fl_X12_63 (by first | decide | omega) (by first | rfl | assumption) o36 ?_
        refine r_iload hV dX12_choose_112 rfl ?_
        refine r_iload_n hV dX12_choose_114 rfl ?_
        refine s_if_ne hV 123 dX12_choose_115 (by decide) (by unfold z_rg; first | omega | (split <;> omega)) (fun c115 => absurd c115 (by decide)) (fun _ => ?_)
        refine r_iload hV dX12_choose_118 rfl ?_
        refine r_goto hV 129 dX12_choose_120 (by decide) ?_
        refine s_iastore hV dX12_choose_129 (by first | decide | omega) (by first | rfl | assumption) (by decide) (by omega) (by omega) ?_
        generalize hgN1 : zu I 95 (zu (I 95) ((D : Int) + 1).toNat (iI (W (x : Int)))) = N1
        have uN1 : ∀ q, q ≠ 95 → N1 q = I q := fun q h => by rw [← hgN1, zu_n _ _ h]
        have aN1_95 : N1 95 (D + 1) = iI (W (x : Int)) := by rw [← hgN1, zu_s, show ((D : Int) + 1).toNat = D + 1 by omega, zu_s]
        have fN1 : ∀ q i, i ≠ D + 1 → N1 q i = I q i := fun q i h => by
          by_cases hq : q = 95
          · rw [hq, ← hgN1, zu_s, show ((D : Int) + 1).toNat = D + 1 by omega, zu_n _ _ h]
          · rw [uN1 q hq]
        have zN1 : ∀ q, (q < 95 ∨ 105 < q) → N1 q = I q := fun q h => uN1 q (by omega)
        clear hgN1
        refine r_aload_n hV dX12_choose_130 rfl rfl ?_
        refine r_getR hV dX12_choose_131 fl_X12_66 (by first | decide | omega) (by first | rfl | assumption) o37 ?_
        refine r_iload hV dX12_choose_134 rfl ?_
        refine r_iload_n hV dX12_choose_136 rfl ?_
        refine s_iconst hV dX12_choose_137 (1) (by decide) ?_
        refine s_icmp_ne hV 146 dX12_choose_138 (by decide) (by unfold z_rg; first | omega | (split <;> omega)) (by unfold z_rg; first | omega | (split <;> omega)) (fun _ => ?_) (fun c138 => absurd c138 (by decide))
        refine r_aload_n hV dX12_choose_146 rfl rfl ?_
        refine r_getR hV dX12_choose_147 fl_X12_66 (by first | decide | omega) (by first | rfl | assumption) o37 ?_
        refine r_iload_n hV dX12_choose_150 rfl ?_
        refine s_iaload hV dX12_choose_151 (by first | decide | omega) (by first | rfl | assumption) (by decide) (by omega) (by omega) (show N1 96 ((D : Nat) : Int).toNat = iI (ip) from by rw [Int.toNat_natCast]; exact (fN1 96 D (by omega)).trans e96) ?_
        refine s_iastore hV dX12_choose_152 (by first | decide | omega) (by first | rfl | assumption) (by decide) (by omega) (by omega) ?_
        generalize hgN2 : zu N1 96 (zu (N1 96) ((D : Int) + 1).toNat (iI (ip))) = N2
        have uN2 : ∀ q, q ≠ 96 → N2 q = N1 q := fun q h => by rw [← hgN2, zu_n _ _ h]
        have aN2_96 : N2 96 (D + 1) = iI (ip) := by rw [← hgN2, zu_s, show ((D : Int) + 1).toNat = D + 1 by omega, zu_s]
        have fN2 : ∀ q i, i ≠ D + 1 → N2 q i = I q i := fun q i h => by
          by_cases hq : q = 96
          · rw [hq, ← hgN2, zu_s, show ((D : Int) + 1).toNat = D + 1 by omega, zu_n _ _ h]; exact fN1 96 i h
          · rw [uN2 q hq]; exact fN1 q i h
        have zN2 : ∀ q, (q < 95 ∨ 105 < q) → N2 q = I q := fun q h => (uN2 q (by omega)).trans (zN1 q h)
        have aN2_95 : N2 95 (D + 1) = iI (W (x : Int)) := by rw [uN2 95 (by omega)]; exact aN1_95
        clear hgN2 fN1 zN1 aN1_95
        refine r_aload_n hV dX12_choose_153 rfl rfl ?_
        refine r_getR hV dX12_choose_154 fl_X12_69 (by first | decide | omega) (by first | rfl | assumption) o38 ?_
        refine r_iload hV dX12_choose_157 rfl ?_
        refine r_aload_n hV dX12_choose_159 rfl rfl ?_
        refine r_getR hV dX12_choose_160 fl_X12_69 (by first | decide | omega) (by first | rfl | assumption) o38 ?_
        refine r_iload_n hV dX12_choose_163 rfl ?_
        refine s_iaload hV dX12_choose_164 (by first | decide | omega) (by first | rfl | assumption) (by decide) (by omega) (by omega) (show N2 97 ((D : Nat) : Int).toNat = iI (rest) from by rw [Int.toNat_natCast]; exact (fN2 97 D (by omega)).trans e97) ?_
        refine r_aload_n hV dX12_choose_165 rfl rfl ?_
        refine r_getR hV dX12_choose_166 fl_X12_17 (by first | decide | omega) (by first | rfl | assumption) o7 ?_
        refine s_bipush hV dX12_choose_169 (6) (by decide) ?_
        refine r_iload hV dX12_choose_171 rfl ?_
        refine s_imul hV dX12_choose_173 ?_
        refine r_iload hV dX12_choose_174 rfl ?_
        refine s_iadd hV dX12_choose_176 ?_
        refine s_iaload hV dX12_choose_177 (by first | decide | omega) (by first | rfl | assumption) (by decide) (by omega) (by omega) ((congrFun (zN2 80 (by omega)) _).trans ((zF (6 * hp + W (x : Int)) (by omega) (by omega)).trans (congrArg iI hmv))) ?_
        refine s_isub hV dX12_choose_178 ?_
        refine s_iastore hV dX12_choose_179 (by first | decide | omega) (by first | rfl | assumption) (by decide) (by omega) (by omega) ?_
        generalize hgN3 : zu N2 97 (zu (N2 97) ((D : Int) + 1).toNat (iI (rest - F (hp * 6 + W (x : Int))))) = N3
        have uN3 : ∀ q, q ≠ 97 → N3 q = N2 q := fun q h => by rw [← hgN3, zu_n _ _ h]
        have aN3_97 : N3 97 (D + 1) = iI (rest - F (hp * 6 + W (x : Int))) := by rw [← hgN3, zu_s, show ((D : Int) + 1).toNat = D + 1 by omega, zu_s]
        have fN3 : ∀ q i, i ≠ D + 1 → N3 q i = I q i := fun q i h => by
          by_cases hq : q = 97
          · rw [hq, ← hgN3, zu_s, show ((D : Int) + 1).toNat = D + 1 by omega, zu_n _ _ h]; exact fN2 97 i h
          · rw [uN3 q hq]; exact fN2 q i h
        have zN3 : ∀ q, (q < 95 ∨ 105 < q) → N3 q = I q := fun q h => (uN3 q (by omega)).trans (zN2 q h)
        have aN3_95 : N3 95 (D + 1) = iI (W (x : Int)) := by rw [uN3 95 (by omega)]; exact aN2_95
        have aN3_96 : N3 96 (D + 1) = iI (ip) := by rw [uN3 96 (by omega)]; exact aN2_96
        clear hgN3 fN2 zN2 aN2_95 aN2_96
        refine r_aload_n hV dX12_choose_180 rfl rfl ?_
        refine r_getR hV dX12_choose_181 fl_X12_72 (by first | decide | omega) (by first | rfl | assumption) o39 ?_
        refine r_iload hV dX12_choose_184 rfl ?_
        refine r_aload_n hV dX12_choose_186 rfl rfl ?_
        refine r_getR hV dX12_choose_187 fl_X12_72 (by first | decide | omega) (by first | rfl | assumption) o39 ?_
        refine r_iload_n hV dX12_choose_190 rfl ?_
        refine s_iaload hV dX12_choose_191 (by first | decide | omega) (by first | rfl | assumption) (by decide) (by omega) (by omega) (show N3 98 ((D : Nat) : Int).toNat = iI (((gone : Nat) : Int)) from by rw [Int.toNat_natCast]; exact (fN3 98 D (by omega)).trans e98) ?_
        refine r_iload_n hV dX12_choose_192 rfl ?_
        refine s_if_le hV 203 dX12_choose_193 (by decide) (by unfold z_rg; first | omega | (split <;> omega)) (fun c193 => absurd c193 (by omega)) (fun _ => ?_)
        refine s_iconst hV dX12_choose_196 (1) (by decide) ?_
        refine r_iload hV dX12_choose_197 rfl ?_
        refine s_ishl hV dX12_choose_199 (zb_shl (by omega)) ?_
        refine r_goto hV 204 dX12_choose_200 (by decide) ?_
        refine s_ior hV dX12_choose_204 (zb_or hg64 (z_pw (by omega))) ?_
        refine s_iastore hV dX12_choose_205 (by first | decide | omega) (by first | rfl | assumption) (by decide) (by omega) (by omega) ?_
        generalize hgN4 : zu N3 98 (zu (N3 98) ((D : Int) + 1).toNat (iI ((((gone ||| 2 ^ x) : Nat) : Int)))) = N4
        have uN4 : ∀ q, q ≠ 98 → N4 q = N3 q := fun q h => by rw [← hgN4, zu_n _ _ h]
        have aN4_98 : N4 98 (D + 1) = iI ((((gone ||| 2 ^ x) : Nat) : Int)) := by rw [← hgN4, zu_s, show ((D : Int) + 1).toNat = D + 1 by omega, zu_s]
        have fN4 : ∀ q i, i ≠ D + 1 → N4 q i = I q i := fun q i h => by
          by_cases hq : q = 98
          · rw [hq, ← hgN4, zu_s, show ((D : Int) + 1).toNat = D + 1 by omega, zu_n _ _ h]; exact fN3 98 i h
          · rw [uN4 q hq]; exact fN3 q i h
        have zN4 : ∀ q, (q < 95 ∨ 105 < q) → N4 q = I q := fun q h => (uN4 q (by omega)).trans (zN3 q h)
        have aN4_95 : N4 95 (D + 1) = iI (W (x : Int)) := by rw [uN4 95 (by omega)]; exact aN3_95
        have aN4_96 : N4 96 (D + 1) = iI (ip) := by rw [uN4 96 (by omega)]; exact aN3_96
        have aN4_97 : N4 97 (D + 1) = iI (rest - F (hp * 6 + W (x : Int))) := by rw [uN4 97 (by omega)]; exact aN3_97
        clear hgN4 fN3 zN3 aN3_95 aN3_96 aN3_97
        refine r_aload_n hV dX12_choose_206 rfl rfl ?_
        refine r_getR hV dX12_choose_207 fl_X12_75 (by first | decide | omega) (by first | rfl | assumption) o40 ?_
        refine r_iload hV dX12_choose_210 rfl ?_
        refine r_aload_n hV dX12_choose_212 rfl rfl ?_
        refine r_getR hV dX12_choose_213 fl_X12_75 (by first | decide | omega) (by first | rfl | assumption) o40 ?_
        refine r_iload_n hV dX12_choose_216 rfl ?_
        refine s_iaload hV dX12_choose_217 (by first | decide | omega) (by first | rfl | assumption) (by decide) (by omega) (by omega) (show N4 99 ((D : Nat) : Int).toNat = iI (((2 : Nat) : Int)) from by rw [Int.toNat_natCast]; exact (fN4 99 D (by omega)).trans e99) ?_
        refine r_iload_n hV dX12_choose_218 rfl ?_
        refine s_if_ne hV 228 dX12_choose_219 (by decide) (by unfold z_rg; first | omega | (split <;> omega)) (fun _ => ?_) (fun c219 => absurd c219 (by omega))
        refine s_iconst hV dX12_choose_228 (0) (by decide) ?_
        refine s_ior hV dX12_choose_229 (show iI ((2 : Nat) : Int) ||| iI 0 = iI ((2 : Nat) : Int) from by decide) ?_
        refine s_iastore hV dX12_choose_230 (by first | decide | omega) (by first | rfl | assumption) (by decide) (by omega) (by omega) ?_
        generalize hgN5 : zu N4 99 (zu (N4 99) ((D : Int) + 1).toNat (iI (((2 : Nat) : Int)))) = N5
        have uN5 : ∀ q, q ≠ 99 → N5 q = N4 q := fun q h => by rw [← hgN5, zu_n _ _ h]
        have aN5_99 : N5 99 (D + 1) = iI (((2 : Nat) : Int)) := by rw [← hgN5, zu_s, show ((D : Int) + 1).toNat = D + 1 by omega, zu_s]
        have fN5 : ∀ q i, i ≠ D + 1 → N5 q i = I q i := fun q i h => by
          by_cases hq : q = 99
          · rw [hq, ← hgN5, zu_s, show ((D : Int) + 1).toNat = D + 1 by omega, zu_n _ _ h]; exact fN4 99 i h
          · rw [uN5 q hq]; exact fN4 q i h
        have zN5 : ∀ q, (q < 95 ∨ 105 < q) → N5 q = I q := fun q h => (uN5 q (by omega)).trans (zN4 q h)
        have aN5_95 : N5 95 (D + 1) = iI (W (x : Int)) := by rw [uN5 95 (by omega)]; exact aN4_95
        have aN5_96 : N5 96 (D + 1) = iI (ip) := by rw [uN5 96 (by omega)]; exact aN4_96
        have aN5_97 : N5 97 (D + 1) = iI (rest - F (hp * 6 + W (x : Int))) := by rw [uN5 97 (by omega)]; exact aN4_97
        have aN5_98 : N5 98 (D + 1) = iI ((((gone ||| 2 ^ x) : Nat) : Int)) := by rw [uN5 98 (by omega)]; exact aN4_98
        clear hgN5 fN4 zN4 aN4_95 aN4_96 aN4_97 aN4_98
        refine r_aload_n hV dX12_choose_231 rfl rfl ?_
        refine r_getR hV dX12_choose_232 fl_X12_84 (by first | decide | omega) (by first | rfl | assumption) o43 ?_
        refine r_iload hV dX12_choose_235 rfl ?_
        refine r_aload_n hV dX12_choose_237 rfl rfl ?_
        refine r_getR hV dX12_choose_238 fl_X12_84 (by first | decide | omega) (by first | rfl | assumption) o43 ?_
        refine r_iload_n hV dX12_choose_241 rfl ?_
        refine s_iaload hV dX12_choose_242 (by first | decide | omega) (by first | rfl | assumption) (by decide) (by omega) (by omega) (show N5 102 ((D : Nat) : Int).toNat = iI (ha) from by rw [Int.toNat_natCast]; exact (fN5 102 D (by omega)).trans e102) ?_
        refine r_iload_n hV dX12_choose_243 rfl ?_
        refine s_if_ne hV 261 dX12_choose_244 (by decide) (by unfold z_rg; first | omega | (split <;> omega)) (fun c244 => absurd c244 (by decide)) (fun _ => ?_)
        refine r_iload_n hV dX12_choose_247 rfl ?_
        refine s_if_le hV 261 dX12_choose_248 (by decide) (by unfold z_rg; first | omega | (split <;> omega)) (fun c248 => absurd c248 (by omega)) (fun _ => ?_)
        refine r_aload_n hV dX12_choose_251 rfl rfl ?_
        refine r_getR hV dX12_choose_252 fl_X12_23 (by first | decide | omega) (by first | rfl | assumption) o10 ?_
        refine r_iload hV dX12_choose_255 rfl ?_
        refine s_iaload hV dX12_choose_257 (by first | decide | omega) (by first | rfl | assumption) (by decide) (by omega) (by omega) ((congrFun (zN5 82 (by omega)) _).trans (zU (x : Int) (by omega) (by omega))) ?_
        refine r_goto hV 262 dX12_choose_258 (by decide) ?_
        refine s_iadd hV dX12_choose_262 ?_
        refine s_iastore hV dX12_choose_263 (by first | decide | omega) (by first | rfl | assumption) (by decide) (by omega) (by omega) ?_
        generalize hgN6 : zu N5 102 (zu (N5 102) ((D : Int) + 1).toNat (iI (ha + U (x : Int)))) = N6
        have uN6 : ∀ q, q ≠ 102 → N6 q = N5 q := fun q h => by rw [← hgN6, zu_n _ _ h]
        have aN6_102 : N6 102 (D + 1) = iI (ha + U (x : Int)) := by rw [← hgN6, zu_s, show ((D : Int) + 1).toNat = D + 1 by omega, zu_s]
        have fN6 : ∀ q i, i ≠ D + 1 → N6 q i = I q i := fun q i h => by
          by_cases hq : q = 102
          · rw [hq, ← hgN6, zu_s, show ((D : Int) + 1).toNat = D + 1 by omega, zu_n _ _ h]; exact fN5 102 i h
          · rw [uN6 q hq]; exact fN5 q i h
        have zN6 : ∀ q, (q < 95 ∨ 105 < q) → N6 q = I q := fun q h => (uN6 q (by omega)).trans (zN5 q h)
        have aN6_95 : N6 95 (D + 1) = iI (W (x : Int)) := by rw [uN6 95 (by omega)]; exact aN5_95
        have aN6_96 : N6 96 (D + 1) = iI (ip) := by rw [uN6 96 (by omega)]; exact aN5_96
        have aN6_97 : N6 97 (D + 1) = iI (rest - F (hp * 6 + W (x : Int))) := by rw [uN6 97 (by omega)]; exact aN5_97
        have aN6_98 : N6 98 (D + 1) = iI ((((gone ||| 2 ^ x) : Nat) : Int)) := by rw [uN6 98 (by omega)]; exact aN5_98
        have aN6_99 : N6 99 (D + 1) = iI (((2 : Nat) : Int)) := by rw [uN6 99 (by omega)]; exact aN5_99
        clear hgN6 fN5 zN5 aN5_95 aN5_96 aN5_97 aN5_98 aN5_99
        refine r_aload_n hV dX12_choose_264 rfl rfl ?_
        refine r_getR hV dX12_choose_265 fl_X12_87 (by first | decide | omega) (by first | rfl | assumption) o44 ?_
        refine r_iload hV dX12_choose_268 rfl ?_
        refine r_aload_n hV dX12_choose_270 rfl rfl ?_
        refine r_getR hV dX12_choose_271 fl_X12_87 (by first | decide | omega) (by first | rfl | assumption) o44 ?_
        refine r_iload_n hV dX12_choose_274 rfl ?_
        refine s_iaload hV dX12_choose_275 (by first | decide | omega) (by first | rfl | assumption) (by decide) (by omega) (by omega) (show N6 103 ((D : Nat) : Int).toNat = iI (hb) from by rw [Int.toNat_natCast]; exact (fN6 103 D (by omega)).trans e103) ?_
        refine r_iload_n hV dX12_choose_276 rfl ?_
        refine s_iconst hV dX12_choose_277 (1) (by decide) ?_
        refine s_icmp_ne hV 295 dX12_choose_278 (by decide) (by unfold z_rg; first | omega | (split <;> omega)) (by unfold z_rg; first | omega | (split <;> omega)) (fun _ => ?_) (fun c278 => absurd c278 (by decide))
        refine s_iconst hV dX12_choose_295 (0) (by decide) ?_
        refine s_iadd hV dX12_choose_296 ?_
        rw [Int.add_zero]
        refine s_iastore hV dX12_choose_297 (by first | decide | omega) (by first | rfl | assumption) (by decide) (by omega) (by omega) ?_
        generalize hgN7 : zu N6 103 (zu (N6 103) ((D : Int) + 1).toNat (iI (hb))) = N7
        have uN7 : ∀ q, q ≠ 103 → N7 q = N6 q := fun q h => by rw [← hgN7, zu_n _ _ h]
        have aN7_103 : N7 103 (D + 1) = iI (hb) := by rw [← hgN7, zu_s, show ((D : Int) + 1).toNat = D + 1 by omega, zu_s]
        have fN7 : ∀ q i, i ≠ D + 1 → N7 q i = I q i := fun q i h => by
          by_cases hq : q = 103
          · rw [hq, ← hgN7, zu_s, show ((D : Int) + 1).toNat = D + 1 by omega, zu_n _ _ h]; exact fN6 103 i h
          · rw [uN7 q hq]; exact fN6 q i h
        have zN7 : ∀ q, (q < 95 ∨ 105 < q) → N7 q = I q := fun q h => (uN7 q (by omega)).trans (zN6 q h)
        have aN7_95 : N7 95 (D + 1) = iI (W (x : Int)) := by rw [uN7 95 (by omega)]; exact aN6_95
        have aN7_96 : N7 96 (D + 1) = iI (ip) := by rw [uN7 96 (by omega)]; exact aN6_96
        have aN7_97 : N7 97 (D + 1) = iI (rest - F (hp * 6 + W (x : Int))) := by rw [uN7 97 (by omega)]; exact aN6_97
        have aN7_98 : N7 98 (D + 1) = iI ((((gone ||| 2 ^ x) : Nat) : Int)) := by rw [uN7 98 (by omega)]; exact aN6_98
        have aN7_99 : N7 99 (D + 1) = iI (((2 : Nat) : Int)) := by rw [uN7 99 (by omega)]; exact aN6_99
        have aN7_102 : N7 102 (D + 1) = iI (ha + U (x : Int)) := by rw [uN7 102 (by omega)]; exact aN6_102
        clear hgN7 fN6 zN6 aN6_95 aN6_96 aN6_97 aN6_98 aN6_99 aN6_102
        refine r_aload_n hV dX12_choose_298 rfl rfl ?_
        refine r_getR hV dX12_choose_299 fl_X12_78 (by first | decide | omega) (by first | rfl | assumption) o41 ?_
        refine r_iload hV dX12_choose_302 rfl ?_
        refine r_aload_n hV dX12_choose_304 rfl rfl ?_
        refine r_getR hV dX12_choose_305 fl_X12_75 (by first | decide | omega) (by first | rfl | assumption) o40 ?_
        refine r_iload hV dX12_choose_308 rfl ?_
        refine s_iaload hV dX12_choose_310 (by first | decide | omega) (by first | rfl | assumption) (by decide) (by omega) (by omega) (show N7 99 ((D : Int) + 1).toNat = iI ((2 : Nat) : Int) from by rw [show ((D : Int) + 1).toNat = D + 1 by omega]; exact aN7_99) ?_
        refine s_iconst hV dX12_choose_311 (1) (by decide) ?_
        refine r_iload_n hV dX12_choose_312 rfl ?_
        refine s_isub hV dX12_choose_313 ?_
        rw [show (1 : Int) - 0 = ((1 : Nat) : Int) from rfl]
        refine q_is2v hV dX12_choose_314 ms_X12_180 (n_has N7 J P 2 1 (by decide) (by decide)) (by decide) (Nat.le_refl _) (Nat.le_of_ble_eq_true rfl) ?_
        refine s_if_eq hV 324 dX12_choose_317 (by decide) (by unfold z_rg; first | omega | (split <;> omega)) (fun c317 => absurd c317 (by decide)) (fun _ => ?_)
        refine r_iload_n hV dX12_choose_320 rfl ?_
        refine r_goto hV 327 dX12_choose_321 (by decide) ?_
        refine s_iastore hV dX12_choose_327 (by first | decide | omega) (by first | rfl | assumption) (by decide) (by omega) (by omega) ?_
        generalize hgN8 : zu N7 100 (zu (N7 100) ((D : Int) + 1).toNat (iI (0))) = N8
        have uN8 : ∀ q, q ≠ 100 → N8 q = N7 q := fun q h => by rw [← hgN8, zu_n _ _ h]
        have aN8_100 : N8 100 (D + 1) = iI (0) := by rw [← hgN8, zu_s, show ((D : Int) + 1).toNat = D + 1 by omega, zu_s]
        have fN8 : ∀ q i, i ≠ D + 1 → N8 q i = I q i := fun q i h => by
          by_cases hq : q = 100
          · rw [hq, ← hgN8, zu_s, show ((D : Int) + 1).toNat = D + 1 by omega, zu_n _ _ h]; exact fN7 100 i h
          · rw [uN8 q hq]; exact fN7 q i h
        have zN8 : ∀ q, (q < 95 ∨ 105 < q) → N8 q = I q := fun q h => (uN8 q (by omega)).trans (zN7 q h)
        have aN8_95 : N8 95 (D + 1) = iI (W (x : Int)) := by rw [uN8 95 (by omega)]; exact aN7_95
        have aN8_96 : N8 96 (D + 1) = iI (ip) := by rw [uN8 96 (by omega)]; exact aN7_96
        have aN8_97 : N8 97 (D + 1) = iI (rest - F (hp * 6 + W (x : Int))) := by rw [uN8 97 (by omega)]; exact aN7_97
        have aN8_98 : N8 98 (D + 1) = iI ((((gone ||| 2 ^ x) : Nat) : Int)) := by rw [uN8 98 (by omega)]; exact aN7_98
        have aN8_99 : N8 99 (D + 1) = iI (((2 : Nat) : Int)) := by rw [uN8 99 (by omega)]; exact aN7_99
        have aN8_102 : N8 102 (D + 1) = iI (ha + U (x : Int)) := by rw [uN8 102 (by omega)]; exact aN7_102
        have aN8_103 : N8 103 (D + 1) = iI (hb) := by rw [uN8 103 (by omega)]; exact aN7_103
        clear hgN8 fN7 zN7 aN7_95 aN7_96 aN7_97 aN7_98 aN7_99 aN7_102 aN7_103
        refine r_aload_n hV dX12_choose_328 rfl rfl ?_
        refine r_getR hV dX12_choose_329 fl_X12_81 (by first | decide | omega) (by first | rfl | assumption) o42 ?_
        refine r_iload hV dX12_choose_332 rfl ?_
        refine s_iconst hV dX12_choose_334 (0) (by decide) ?_
        refine s_iastore hV dX12_choose_335 (by first | decide | omega) (by first | rfl | assumption) (by decide) (by omega) (by omega) ?_
        generalize hgN9 : zu N8 101 (zu (N8 101) ((D : Int) + 1).toNat (iI (0))) = N9
        have uN9 : ∀ q, q ≠ 101 → N9 q = N8 q := fun q h => by rw [← hgN9, zu_n _ _ h]
        have aN9_101 : N9 101 (D + 1) = iI (0) := by rw [← hgN9, zu_s, show ((D : Int) + 1).toNat = D + 1 by omega, zu_s]
        have fN9 : ∀ q i, i ≠ D + 1 → N9 q i = I q i := fun q i h => by
          by_cases hq : q = 101
          · rw [hq, ← hgN9, zu_s, show ((D : Int) + 1).toNat = D + 1 by omega, zu_n _ _ h]; exact fN8 101 i h
          · rw [uN9 q hq]; exact fN8 q i h
        have zN9 : ∀ q, (q < 95 ∨ 105 < q) → N9 q = I q := fun q h => (uN9 q (by omega)).trans (zN8 q h)
        have aN9_95 : N9 95 (D + 1) = iI (W (x : Int)) := by rw [uN9 95 (by omega)]; exact aN8_95
        have aN9_96 : N9 96 (D + 1) = iI (ip) := by rw [uN9 96 (by omega)]; exact aN8_96
        have aN9_97 : N9 97 (D + 1) = iI (rest - F (hp * 6 + W (x : Int))) := by rw [uN9 97 (by omega)]; exact aN8_97
        have aN9_98 : N9 98 (D + 1) = iI ((((gone ||| 2 ^ x) : Nat) : Int)) := by rw [uN9 98 (by omega)]; exact aN8_98
        have aN9_99 : N9 99 (D + 1) = iI (((2 : Nat) : Int)) := by rw [uN9 99 (by omega)]; exact aN8_99
        have aN9_102 : N9 102 (D + 1) = iI (ha + U (x : Int)) := by rw [uN9 102 (by omega)]; exact aN8_102
        have aN9_103 : N9 103 (D + 1) = iI (hb) := by rw [uN9 103 (by omega)]; exact aN8_103
        have aN9_100 : N9 100 (D + 1) = iI (0) := by rw [uN9 100 (by omega)]; exact aN8_100
        clear hgN9 fN8 zN8 aN8_95 aN8_96 aN8_97 aN8_98 aN8_99 aN8_102 aN8_103 aN8_100
        refine r_aload_n hV dX12_choose_336 rfl rfl ?_
        refine r_getR hV dX12_choose_337 fl_X12_90 (by first | decide | omega) (by first | rfl | assumption) o45 ?_
        refine r_iload hV dX12_choose_340 rfl ?_
        refine s_bipush hV dX12_choose_342 (-9) (by decide) ?_
        refine s_iastore hV dX12_choose_344 (by first | decide | omega) (by first | rfl | assumption) (by decide) (by omega) (by omega) ?_
        generalize hgN10 : zu N9 104 (zu (N9 104) ((D : Int) + 1).toNat (iI (-9))) = N10
        have uN10 : ∀ q, q ≠ 104 → N10 q = N9 q := fun q h => by rw [← hgN10, zu_n _ _ h]
        have aN10_104 : N10 104 (D + 1) = iI (-9) := by rw [← hgN10, zu_s, show ((D : Int) + 1).toNat = D + 1 by omega, zu_s]
        have fN10 : ∀ q i, i ≠ D + 1 → N10 q i = I q i := fun q i h => by
          by_cases hq : q = 104
          · rw [hq, ← hgN10, zu_s, show ((D : Int) + 1).toNat = D + 1 by omega, zu_n _ _ h]; exact fN9 104 i h
          · rw [uN10 q hq]; exact fN9 q i h
        have zN10 : ∀ q, (q < 95 ∨ 105 < q) → N10 q = I q := fun q h => (uN10 q (by omega)).trans (zN9 q h)
        have aN10_95 : N10 95 (D + 1) = iI (W (x : Int)) := by rw [uN10 95 (by omega)]; exact aN9_95
        have aN10_96 : N10 96 (D + 1) = iI (ip) := by rw [uN10 96 (by omega)]; exact aN9_96
        have aN10_97 : N10 97 (D + 1) = iI (rest - F (hp * 6 + W (x : Int))) := by rw [uN10 97 (by omega)]; exact aN9_97
        have aN10_98 : N10 98 (D + 1) = iI ((((gone ||| 2 ^ x) : Nat) : Int)) := by rw [uN10 98 (by omega)]; exact aN9_98
        have aN10_99 : N10 99 (D + 1) = iI (((2 : Nat) : Int)) := by rw [uN10 99 (by omega)]; exact aN9_99
        have aN10_102 : N10 102 (D + 1) = iI (ha + U (x : Int)) := by rw [uN10 102 (by omega)]; exact aN9_102
        have aN10_103 : N10 103 (D + 1) = iI (hb) := by rw [uN10 103 (by omega)]; exact aN9_103
        have aN10_100 : N10 100 (D + 1) = iI (0) := by rw [uN10 100 (by omega)]; exact aN9_100
        have aN10_101 : N10 101 (D + 1) = iI (0) := by rw [uN10 101 (by omega)]; exact aN9_101
        clear hgN10 fN9 zN9 aN9_95 aN9_96 aN9_97 aN9_98 aN9_99 aN9_102 aN9_103 aN9_100 aN9_101
        refine r_aload_n hV dX12_choose_345 rfl rfl ?_
        refine r_getR hV dX12_choose_346 fl_X12_93 (by first | decide | omega) (by first | rfl | assumption) o46 ?_
        refine r_iload hV dX12_choose_349 rfl ?_
        refine s_bipush hV dX12_choose_351 (-9) (by decide) ?_
        refine s_iastore hV dX12_choose_353 (by first | decide | omega) (by first | rfl | assumption) (by decide) (by omega) (by omega) ?_
        generalize hgN11 : zu N10 105 (zu (N10 105) ((D : Int) + 1).toNat (iI (-9))) = N11
        have uN11 : ∀ q, q ≠ 105 → N11 q = N10 q := fun q h => by rw [← hgN11, zu_n _ _ h]
        have aN11_105 : N11 105 (D + 1) = iI (-9) := by rw [← hgN11, zu_s, show ((D : Int) + 1).toNat = D + 1 by omega, zu_s]
        have fN11 : ∀ q i, i ≠ D + 1 → N11 q i = I q i := fun q i h => by
          by_cases hq : q = 105
          · rw [hq, ← hgN11, zu_s, show ((D : Int) + 1).toNat = D + 1 by omega, zu_n _ _ h]; exact fN10 105 i h
          · rw [uN11 q hq]; exact fN10 q i h
        have zN11 : ∀ q, (q < 95 ∨ 105 < q) → N11 q = I q := fun q h => (uN11 q (by omega)).trans (zN10 q h)
        have aN11_95 : N11 95 (D + 1) = iI (W (x : Int)) := by rw [uN11 95 (by omega)]; exact aN10_95
        have aN11_96 : N11 96 (D + 1) = iI (ip) := by rw [uN11 96 (by omega)]; exact aN10_96
        have aN11_97 : N11 97 (D + 1) = iI (rest - F (hp * 6 + W (x : Int))) := by rw [uN11 97 (by omega)]; exact aN10_97
        have aN11_98 : N11 98 (D + 1) = iI ((((gone ||| 2 ^ x) : Nat) : Int)) := by rw [uN11 98 (by omega)]; exact aN10_98
        have aN11_99 : N11 99 (D + 1) = iI (((2 : Nat) : Int)) := by rw [uN11 99 (by omega)]; exact aN10_99
        have aN11_102 : N11 102 (D + 1) = iI (ha + U (x : Int)) := by rw [uN11 102 (by omega)]; exact aN10_102
        have aN11_103 : N11 103 (D + 1) = iI (hb) := by rw [uN11 103 (by omega)]; exact aN10_103
        have aN11_100 : N11 100 (D + 1) = iI (0) := by rw [uN11 100 (by omega)]; exact aN10_100
        have aN11_101 : N11 101 (D + 1) = iI (0) := by rw [uN11 101 (by omega)]; exact aN10_101
        have aN11_104 : N11 104 (D + 1) = iI (-9) := by rw [uN11 104 (by omega)]; exact aN10_104
        clear hgN11 fN10 zN10 aN10_95 aN10_96 aN10_97 aN10_98 aN10_99 aN10_102 aN10_103 aN10_100 aN10_101 aN10_104
        refine r_aload_n hV dX12_choose_354 rfl rfl ?_
        refine r_iload hV dX12_choose_355 rfl ?_
        rw [show (D : Int) + 1 = ((D + 1 : Nat) : Int) by omega]
        refine q_iv1v hV dX12_choose_357 mv_X12_241 (n_canBoth N11 J P hM n hnb F (z_ar_fr zF (zN11 80 (by omega))) hFd (D + 1) (by omega) (W (x : Int)) (ip) (rest - F (hp * 6 + W (x : Int))) aN11_95 aN11_96 aN11_97 (by omega) (by omega) (by omega)) (by first | decide | omega) (by first | rfl | assumption) (by decide) (Nat.le_refl _) (Nat.le_of_ble_eq_true rfl) ?_
        refine s_zret hV dX12_choose_360 rfl (by split <;> omega) rfl ?_
        refine ⟨?_, rfl, rfl, zN11, fN11, fun _ => ⟨⟨aN11_95, aN11_96, aN11_97, aN11_98, aN11_99, aN11_100, aN11_102, aN11_103⟩, aN11_101, aN11_104, aN11_105⟩⟩
        refine congrArg (fun z => some (Value.int (iI z))) ?_
        by_cases hk : F ((W (x : Int)) * 6) + F ((ip) * 6) ≤ rest - F (hp * 6 + W (x : Int))
        · rw [if_pos hk, if_pos ⟨⟨hg, hc, by omega⟩, hk⟩]
        · rw [if_neg hk, if_neg (fun hh => hk hh.2)]
      · refine s_iconst hV dX12_choose_84 (0) (by decide) ?_
        refine s_zret hV dX12_choose_85 rfl (by omega) rfl ?_
        refine ⟨?_, rfl, rfl, fun _ _ => rfl, fun _ _ _ => rfl, fun hh => ?_⟩
        · refine congrArg (fun z => some (Value.int (iI z))) ?_
          rw [if_neg (by first | exact fun hh => hh.1.1 hg | exact fun hh => hc hh.1.2.1 | (rw [hfe]; omega))]
        · first | exact absurd hg hh.1.1 | exact absurd hh.1.2.1 hc | (exfalso; rw [hfe] at hh; omega)

set_option maxRecDepth 20000 in
theorem n_ch10h (I : zI) (J : zJ) (P : zP) (hM : mK P) (n e : Nat) (hnb : 2 ≤ n ∧ n ≤ 6) (h8 : I 78 8 = iI (e : Int)) (he6 : e ≤ 6) (F W U K : Int → Int) (zF : z_ar I 80 36 (mF F)) (hFd : zD F) (zW : z_ar I 81 e W) (hWb : z_bd W e 0 (n - 1)) (zU : z_ar I 82 e U) (hUb : z_bd U 6 0 9) (zK : z_ar I 83 e K) (hKb : z_bd K 6 0 2) (D : Nat) (hD : D ≤ 7) (hp ip rest : Int) (gone : Nat) (hg64 : gone < 64) (ha hb : Int) (hFr : mFr I D hp ip rest gone 0 1 ha hb) (hhp : 0 ≤ hp ∧ hp < n) (hip : 0 ≤ ip ∧ ip < n) (hrest : -50000 ≤ rest ∧ rest ≤ 90000) (hcost : F (ip * 6) < 1000000) : z_Sp 2 yX12_choose cX12_choose 8 (some .boolean) 108 108 I J P [.ref 78, .int (iI (D : Int)), .int (iI 0)] (q_ch I J P D (F ((hp) * 6) + F ((0) * 6) ≤ rest - F (ip * 6)) (hp) (0) (rest - F (ip * 6)) gone 2 0 (ha) (hb)) := by
  obtain ⟨o1, o7, o9, o10, o11, o16, o17, o18, o19, o20, o25, o26, o28, o29, o30, o31, o36, o37, o38, o39, o40, o41, o42, o43, o44, o45, o46, o47, o48⟩ := id hM
  obtain ⟨e95, e96, e97, e98, e99, e100, e102, e103⟩ := id hFr
  have hfx := hFd (6 * ip + 0) (by omega) (by omega)
  rw [show 6 * ip + 0 = ip * 6 by omega] at hfx
  have hmv : mF F (6 * ip + 0) = F (ip * 6) := by
    unfold mF
    rw [show 6 * ip + 0 = ip * 6 by omega, if_pos hcost]
  refine z_met false (by decide +kernel) (fun h => by cases h) (Nat.le_of_ble_eq_true rfl) (by first | decide | omega) (fun V hV => ?_)
  show V 108 I J P 0 [.ref 78, .int (iI (D : Int)), .int (iI 0), .null, .null, .null, .null, .null] []
  refine r_aload_n hV dX12_choose_0 rfl rfl ?_
  refine r_getR hV dX12_choose_1 fl_X12_78 (by first | decide | omega) (by first | rfl | assumption) o41 ?_
  refine r_iload_n hV dX12_choose_4 rfl ?_
  refine s_iaload hV dX12_choose_5 (by first | decide | omega) (by first | rfl | assumption) (by decide) (by omega) (by omega) (show I 100 ((D : Nat) : Int).toNat = iI (1) from by rw [Int.toNat_natCast]; exact e100) ?_
  refine r_istore_n hV dX12_choose_6 (Nat.le_of_ble_eq_true rfl) (z_st1_8_3 rfl) ?_
  refine r_iload_n hV dX12_choose_7 rfl ?_
  refine s_if_ne hV 20 dX12_choose_8 (by decide) (by unfold z_rg; first | omega | (split <;> omega)) (fun _ => ?_) (fun c8 => absurd c8 (by decide))
  refine r_aload_n hV dX12_choose_20 rfl rfl ?_
  refine r_getR hV dX12_choose_21 fl_X12_66 (by first | decide | omega) (by first | rfl | assumption) o37 ?_
  refine r_iload_n hV dX12_choose_24 rfl ?_
  refine s_iaload hV dX12_choose_25 (by first | decide | omega) (by first | rfl | assumption) (by decide) (by omega) (by omega) (show I 96 ((D : Nat) : Int).toNat = iI (ip) from by rw [Int.toNat_natCast]; exact e96) ?_
  refine r_istore hV dX12_choose_26 (Nat.le_of_ble_eq_true rfl) (z_st1_8_4 rfl) ?_
  refine r_iload_n hV dX12_choose_28 rfl ?_
  refine s_iconst hV dX12_choose_29 (1) (by decide) ?_
  refine s_isub hV dX12_choose_30 ?_
  refine r_istore hV dX12_choose_31 (Nat.le_of_ble_eq_true rfl) (z_st1_8_5 rfl) ?_
  refine r_iload_n hV dX12_choose_33 rfl ?_
  refine s_if_le hV 86 dX12_choose_34 (by decide) (by unfold z_rg; first | omega | (split <;> omega)) (fun _ => ?_) (fun c34 => absurd (by omega) c34)
  refine r_iload_n hV dX12_choose_86 rfl ?_
  refine s_if_ne hV 94 dX12_choose_87 (by decide) (by unfold z_rg; first | omega | (split <;> omega)) (fun c87 => absurd c87 (by omega)) (fun _ => ?_)
  refine s_iconst hV dX12_choose_90 (0) (by decide) ?_
  refine r_goto hV 101 dX12_choose_91 (by decide) ?_
  refine r_istore hV dX12_choose_101 (Nat.le_of_ble_eq_true rfl) (z_st1_8_6 rfl) ?_
  refine r_iload_n hV dX12_choose_103 rfl ?_
  refine s_iconst hV dX12_choose_104 (1) (by decide) ?_
  refine s_iadd hV dX12_choose_105 ?_
  refine r_istore hV dX12_choose_106 (Nat.le_of_ble_eq_true rfl) (z_st1_8_7 rfl) ?_
  refine r_aload_n hV dX12_choose_108 rfl rfl ?_
  refine r_getR hV dX12_choose_109 fl_X12_63 (by first | decide | omega) (by first | rfl | assumption) o36 ?_
  refine r_iload hV dX12_choose_112 rfl ?_
  refine r_iload_n hV dX12_choose_114 rfl ?_
  refine s_if_ne hV 123 dX12_choose_115 (by decide) (by unfold z_rg; first | omega | (split <;> omega)) (fun _ => ?_) (fun c115 => absurd c115 (by decide))
  refine r_aload_n hV dX12_choose_123 rfl rfl ?_
  refine r_getR hV dX12_choose_124 fl_X12_63 (by first | decide | omega) (by first | rfl | assumption) o36 ?_
  refine r_iload_n hV dX12_choose_127 rfl ?_
  refine s_iaload hV dX12_choose_128 (by first | decide | omega) (by first | rfl | assumption) (by decide) (by omega) (by omega) (show I 95 ((D : Nat) : Int).toNat = iI (hp) from by rw [Int.toNat_natCast]; exact e95) ?_
  refine s_iastore hV dX12_choose_129 (by first | decide | omega) (by first | rfl | assumption) (by decide) (by omega) (by omega) ?_
  generalize hgN1 : zu I 95 (zu (I 95) ((D : Int) + 1).toNat (iI (hp))) = N1
  have uN1 : ∀ q, q ≠ 95 → N1 q = I q := fun q h => by rw [← hgN1, zu_n _ _ h]
  have aN1_95 : N1 95 (D + 1) = iI (hp) := by rw [← hgN1, zu_s, show ((D : Int) + 1).toNat = D + 1 by omega, zu_s]
  have fN1 : ∀ q i, i ≠ D + 1 → N1 q i = I q i := fun q i h => by
    by_cases hq : q = 95
    · rw [hq, ← hgN1, zu_s, show ((D : Int) + 1).toNat = D + 1 by omega, zu_n _ _ h]
    · rw [uN1 q hq]
  have zN1 : ∀ q, (q < 95 ∨ 105 < q) → N1 q = I q := fun q h => uN1 q (by omega)
  clear hgN1
  refine r_aload_n hV dX12_choose_130 rfl rfl ?_
  refine r_getR hV dX12_choose_131 fl_X12_66 (by first | decide | omega) (by first | rfl | assumption) o37 ?_
  refine r_iload hV dX12_choose_134 rfl ?_
  refine r_iload_n hV dX12_choose_136 rfl ?_
  refine s_iconst hV dX12_choose_137 (1) (by decide) ?_
  refine s_icmp_ne hV 146 dX12_choose_138 (by decide) (by unfold z_rg; first | omega | (split <;> omega)) (by unfold z_rg; first | omega | (split <;> omega)) (fun c138 => absurd c138 (by decide)) (fun _ => ?_)
  refine r_iload hV dX12_choose_141 rfl ?_
  refine r_goto hV 152 dX12_choose_143 (by decide) ?_
  refine s_iastore hV dX12_choose_152 (by first | decide | omega) (by first | rfl | assumption) (by decide) (by omega) (by omega) ?_
  generalize hgN2 : zu N1 96 (zu (N1 96) ((D : Int) + 1).toNat (iI (0))) = N2
  have uN2 : ∀ q, q ≠ 96 → N2 q = N1 q := fun q h => by rw [← hgN2, zu_n _ _ h]
  have aN2_96 : N2 96 (D + 1) = iI (0) := by rw [← hgN2, zu_s, show ((D : Int) + 1).toNat = D + 1 by omega, zu_s]
  have fN2 : ∀ q i, i ≠ D + 1 → N2 q i = I q i := fun q i h => by
    by_cases hq : q = 96
    · rw [hq, ← hgN2, zu_s, show ((D : Int) + 1).toNat = D + 1 by omega, zu_n _ _ h]; exact fN1 96 i h
    · rw [uN2 q hq]; exact fN1 q i h
  have zN2 : ∀ q, (q < 95 ∨ 105 < q) → N2 q = I q := fun q h => (uN2 q (by omega)).trans (zN1 q h)
  have aN2_95 : N2 95 (D + 1) = iI (hp) := by rw [uN2 95 (by omega)]; exact aN1_95
  clear hgN2 fN1 zN1 aN1_95
  refine r_aload_n hV dX12_choose_153 rfl rfl ?_
  refine r_getR hV dX12_choose_154 fl_X12_69 (by first | decide | omega) (by first | rfl | assumption) o38 ?_
  refine r_iload hV dX12_choose_157 rfl ?_
  refine r_aload_n hV dX12_choose_159 rfl rfl ?_
  refine r_getR hV dX12_choose_160 fl_X12_69 (by first | decide | omega) (by first | rfl | assumption) o38 ?_
  refine r_iload_n hV dX12_choose_163 rfl ?_
  refine s_iaload hV dX12_choose_164 (by first | decide | omega) (by first | rfl | assumption) (by decide) (by omega) (by omega) (show N2 97 ((D : Nat) : Int).toNat = iI (rest) from by rw [Int.toNat_natCast]; exact (fN2 97 D (by omega)).trans e97) ?_
  refine r_aload_n hV dX12_choose_165 rfl rfl ?_
  refine r_getR hV dX12_choose_166 fl_X12_17 (by first | decide | omega) (by first | rfl | assumption) o7 ?_
  refine s_bipush hV dX12_choose_169 (6) (by decide) ?_
  refine r_iload hV dX12_choose_171 rfl ?_
  refine s_imul hV dX12_choose_173 ?_
  refine r_iload hV dX12_choose_174 rfl ?_
  refine s_iadd hV dX12_choose_176 ?_
  refine s_iaload hV dX12_choose_177 (by first | decide | omega) (by first | rfl | assumption) (by decide) (by omega) (by omega) (show N2 80 (6 * ip + 0).toNat = iI (F (ip * 6)) from (congrFun (zN2 80 (by omega)) _).trans ((zF (6 * ip + 0) (by omega) (by omega)).trans (congrArg iI hmv))) ?_
  refine s_isub hV dX12_choose_178 ?_
  refine s_iastore hV dX12_choose_179 (by first | decide | omega) (by first | rfl | assumption) (by decide) (by omega) (by omega) ?_
  generalize hgN3 : zu N2 97 (zu (N2 97) ((D : Int) + 1).toNat (iI (rest - F (ip * 6)))) = N3
  have uN3 : ∀ q, q ≠ 97 → N3 q = N2 q := fun q h => by rw [← hgN3, zu_n _ _ h]
  have aN3_97 : N3 97 (D + 1) = iI (rest - F (ip * 6)) := by rw [← hgN3, zu_s, show ((D : Int) + 1).toNat = D + 1 by omega, zu_s]
  have fN3 : ∀ q i, i ≠ D + 1 → N3 q i = I q i := fun q i h => by
    by_cases hq : q = 97
    · rw [hq, ← hgN3, zu_s, show ((D : Int) + 1).toNat = D + 1 by omega, zu_n _ _ h]; exact fN2 97 i h
    · rw [uN3 q hq]; exact fN2 q i h
  have zN3 : ∀ q, (q < 95 ∨ 105 < q) → N3 q = I q := fun q h => (uN3 q (by omega)).trans (zN2 q h)
  have aN3_95 : N3 95 (D + 1) = iI (hp) := by rw [uN3 95 (by omega)]; exact aN2_95
  have aN3_96 : N3 96 (D + 1) = iI (0) := by rw [uN3 96 (by omega)]; exact aN2_96
  clear hgN3 fN2 zN2 aN2_95 aN2_96
  refine r_aload_n hV dX12_choose_180 rfl rfl ?_
  refine r_getR hV dX12_choose_181 fl_X12_72 (by first | decide | omega) (by first | rfl | assumption) o39 ?_
  refine r_iload hV dX12_choose_184 rfl ?_
  refine r_aload_n hV dX12_choose_186 rfl rfl ?_
  refine r_getR hV dX12_choose_187 fl_X12_72 (by first | decide | omega) (by first | rfl | assumption) o39 ?_
  refine r_iload_n hV dX12_choose_190 rfl ?_
  refine s_iaload hV dX12_choose_191 (by first | decide | omega) (by first | rfl | assumption) (by decide) (by omega) (by omega) (show N3 98 ((D : Nat) : Int).toNat = iI (((gone : Nat) : Int)) from by rw [Int.toNat_natCast]; exact (fN3 98 D (by omega)).trans e98) ?_
  refine r_iload_n hV dX12_choose_192 rfl ?_
  refine s_if_le hV 203 dX12_choose_193 (by decide) (by unfold z_rg; first | omega | (split <;> omega)) (fun _ => ?_) (fun c193 => absurd (by omega) c193)
  refine s_iconst hV dX12_choose_203 (0) (by decide) ?_
  refine s_ior hV dX12_choose_204 (show iI ((gone : Nat) : Int) ||| iI 0 = iI ((gone : Nat) : Int) from by have h0 := zb_or (b := 0) hg64 (by omega); rw [Nat.or_zero] at h0; exact h0) ?_
  refine s_iastore hV dX12_choose_205 (by first | decide | omega) (by first | rfl | assumption) (by decide) (by omega) (by omega) ?_
  generalize hgN4 : zu N3 98 (zu (N3 98) ((D : Int) + 1).toNat (iI (((gone : Nat) : Int)))) = N4
  have uN4 : ∀ q, q ≠ 98 → N4 q = N3 q := fun q h => by rw [← hgN4, zu_n _ _ h]
  have aN4_98 : N4 98 (D + 1) = iI (((gone : Nat) : Int)) := by rw [← hgN4, zu_s, show ((D : Int) + 1).toNat = D + 1 by omega, zu_s]
  have fN4 : ∀ q i, i ≠ D + 1 → N4 q i = I q i := fun q i h => by
    by_cases hq : q = 98
    · rw [hq, ← hgN4, zu_s, show ((D : Int) + 1).toNat = D + 1 by omega, zu_n _ _ h]; exact fN3 98 i h
    · rw [uN4 q hq]; exact fN3 q i h
  have zN4 : ∀ q, (q < 95 ∨ 105 < q) → N4 q = I q := fun q h => (uN4 q (by omega)).trans (zN3 q h)
  have aN4_95 : N4 95 (D + 1) = iI (hp) := by rw [uN4 95 (by omega)]; exact aN3_95
  have aN4_96 : N4 96 (D + 1) = iI (0) := by rw [uN4 96 (by omega)]; exact aN3_96
  have aN4_97 : N4 97 (D + 1) = iI (rest - F (ip * 6)) := by rw [uN4 97 (by omega)]; exact aN3_97
  clear hgN4 fN3 zN3 aN3_95 aN3_96 aN3_97
  refine r_aload_n hV dX12_choose_206 rfl rfl ?_
  refine r_getR hV dX12_choose_207 fl_X12_75 (by first | decide | omega) (by first | rfl | assumption) o40 ?_
  refine r_iload hV dX12_choose_210 rfl ?_
  refine r_aload_n hV dX12_choose_212 rfl rfl ?_
  refine r_getR hV dX12_choose_213 fl_X12_75 (by first | decide | omega) (by first | rfl | assumption) o40 ?_
  refine r_iload_n hV dX12_choose_216 rfl ?_
  refine s_iaload hV dX12_choose_217 (by first | decide | omega) (by first | rfl | assumption) (by decide) (by omega) (by omega) (show N4 99 ((D : Nat) : Int).toNat = iI (((0 : Nat) : Int)) from by rw [Int.toNat_natCast]; exact (fN4 99 D (by omega)).trans e99) ?_
  refine r_iload_n hV dX12_choose_218 rfl ?_
  refine s_if_ne hV 228 dX12_choose_219 (by decide) (by unfold z_rg; first | omega | (split <;> omega)) (fun c219 => absurd c219 (by omega)) (fun _ => ?_)
  refine s_iconst hV dX12_choose_222 (1) (by decide) ?_
  refine r_iload_n hV dX12_choose_223 rfl ?_
  refine s_ishl hV dX12_choose_224 (show iI 1 <<< (iI 1 &&& 31) = iI 2 from by decide) ?_
  refine r_goto hV 229 dX12_choose_225 (by decide) ?_
  refine s_ior hV dX12_choose_229 (show iI ((0 : Nat) : Int) ||| iI 2 = iI ((2 : Nat) : Int) from by decide) ?_
  refine s_iastore hV dX12_choose_230 (by first | decide | omega) (by first | rfl | assumption) (by decide) (by omega) (by omega) ?_
  generalize hgN5 : zu N4 99 (zu (N4 99) ((D : Int) + 1).toNat (iI (((2 : Nat) : Int)))) = N5
  have uN5 : ∀ q, q ≠ 99 → N5 q = N4 q := fun q h => by rw [← hgN5, zu_n _ _ h]
  have aN5_99 : N5 99 (D + 1) = iI (((2 : Nat) : Int)) := by rw [← hgN5, zu_s, show ((D : Int) + 1).toNat = D + 1 by omega, zu_s]
  have fN5 : ∀ q i, i ≠ D + 1 → N5 q i = I q i := fun q i h => by
    by_cases hq : q = 99
    · rw [hq, ← hgN5, zu_s, show ((D : Int) + 1).toNat = D + 1 by omega, zu_n _ _ h]; exact fN4 99 i h
    · rw [uN5 q hq]; exact fN4 q i h
  have zN5 : ∀ q, (q < 95 ∨ 105 < q) → N5 q = I q := fun q h => (uN5 q (by omega)).trans (zN4 q h)
  have aN5_95 : N5 95 (D + 1) = iI (hp) := by rw [uN5 95 (by omega)]; exact aN4_95
  have aN5_96 : N5 96 (D + 1) = iI (0) := by rw [uN5 96 (by omega)]; exact aN4_96
  have aN5_97 : N5 97 (D + 1) = iI (rest - F (ip * 6)) := by rw [uN5 97 (by omega)]; exact aN4_97
  have aN5_98 : N5 98 (D + 1) = iI (((gone : Nat) : Int)) := by rw [uN5 98 (by omega)]; exact aN4_98
  clear hgN5 fN4 zN4 aN4_95 aN4_96 aN4_97 aN4_98
  refine r_aload_n hV dX12_choose_231 rfl rfl ?_
  refine r_getR hV dX12_choose_232 fl_X12_84 (by first | decide | omega) (by first | rfl | assumption) o43 ?_
  refine r_iload hV dX12_choose_235 rfl ?_
  refine r_aload_n hV dX12_choose_237 rfl rfl ?_
  refine r_getR hV dX12_choose_238 fl_X12_84 (by first | decide | omega) (by first | rfl | assumption) o43 ?_
  refine r_iload_n hV dX12_choose_241 rfl ?_
  refine s_iaload hV dX12_choose_242 (by first | decide | omega) (by first | rfl | assumption) (by decide) (by omega) (by omega) (show N5 102 ((D : Nat) : Int).toNat = iI (ha) from by rw [Int.toNat_natCast]; exact (fN5 102 D (by omega)).trans e102) ?_
  refine r_iload_n hV dX12_choose_243 rfl ?_
  refine s_if_ne hV 261 dX12_choose_244 (by decide) (by unfold z_rg; first | omega | (split <;> omega)) (fun _ => ?_) (fun c244 => absurd c244 (by decide))
  refine s_iconst hV dX12_choose_261 (0) (by decide) ?_
  refine s_iadd hV dX12_choose_262 ?_
  rw [Int.add_zero]
  refine s_iastore hV dX12_choose_263 (by first | decide | omega) (by first | rfl | assumption) (by decide) (by omega) (by omega) ?_
  generalize hgN6 : zu N5 102 (zu (N5 102) ((D : Int) + 1).toNat (iI (ha))) = N6
  have uN6 : ∀ q, q ≠ 102 → N6 q = N5 q := fun q h => by rw [← hgN6, zu_n _ _ h]
  have aN6_102 : N6 102 (D + 1) = iI (ha) := by rw [← hgN6, zu_s, show ((D : Int) + 1).toNat = D + 1 by omega, zu_s]
  have fN6 : ∀ q i, i ≠ D + 1 → N6 q i = I q i := fun q i h => by
    by_cases hq : q = 102
    · rw [hq, ← hgN6, zu_s, show ((D : Int) + 1).toNat = D + 1 by omega, zu_n _ _ h]; exact fN5 102 i h
    · rw [uN6 q hq]; exact fN5 q i h
  have zN6 : ∀ q, (q < 95 ∨ 105 < q) → N6 q = I q := fun q h => (uN6 q (by omega)).trans (zN5 q h)
  have aN6_95 : N6 95 (D + 1) = iI (hp) := by rw [uN6 95 (by omega)]; exact aN5_95
  have aN6_96 : N6 96 (D + 1) = iI (0) := by rw [uN6 96 (by omega)]; exact aN5_96
  have aN6_97 : N6 97 (D + 1) = iI (rest - F (ip * 6)) := by rw [uN6 97 (by omega)]; exact aN5_97
  have aN6_98 : N6 98 (D + 1) = iI (((gone : Nat) : Int)) := by rw [uN6 98 (by omega)]; exact aN5_98
  have aN6_99 : N6 99 (D + 1) = iI (((2 : Nat) : Int)) := by rw [uN6 99 (by omega)]; exact aN5_99
  clear hgN6 fN5 zN5 aN5_95 aN5_96 aN5_97 aN5_98 aN5_99
  refine r_aload_n hV dX12_choose_264 rfl rfl ?_
  refine r_getR hV dX12_choose_265 fl_X12_87 (by first | decide | omega) (by first | rfl | assumption) o44 ?_
  refine r_iload hV dX12_choose_268 rfl ?_
  refine r_aload_n hV dX12_choose_270 rfl rfl ?_
  refine r_getR hV dX12_choose_271 fl_X12_87 (by first | decide | omega) (by first | rfl | assumption) o44 ?_
  refine r_iload_n hV dX12_choose_274 rfl ?_
  refine s_iaload hV dX12_choose_275 (by first | decide | omega) (by first | rfl | assumption) (by decide) (by omega) (by omega) (show N6 103 ((D : Nat) : Int).toNat = iI (hb) from by rw [Int.toNat_natCast]; exact (fN6 103 D (by omega)).trans e103) ?_
  refine r_iload_n hV dX12_choose_276 rfl ?_
  refine s_iconst hV dX12_choose_277 (1) (by decide) ?_
  refine s_icmp_ne hV 295 dX12_choose_278 (by decide) (by unfold z_rg; first | omega | (split <;> omega)) (by unfold z_rg; first | omega | (split <;> omega)) (fun c278 => absurd c278 (by decide)) (fun _ => ?_)
  refine r_iload_n hV dX12_choose_281 rfl ?_
  refine s_if_le hV 295 dX12_choose_282 (by decide) (by unfold z_rg; first | omega | (split <;> omega)) (fun _ => ?_) (fun c282 => absurd (by omega) c282)
  refine s_iconst hV dX12_choose_295 (0) (by decide) ?_
  refine s_iadd hV dX12_choose_296 ?_
  rw [Int.add_zero]
  refine s_iastore hV dX12_choose_297 (by first | decide | omega) (by first | rfl | assumption) (by decide) (by omega) (by omega) ?_
  generalize hgN7 : zu N6 103 (zu (N6 103) ((D : Int) + 1).toNat (iI (hb))) = N7
  have uN7 : ∀ q, q ≠ 103 → N7 q = N6 q := fun q h => by rw [← hgN7, zu_n _ _ h]
  have aN7_103 : N7 103 (D + 1) = iI (hb) := by rw [← hgN7, zu_s, show ((D : Int) + 1).toNat = D + 1 by omega, zu_s]
  have fN7 : ∀ q i, i ≠ D + 1 → N7 q i = I q i := fun q i h => by
    by_cases hq : q = 103
    · rw [hq, ← hgN7, zu_s, show ((D : Int) + 1).toNat = D + 1 by omega, zu_n _ _ h]; exact fN6 103 i h
    · rw [uN7 q hq]; exact fN6 q i h
  have zN7 : ∀ q, (q < 95 ∨ 105 < q) → N7 q = I q := fun q h => (uN7 q (by omega)).trans (zN6 q h)
  have aN7_95 : N7 95 (D + 1) = iI (hp) := by rw [uN7 95 (by omega)]; exact aN6_95
  have aN7_96 : N7 96 (D + 1) = iI (0) := by rw [uN7 96 (by omega)]; exact aN6_96
  have aN7_97 : N7 97 (D + 1) = iI (rest - F (ip * 6)) := by rw [uN7 97 (by omega)]; exact aN6_97
  have aN7_98 : N7 98 (D + 1) = iI (((gone : Nat) : Int)) := by rw [uN7 98 (by omega)]; exact aN6_98
  have aN7_99 : N7 99 (D + 1) = iI (((2 : Nat) : Int)) := by rw [uN7 99 (by omega)]; exact aN6_99
  have aN7_102 : N7 102 (D + 1) = iI (ha) := by rw [uN7 102 (by omega)]; exact aN6_102
  clear hgN7 fN6 zN6 aN6_95 aN6_96 aN6_97 aN6_98 aN6_99 aN6_102
  refine r_aload_n hV dX12_choose_298 rfl rfl ?_
  refine r_getR hV dX12_choose_299 fl_X12_78 (by first | decide | omega) (by first | rfl | assumption) o41 ?_
  refine r_iload hV dX12_choose_302 rfl ?_
  refine r_aload_n hV dX12_choose_304 rfl rfl ?_
  refine r_getR hV dX12_choose_305 fl_X12_75 (by first | decide | omega) (by first | rfl | assumption) o40 ?_
  refine r_iload hV dX12_choose_308 rfl ?_
  refine s_iaload hV dX12_choose_310 (by first | decide | omega) (by first | rfl | assumption) (by decide) (by omega) (by omega) (show N7 99 ((D : Int) + 1).toNat = iI ((2 : Nat) : Int) from by rw [show ((D : Int) + 1).toNat = D + 1 by omega]; exact aN7_99) ?_
  refine s_iconst hV dX12_choose_311 (1) (by decide) ?_
  refine r_iload_n hV dX12_choose_312 rfl ?_
  refine s_isub hV dX12_choose_313 ?_
  rw [show (1 : Int) - 1 = ((0 : Nat) : Int) from rfl]
  refine q_is2v hV dX12_choose_314 ms_X12_180 (n_has N7 J P 2 0 (by decide) (by decide)) (by decide) (Nat.le_refl _) (Nat.le_of_ble_eq_true rfl) ?_
  refine s_if_eq hV 324 dX12_choose_317 (by decide) (by unfold z_rg; first | omega | (split <;> omega)) (fun _ => ?_) (fun c317 => absurd (by decide) c317)
  refine s_iconst hV dX12_choose_324 (1) (by decide) ?_
  refine r_iload_n hV dX12_choose_325 rfl ?_
  refine s_isub hV dX12_choose_326 ?_
  rw [show (1 : Int) - 1 = 0 from rfl]
  refine s_iastore hV dX12_choose_327 (by first | decide | omega) (by first | rfl | assumption) (by decide) (by omega) (by omega) ?_
  generalize hgN8 : zu N7 100 (zu (N7 100) ((D : Int) + 1).toNat (iI (0))) = N8
  have uN8 : ∀ q, q ≠ 100 → N8 q = N7 q := fun q h => by rw [← hgN8, zu_n _ _ h]
  have aN8_100 : N8 100 (D + 1) = iI (0) := by rw [← hgN8, zu_s, show ((D : Int) + 1).toNat = D + 1 by omega, zu_s]
  have fN8 : ∀ q i, i ≠ D + 1 → N8 q i = I q i := fun q i h => by
    by_cases hq : q = 100
    · rw [hq, ← hgN8, zu_s, show ((D : Int) + 1).toNat = D + 1 by omega, zu_n _ _ h]; exact fN7 100 i h
    · rw [uN8 q hq]; exact fN7 q i h
  have zN8 : ∀ q, (q < 95 ∨ 105 < q) → N8 q = I q := fun q h => (uN8 q (by omega)).trans (zN7 q h)
  have aN8_95 : N8 95 (D + 1) = iI (hp) := by rw [uN8 95 (by omega)]; exact aN7_95
  have aN8_96 : N8 96 (D + 1) = iI (0) := by rw [uN8 96 (by omega)]; exact aN7_96
  have aN8_97 : N8 97 (D + 1) = iI (rest - F (ip * 6)) := by rw [uN8 97 (by omega)]; exact aN7_97
  have aN8_98 : N8 98 (D + 1) = iI (((gone : Nat) : Int)) := by rw [uN8 98 (by omega)]; exact aN7_98
  have aN8_99 : N8 99 (D + 1) = iI (((2 : Nat) : Int)) := by rw [uN8 99 (by omega)]; exact aN7_99
  have aN8_102 : N8 102 (D + 1) = iI (ha) := by rw [uN8 102 (by omega)]; exact aN7_102
  have aN8_103 : N8 103 (D + 1) = iI (hb) := by rw [uN8 103 (by omega)]; exact aN7_103
  clear hgN8 fN7 zN7 aN7_95 aN7_96 aN7_97 aN7_98 aN7_99 aN7_102 aN7_103
  refine r_aload_n hV dX12_choose_328 rfl rfl ?_
  refine r_getR hV dX12_choose_329 fl_X12_81 (by first | decide | omega) (by first | rfl | assumption) o42 ?_
  refine r_iload hV dX12_choose_332 rfl ?_
  refine s_iconst hV dX12_choose_334 (0) (by decide) ?_
  refine s_iastore hV dX12_choose_335 (by first | decide | omega) (by first | rfl | assumption) (by decide) (by omega) (by omega) ?_
  generalize hgN9 : zu N8 101 (zu (N8 101) ((D : Int) + 1).toNat (iI (0))) = N9
  have uN9 : ∀ q, q ≠ 101 → N9 q = N8 q := fun q h => by rw [← hgN9, zu_n _ _ h]
  have aN9_101 : N9 101 (D + 1) = iI (0) := by rw [← hgN9, zu_s, show ((D : Int) + 1).toNat = D + 1 by omega, zu_s]
  have fN9 : ∀ q i, i ≠ D + 1 → N9 q i = I q i := fun q i h => by
    by_cases hq : q = 101
    · rw [hq, ← hgN9, zu_s, show ((D : Int) + 1).toNat = D + 1 by omega, zu_n _ _ h]; exact fN8 101 i h
    · rw [uN9 q hq]; exact fN8 q i h
  have zN9 : ∀ q, (q < 95 ∨ 105 < q) → N9 q = I q := fun q h => (uN9 q (by omega)).trans (zN8 q h)
  have aN9_95 : N9 95 (D + 1) = iI (hp) := by rw [uN9 95 (by omega)]; exact aN8_95
  have aN9_96 : N9 96 (D + 1) = iI (0) := by rw [uN9 96 (by omega)]; exact aN8_96
  have aN9_97 : N9 97 (D + 1) = iI (rest - F (ip * 6)) := by rw [uN9 97 (by omega)]; exact aN8_97
  have aN9_98 : N9 98 (D + 1) = iI (((gone : Nat) : Int)) := by rw [uN9 98 (by omega)]; exact aN8_98
  have aN9_99 : N9 99 (D + 1) = iI (((2 : Nat) : Int)) := by rw [uN9 99 (by omega)]; exact aN8_99
  have aN9_102 : N9 102 (D + 1) = iI (ha) := by rw [uN9 102 (by omega)]; exact aN8_102
  have aN9_103 : N9 103 (D + 1) = iI (hb) := by rw [uN9 103 (by omega)]; exact aN8_103
  have aN9_100 : N9 100 (D + 1) = iI (0) := by rw [uN9 100 (by omega)]; exact aN8_100
  clear hgN9 fN8 zN8 aN8_95 aN8_96 aN8_97 aN8_98 aN8_99 aN8_102 aN8_103 aN8_100
  refine r_aload_n hV dX12_choose_336 rfl rfl ?_
  refine r_getR hV dX12_choose_337 fl_X12_90 (by first | decide | omega) (by first | rfl | assumption) o45 ?_
  refine r_iload hV dX12_choose_340 rfl ?_
  refine s_bipush hV dX12_choose_342 (-9) (by decide) ?_
  refine s_iastore hV dX12_choose_344 (by first | decide | omega) (by first | rfl | assumption) (by decide) (by omega) (by omega) ?_
  generalize hgN10 : zu N9 104 (zu (N9 104) ((D : Int) + 1).toNat (iI (-9))) = N10
  have uN10 : ∀ q, q ≠ 104 → N10 q = N9 q := fun q h => by rw [← hgN10, zu_n _ _ h]
  have aN10_104 : N10 104 (D + 1) = iI (-9) := by rw [← hgN10, zu_s, show ((D : Int) + 1).toNat = D + 1 by omega, zu_s]
  have fN10 : ∀ q i, i ≠ D + 1 → N10 q i = I q i := fun q i h => by
    by_cases hq : q = 104
    · rw [hq, ← hgN10, zu_s, show ((D : Int) + 1).toNat = D + 1 by omega, zu_n _ _ h]; exact fN9 104 i h
    · rw [uN10 q hq]; exact fN9 q i h
  have zN10 : ∀ q, (q < 95 ∨ 105 < q) → N10 q = I q := fun q h => (uN10 q (by omega)).trans (zN9 q h)
  have aN10_95 : N10 95 (D + 1) = iI (hp) := by rw [uN10 95 (by omega)]; exact aN9_95
  have aN10_96 : N10 96 (D + 1) = iI (0) := by rw [uN10 96 (by omega)]; exact aN9_96
  have aN10_97 : N10 97 (D + 1) = iI (rest - F (ip * 6)) := by rw [uN10 97 (by omega)]; exact aN9_97
  have aN10_98 : N10 98 (D + 1) = iI (((gone : Nat) : Int)) := by rw [uN10 98 (by omega)]; exact aN9_98
  have aN10_99 : N10 99 (D + 1) = iI (((2 : Nat) : Int)) := by rw [uN10 99 (by omega)]; exact aN9_99
  have aN10_102 : N10 102 (D + 1) = iI (ha) := by rw [uN10 102 (by omega)]; exact aN9_102
  have aN10_103 : N10 103 (D + 1) = iI (hb) := by rw [uN10 103 (by omega)]; exact aN9_103
  have aN10_100 : N10 100 (D + 1) = iI (0) := by rw [uN10 100 (by omega)]; exact aN9_100
  have aN10_101 : N10 101 (D + 1) = iI (0) := by rw [uN10 101 (by omega)]; exact aN9_101
  clear hgN10 fN9 zN9 aN9_95 aN9_96 aN9_97 aN9_98 aN9_99 aN9_102 aN9_103 aN9_100 aN9_101
  refine r_aload_n hV dX12_choose_345 rfl rfl ?_
  refine r_getR hV dX12_choose_346 fl_X12_93 (by first | decide | omega) (by first | rfl | assumption) o46 ?_
  refine r_iload hV dX12_choose_349 rfl ?_
  refine s_bipush hV dX12_choose_351 (-9) (by decide) ?_
  refine s_iastore hV dX12_choose_353 (by first | decide | omega) (by first | rfl | assumption) (by decide) (by omega) (by omega) ?_
  generalize hgN11 : zu N10 105 (zu (N10 105) ((D : Int) + 1).toNat (iI (-9))) = N11
  have uN11 : ∀ q, q ≠ 105 → N11 q = N10 q := fun q h => by rw [← hgN11, zu_n _ _ h]
  have aN11_105 : N11 105 (D + 1) = iI (-9) := by rw [← hgN11, zu_s, show ((D : Int) + 1).toNat = D + 1 by omega, zu_s]
  have fN11 : ∀ q i, i ≠ D + 1 → N11 q i = I q i := fun q i h => by
    by_cases hq : q = 105
    · rw [hq, ← hgN11, zu_s, show ((D : Int) + 1).toNat = D + 1 by omega, zu_n _ _ h]; exact fN10 105 i h
    · rw [uN11 q hq]; exact fN10 q i h
  have zN11 : ∀ q, (q < 95 ∨ 105 < q) → N11 q = I q := fun q h => (uN11 q (by omega)).trans (zN10 q h)
  have aN11_95 : N11 95 (D + 1) = iI (hp) := by rw [uN11 95 (by omega)]; exact aN10_95
  have aN11_96 : N11 96 (D + 1) = iI (0) := by rw [uN11 96 (by omega)]; exact aN10_96
  have aN11_97 : N11 97 (D + 1) = iI (rest - F (ip * 6)) := by rw [uN11 97 (by omega)]; exact aN10_97
  have aN11_98 : N11 98 (D + 1) = iI (((gone : Nat) : Int)) := by rw [uN11 98 (by omega)]; exact aN10_98
  have aN11_99 : N11 99 (D + 1) = iI (((2 : Nat) : Int)) := by rw [uN11 99 (by omega)]; exact aN10_99
  have aN11_102 : N11 102 (D + 1) = iI (ha) := by rw [uN11 102 (by omega)]; exact aN10_102
  have aN11_103 : N11 103 (D + 1) = iI (hb) := by rw [uN11 103 (by omega)]; exact aN10_103
  have aN11_100 : N11 100 (D + 1) = iI (0) := by rw [uN11 100 (by omega)]; exact aN10_100
  have aN11_101 : N11 101 (D + 1) = iI (0) := by rw [uN11 101 (by omega)]; exact aN10_101
  have aN11_104 : N11 104 (D + 1) = iI (-9) := by rw [uN11 104 (by omega)]; exact aN10_104
  clear hgN11 fN10 zN10 aN10_95 aN10_96 aN10_97 aN10_98 aN10_99 aN10_102 aN10_103 aN10_100 aN10_101 aN10_104
  refine r_aload_n hV dX12_choose_354 rfl rfl ?_
  refine r_iload hV dX12_choose_355 rfl ?_
  rw [show (D : Int) + 1 = ((D + 1 : Nat) : Int) by omega]
  refine q_iv1v hV dX12_choose_357 mv_X12_241 (n_canBoth N11 J P hM n hnb F (z_ar_fr zF (zN11 80 (by omega))) hFd (D + 1) (by omega) (hp) (0) (rest - F (ip * 6)) aN11_95 aN11_96 aN11_97 (by omega) (by omega) (by omega)) (by first | decide | omega) (by first | rfl | assumption) (by decide) (Nat.le_refl _) (Nat.le_of_ble_eq_true rfl) ?_
  refine s_zret hV dX12_choose_360 rfl (by split <;> omega) rfl ?_
  refine ⟨?_, rfl, rfl, zN11, fN11, fun _ => ⟨⟨aN11_95, aN11_96, aN11_97, aN11_98, aN11_99, aN11_100, aN11_102, aN11_103⟩, aN11_101, aN11_104, aN11_105⟩⟩
  rfl

set_option maxRecDepth 20000 in
theorem n_ch10e (I : zI) (J : zJ) (P : zP) (hM : mK P) (n e : Nat) (hnb : 2 ≤ n ∧ n ≤ 6) (h8 : I 78 8 = iI (e : Int)) (he6 : e ≤ 6) (F W U K : Int → Int) (zF : z_ar I 80 36 (mF F)) (hFd : zD F) (zW : z_ar I 81 e W) (hWb : z_bd W e 0 (n - 1)) (zU : z_ar I 82 e U) (hUb : z_bd U 6 0 9) (zK : z_ar I 83 e K) (hKb : z_bd K 6 0 2) (D : Nat) (hD : D ≤ 7) (hp ip rest : Int) (gone : Nat) (hg64 : gone < 64) (ha hb : Int) (hFr : mFr I D hp ip rest gone 0 1 ha hb) (hhp : 0 ≤ hp ∧ hp < n) (hip : 0 ≤ ip ∧ ip < n) (hrest : -50000 ≤ rest ∧ rest ≤ 90000) (x : Nat) (hx : x < e) : z_Sp 2 yX12_choose cX12_choose 8 (some .boolean) 108 108 I J P [.ref 78, .int (iI (D : Int)), .int (iI ((x : Int) + 1))] (q_ch I J P D ((¬ gone.testBit x = true ∧ (K (x : Int) = 2 ∨ K (x : Int) = 1) ∧ F (ip * 6 + W (x : Int)) < 1000000) ∧ F ((hp) * 6) + F ((W (x : Int)) * 6) ≤ rest - F (ip * 6 + W (x : Int))) (hp) (W (x : Int)) (rest - F (ip * 6 + W (x : Int))) (gone ||| 2 ^ x) 0 0 (ha) (hb + U (x : Int))) := by
  obtain ⟨o1, o7, o9, o10, o11, o16, o17, o18, o19, o20, o25, o26, o28, o29, o30, o31, o36, o37, o38, o39, o40, o41, o42, o43, o44, o45, o46, o47, o48⟩ := id hM
  obtain ⟨e95, e96, e97, e98, e99, e100, e102, e103⟩ := id hFr
  refine z_met false (by decide +kernel) (fun h => by cases h) (Nat.le_of_ble_eq_true rfl) (by first | decide | omega) (fun V hV => ?_)
  show V 108 I J P 0 [.ref 78, .int (iI (D : Int)), .int (iI ((x : Int) + 1)), .null, .null, .null, .null, .null] []
  refine r_aload_n hV dX12_choose_0 rfl rfl ?_
  refine r_getR hV dX12_choose_1 fl_X12_78 (by first | decide | omega) (by first | rfl | assumption) o41 ?_
  refine r_iload_n hV dX12_choose_4 rfl ?_
  refine s_iaload hV dX12_choose_5 (by first | decide | omega) (by first | rfl | assumption) (by decide) (by omega) (by omega) (show I 100 ((D : Nat) : Int).toNat = iI (1) from by rw [Int.toNat_natCast]; exact e100) ?_
  refine r_istore_n hV dX12_choose_6 (Nat.le_of_ble_eq_true rfl) (z_st1_8_3 rfl) ?_
  refine r_iload_n hV dX12_choose_7 rfl ?_
  refine s_if_ne hV 20 dX12_choose_8 (by decide) (by unfold z_rg; first | omega | (split <;> omega)) (fun _ => ?_) (fun c8 => absurd c8 (by decide))
  refine r_aload_n hV dX12_choose_20 rfl rfl ?_
  refine r_getR hV dX12_choose_21 fl_X12_66 (by first | decide | omega) (by first | rfl | assumption) o37 ?_
  refine r_iload_n hV dX12_choose_24 rfl ?_
  refine s_iaload hV dX12_choose_25 (by first | decide | omega) (by first | rfl | assumption) (by decide) (by omega) (by omega) (show I 96 ((D : Nat) : Int).toNat = iI (ip) from by rw [Int.toNat_natCast]; exact e96) ?_
  refine r_istore hV dX12_choose_26 (Nat.le_of_ble_eq_true rfl) (z_st1_8_4 rfl) ?_
  refine r_iload_n hV dX12_choose_28 rfl ?_
  refine s_iconst hV dX12_choose_29 (1) (by decide) ?_
  refine s_isub hV dX12_choose_30 ?_
  rw [show (x : Int) + 1 - 1 = (x : Int) by omega]
  refine r_istore hV dX12_choose_31 (Nat.le_of_ble_eq_true rfl) (z_st1_8_5 rfl) ?_
  refine r_iload_n hV dX12_choose_33 rfl ?_
  refine s_if_le hV 86 dX12_choose_34 (by decide) (by unfold z_rg; first | omega | (split <;> omega)) (fun c34 => absurd c34 (by omega)) (fun _ => ?_)
  refine r_aload_n hV dX12_choose_37 rfl rfl ?_
  refine r_getR hV dX12_choose_38 fl_X12_72 (by first | decide | omega) (by first | rfl | assumption) o39 ?_
  refine r_iload_n hV dX12_choose_41 rfl ?_
  refine s_iaload hV dX12_choose_42 (by first | decide | omega) (by first | rfl | assumption) (by decide) (by omega) (by omega) (show I 98 ((D : Nat) : Int).toNat = iI (((gone : Nat) : Int)) from by rw [Int.toNat_natCast]; exact e98) ?_
  refine r_iload hV dX12_choose_43 rfl ?_
  refine q_is2v hV dX12_choose_45 ms_X12_180 (n_has I J P gone x hg64 (by omega)) (by decide) (Nat.le_refl _) (Nat.le_of_ble_eq_true rfl) ?_
  refine s_if_ne hV 84 dX12_choose_48 (by decide) (by unfold z_rg; first | omega | (split <;> omega)) (fun c48 => ?_) (fun c48 => ?_)
  · have hg := z_ite1 c48
    refine s_iconst hV dX12_choose_84 (0) (by decide) ?_
    refine s_zret hV dX12_choose_85 rfl (by omega) rfl ?_
    refine ⟨?_, rfl, rfl, fun _ _ => rfl, fun _ _ _ => rfl, fun hh => ?_⟩
    · refine congrArg (fun z => some (Value.int (iI z))) ?_
      rw [if_neg (by first | exact fun hh => hh.1.1 hg | exact fun hh => hc hh.1.2.1 | (rw [hfe]; omega))]
    · first | exact absurd hg hh.1.1 | exact absurd hh.1.2.1 hc | (exfalso; rw [hfe] at hh; omega)
  · have hg := z_ite0 (by first | exact c48 | exact Classical.not_not.mp c48)
    refine r_aload_n hV dX12_choose_51 rfl rfl ?_
    refine r_iload_n hV dX12_choose_52 rfl ?_
    refine r_iload hV dX12_choose_53 rfl ?_
    refine q_iv2v hV dX12_choose_55 mv_X12_211 (n_canDo I J P hM e K zK he6 hKb 1 (x : Int) (by unfold z_rg; omega) (by omega)) (by first | decide | omega) (by first | rfl | assumption) (by decide) (Nat.le_refl _) (Nat.le_of_ble_eq_true rfl) ?_
    refine s_if_eq hV 84 dX12_choose_58 (by decide) (by unfold z_rg; first | omega | (split <;> omega)) (fun c58 => ?_) (fun c58 => ?_)
    · have hc := z_ite0 c58
      refine s_iconst hV dX12_choose_84 (0) (by decide) ?_
      refine s_zret hV dX12_choose_85 rfl (by omega) rfl ?_
      refine ⟨?_, rfl, rfl, fun _ _ => rfl, fun _ _ _ => rfl, fun hh => ?_⟩
      · refine congrArg (fun z => some (Value.int (iI z))) ?_
        rw [if_neg (by first | exact fun hh => hh.1.1 hg | exact fun hh => hc hh.1.2.1 | (rw [hfe]; omega))]
      · first | exact absurd hg hh.1.1 | exact absurd hh.1.2.1 hc | (exfalso; rw [hfe] at hh; omega)
    · have hc := z_ite1 c58
      have hwx := hWb (x : Int) (by omega) (by omega)
      have hux := hUb (x : Int) (by omega) (by omega)
      have hfx := hFd (6 * ip + W (x : Int)) (by omega) (by omega)
      have hfe : F (ip * 6 + W (x : Int)) = F (6 * ip + W (x : Int)) := congrArg F (by omega)
      have hmx : mF F (6 * ip + W (x : Int)) = if F (6 * ip + W (x : Int)) < 1000000 then F (6 * ip + W (x : Int)) else 99999 := rfl
      refine r_aload_n hV dX12_choose_61 rfl rfl ?_
      refine r_getR hV dX12_choose_62 fl_X12_17 (by first | decide | omega) (by first | rfl | assumption) o7 ?_
      refine s_bipush hV dX12_choose_65 (6) (by decide) ?_
      refine r_iload hV dX12_choose_67 rfl ?_
      refine s_imul hV dX12_choose_69 ?_
      refine r_aload_n hV dX12_choose_70 rfl rfl ?_
      refine r_getR hV dX12_choose_71 fl_X12_20 (by first | decide | omega) (by first | rfl | assumption) o9 ?_
      refine r_iload hV dX12_choose_74 rfl ?_
      refine s_iaload hV dX12_choose_76 (by first | decide | omega) (by first | rfl | assumption) (by decide) (by omega) (by omega) (zW (x : Int) (by omega) (by omega)) ?_
      refine s_iadd hV dX12_choose_77 ?_
      refine s_iaload hV dX12_choose_78 (by first | decide | omega) (by first | rfl | assumption) (by decide) (by omega) (by omega) (zF (6 * ip + W (x : Int)) (by omega) (by omega)) ?_
      refine s_ldc hV dX12_choose_79 ct_X12_103 (99999) (by decide) ?_
      refine s_icmp_lt hV 86 dX12_choose_81 (by decide) (by unfold z_rg; first | omega | (split <;> omega)) (by unfold z_rg; first | omega | (split <;> omega)) (fun c81 => ?_) (fun c81 => ?_)
      · have hmv : mF F (6 * ip + W (x : Int)) = F (ip * 6 + W (x : Int)) := by rw [hfe]; omega
        refine r_iload_n hV dX12_choose_86 rfl ?_
        refine s_if_ne hV 94 dX12_choose_87 (by decide) (by unfold z_rg; first | omega | (split <;> omega)) (fun _ => ?_) (fun c87 => absurd c87 (by omega))
        refine r_aload_n hV dX12_choose_94 rfl rfl ?_
        refine r_getR hV dX12_choose_95 fl_X12_20 (by first | decide | omega) (by first | rfl | assumption) o9 ?_
        refine r_iload hV dX12_choose_98 rfl ?_
        refine s_iaload hV dX12_choose_100 (by first | decide | omega) (by first | rfl | assumption) (by decide) (by omega) (by omega) (zW (x : Int) (by omega) (by omega)) ?_
        refine r_istore hV dX12_choose_101 (Nat.le_of_ble_eq_true rfl) (z_st1_8_6 rfl) ?_
        refine r_iload_n hV dX12_choose_103 rfl ?_
        refine s_iconst hV dX12_choose_104 (1) (by decide) ?_
        refine s_iadd hV dX12_choose_105 ?_
        refine r_istore hV dX12_choose_106 (Nat.le_of_ble_eq_true rfl) (z_st1_8_7 rfl) ?_
        refine r_aload_n hV dX12_choose_108 rfl rfl ?_
        refine r_getR hV dX12_choose_109 fl_X12_63 (by first | decide | omega) (by first | rfl | assumption) o36 ?_
        refine r_iload hV dX12_choose_112 rfl ?_
        refine r_iload_n hV dX12_choose_114 rfl ?_
        refine s_if_ne hV 123 dX12_choose_115 (by decide) (by unfold z_rg; first | omega | (split <;> omega)) (fun _ => ?_) (fun c115 => absurd c115 (by decide))
        refine r_aload_n hV dX12_choose_123 rfl rfl ?_
        refine r_getR hV dX12_choose_124 fl_X12_63 (by first | decide | omega) (by first | rfl | assumption) o36 ?_
        refine r_iload_n hV dX12_choose_127 rfl ?_
        refine s_iaload hV dX12_choose_128 (by first | decide | omega) (by first | rfl | assumption) (by decide) (by omega) (by omega) (show I 95 ((D : Nat) : Int).toNat = iI (hp) from by rw [Int.toNat_natCast]; exact e95) ?_
        refine s_iastore hV dX12_choose_129 (by first | decide | omega) (by first | rfl | assumption) (by decide) (by omega) (by omega) ?_
        generalize hgN1 : zu I 95 (zu (I 95) ((D : Int) + 1).toNat (iI (hp))) = N1
        have uN1 : ∀ q, q ≠ 95 → N1 q = I q := fun q h => by rw [← hgN1, zu_n _ _ h]
        have aN1_95 : N1 95 (D + 1) = iI (hp) := by rw [← hgN1, zu_s, show ((D : Int) + 1).toNat = D + 1 by omega, zu_s]
        have fN1 : ∀ q i, i ≠ D + 1 → N1 q i = I q i := fun q i h => by
          by_cases hq : q = 95
          · rw [hq, ← hgN1, zu_s, show ((D : Int) + 1).toNat = D + 1 by omega, zu_n _ _ h]
          · rw [uN1 q hq]
        have zN1 : ∀ q, (q < 95 ∨ 105 < q) → N1 q = I q := fun q h => uN1 q (by omega)
        clear hgN1
        refine r_aload_n hV dX12_choose_130 rfl rfl ?_
        refine r_getR hV dX12_choose_131 fl_X12_66 (by first | decide | omega) (by first | rfl | assumption) o37 ?_
        refine r_iload hV dX12_choose_134 rfl ?_
        refine r_iload_n hV dX12_choose_136 rfl ?_
        refine s_iconst hV dX12_choose_137 (1) (by decide) ?_
        refine s_icmp_ne hV 146 dX12_choose_138 (by decide) (by unfold z_rg; first | omega | (split <;> omega)) (by unfold z_rg; first | omega | (split <;> omega)) (fun c138 => absurd c138 (by decide)) (fun _ => ?_)
        refine r_iload hV dX12_choose_141 rfl ?_
        refine r_goto hV 152 dX12_choose_143 (by decide) ?_
        refine s_iastore hV dX12_choose_152 (by first | decide | omega) (by first | rfl | assumption) (by decide) (by omega) (by omega) ?_
        generalize hgN2 : zu N1 96 (zu (N1 96) ((D : Int) + 1).toNat (iI (W (x : Int)))) = N2
        have uN2 : ∀ q, q ≠ 96 → N2 q = N1 q := fun q h => by rw [← hgN2, zu_n _ _ h]
        have aN2_96 : N2 96 (D + 1) = iI (W (x : Int)) := by rw [← hgN2, zu_s, show ((D : Int) + 1).toNat = D + 1 by omega, zu_s]
        have fN2 : ∀ q i, i ≠ D + 1 → N2 q i = I q i := fun q i h => by
          by_cases hq : q = 96
          · rw [hq, ← hgN2, zu_s, show ((D : Int) + 1).toNat = D + 1 by omega, zu_n _ _ h]; exact fN1 96 i h
          · rw [uN2 q hq]; exact fN1 q i h
        have zN2 : ∀ q, (q < 95 ∨ 105 < q) → N2 q = I q := fun q h => (uN2 q (by omega)).trans (zN1 q h)
        have aN2_95 : N2 95 (D + 1) = iI (hp) := by rw [uN2 95 (by omega)]; exact aN1_95
        clear hgN2 fN1 zN1 aN1_95
        refine r_aload_n hV dX12_choose_153 rfl rfl ?_
        refine r_getR hV dX12_choose_154 fl_X12_69 (by first | decide | omega) (by first | rfl | assumption) o38 ?_
        refine r_iload hV dX12_choose_157 rfl ?_
        refine r_aload_n hV dX12_choose_159 rfl rfl ?_
        refine r_getR hV dX12_choose_160 fl_X12_69 (by first | decide | omega) (by first | rfl | assumption) o38 ?_
        refine r_iload_n hV dX12_choose_163 rfl ?_
        refine s_iaload hV dX12_choose_164 (by first | decide | omega) (by first | rfl | assumption) (by decide) (by omega) (by omega) (show N2 97 ((D : Nat) : Int).toNat = iI (rest) from by rw [Int.toNat_natCast]; exact (fN2 97 D (by omega)).trans e97) ?_
        refine r_aload_n hV dX12_choose_165 rfl rfl ?_
        refine r_getR hV dX12_choose_166 fl_X12_17 (by first | decide | omega) (by first | rfl | assumption) o7 ?_
        refine s_bipush hV dX12_choose_169 (6) (by decide) ?_
        refine r_iload hV dX12_choose_171 rfl ?_
        refine s_imul hV dX12_choose_173 ?_
        refine r_iload hV dX12_choose_174 rfl ?_
        refine s_iadd hV dX12_choose_176 ?_
        refine s_iaload hV dX12_choose_177 (by first | decide | omega) (by first | rfl | assumption) (by decide) (by omega) (by omega) ((congrFun (zN2 80 (by omega)) _).trans ((zF (6 * ip + W (x : Int)) (by omega) (by omega)).trans (congrArg iI hmv))) ?_
        refine s_isub hV dX12_choose_178 ?_
        refine s_iastore hV dX12_choose_179 (by first | decide | omega) (by first | rfl | assumption) (by decide) (by omega) (by omega) ?_
        generalize hgN3 : zu N2 97 (zu (N2 97) ((D : Int) + 1).toNat (iI (rest - F (ip * 6 + W (x : Int))))) = N3
        have uN3 : ∀ q, q ≠ 97 → N3 q = N2 q := fun q h => by rw [← hgN3, zu_n _ _ h]
        have aN3_97 : N3 97 (D + 1) = iI (rest - F (ip * 6 + W (x : Int))) := by rw [← hgN3, zu_s, show ((D : Int) + 1).toNat = D + 1 by omega, zu_s]
        have fN3 : ∀ q i, i ≠ D + 1 → N3 q i = I q i := fun q i h => by
          by_cases hq : q = 97
          · rw [hq, ← hgN3, zu_s, show ((D : Int) + 1).toNat = D + 1 by omega, zu_n _ _ h]; exact fN2 97 i h
          · rw [uN3 q hq]; exact fN2 q i h
        have zN3 : ∀ q, (q < 95 ∨ 105 < q) → N3 q = I q := fun q h => (uN3 q (by omega)).trans (zN2 q h)
        have aN3_95 : N3 95 (D + 1) = iI (hp) := by rw [uN3 95 (by omega)]; exact aN2_95
        have aN3_96 : N3 96 (D + 1) = iI (W (x : Int)) := by rw [uN3 96 (by omega)]; exact aN2_96
        clear hgN3 fN2 zN2 aN2_95 aN2_96
        refine r_aload_n hV dX12_choose_180 rfl rfl ?_
        refine r_getR hV dX12_choose_181 fl_X12_72 (by first | decide | omega) (by first | rfl | assumption) o39 ?_
        refine r_iload hV dX12_choose_184 rfl ?_
        refine r_aload_n hV dX12_choose_186 rfl rfl ?_
        refine r_getR hV dX12_choose_187 fl_X12_72 (by first | decide | omega) (by first | rfl | assumption) o39 ?_
        refine r_iload_n hV dX12_choose_190 rfl ?_
        refine s_iaload hV dX12_choose_191 (by first | decide | omega) (by first | rfl | assumption) (by decide) (by omega) (by omega) (show N3 98 ((D : Nat) : Int).toNat = iI (((gone : Nat) : Int)) from by rw [Int.toNat_natCast]; exact (fN3 98 D (by omega)).trans e98) ?_
        refine r_iload_n hV dX12_choose_192 rfl ?_
        refine s_if_le hV 203 dX12_choose_193 (by decide) (by unfold z_rg; first | omega | (split <;> omega)) (fun c193 => absurd c193 (by omega)) (fun _ => ?_)
        refine s_iconst hV dX12_choose_196 (1) (by decide) ?_
        refine r_iload hV dX12_choose_197 rfl ?_
        refine s_ishl hV dX12_choose_199 (zb_shl (by omega)) ?_
        refine r_goto hV 204 dX12_choose_200 (by decide) ?_
        refine s_ior hV dX12_choose_204 (zb_or hg64 (z_pw (by omega))) ?_
        refine s_iastore hV dX12_choose_205 (by first | decide | omega) (by first | rfl | assumption) (by decide) (by omega) (by omega) ?_
        generalize hgN4 : zu N3 98 (zu (N3 98) ((D : Int) + 1).toNat (iI ((((gone ||| 2 ^ x) : Nat) : Int)))) = N4
        have uN4 : ∀ q, q ≠ 98 → N4 q = N3 q := fun q h => by rw [← hgN4, zu_n _ _ h]
        have aN4_98 : N4 98 (D + 1) = iI ((((gone ||| 2 ^ x) : Nat) : Int)) := by rw [← hgN4, zu_s, show ((D : Int) + 1).toNat = D + 1 by omega, zu_s]
        have fN4 : ∀ q i, i ≠ D + 1 → N4 q i = I q i := fun q i h => by
          by_cases hq : q = 98
          · rw [hq, ← hgN4, zu_s, show ((D : Int) + 1).toNat = D + 1 by omega, zu_n _ _ h]; exact fN3 98 i h
          · rw [uN4 q hq]; exact fN3 q i h
        have zN4 : ∀ q, (q < 95 ∨ 105 < q) → N4 q = I q := fun q h => (uN4 q (by omega)).trans (zN3 q h)
        have aN4_95 : N4 95 (D + 1) = iI (hp) := by rw [uN4 95 (by omega)]; exact aN3_95
        have aN4_96 : N4 96 (D + 1) = iI (W (x : Int)) := by rw [uN4 96 (by omega)]; exact aN3_96
        have aN4_97 : N4 97 (D + 1) = iI (rest - F (ip * 6 + W (x : Int))) := by rw [uN4 97 (by omega)]; exact aN3_97
        clear hgN4 fN3 zN3 aN3_95 aN3_96 aN3_97
        refine r_aload_n hV dX12_choose_206 rfl rfl ?_
        refine r_getR hV dX12_choose_207 fl_X12_75 (by first | decide | omega) (by first | rfl | assumption) o40 ?_
        refine r_iload hV dX12_choose_210 rfl ?_
        refine r_aload_n hV dX12_choose_212 rfl rfl ?_
        refine r_getR hV dX12_choose_213 fl_X12_75 (by first | decide | omega) (by first | rfl | assumption) o40 ?_
        refine r_iload_n hV dX12_choose_216 rfl ?_
        refine s_iaload hV dX12_choose_217 (by first | decide | omega) (by first | rfl | assumption) (by decide) (by omega) (by omega) (show N4 99 ((D : Nat) : Int).toNat = iI (((0 : Nat) : Int)) from by rw [Int.toNat_natCast]; exact (fN4 99 D (by omega)).trans e99) ?_
        refine r_iload_n hV dX12_choose_218 rfl ?_
        refine s_if_ne hV 228 dX12_choose_219 (by decide) (by unfold z_rg; first | omega | (split <;> omega)) (fun _ => ?_) (fun c219 => absurd c219 (by omega))
        refine s_iconst hV dX12_choose_228 (0) (by decide) ?_
        refine s_ior hV dX12_choose_229 (show iI ((0 : Nat) : Int) ||| iI 0 = iI ((0 : Nat) : Int) from by decide) ?_
        refine s_iastore hV dX12_choose_230 (by first | decide | omega) (by first | rfl | assumption) (by decide) (by omega) (by omega) ?_
        generalize hgN5 : zu N4 99 (zu (N4 99) ((D : Int) + 1).toNat (iI (((0 : Nat) : Int)))) = N5
        have uN5 : ∀ q, q ≠ 99 → N5 q = N4 q := fun q h => by rw [← hgN5, zu_n _ _ h]
        have aN5_99 : N5 99 (D + 1) = iI (((0 : Nat) : Int)) := by rw [← hgN5, zu_s, show ((D : Int) + 1).toNat = D + 1 by omega, zu_s]
        have fN5 : ∀ q i, i ≠ D + 1 → N5 q i = I q i := fun q i h => by
          by_cases hq : q = 99
          · rw [hq, ← hgN5, zu_s, show ((D : Int) + 1).toNat = D + 1 by omega, zu_n _ _ h]; exact fN4 99 i h
          · rw [uN5 q hq]; exact fN4 q i h
        have zN5 : ∀ q, (q < 95 ∨ 105 < q) → N5 q = I q := fun q h => (uN5 q (by omega)).trans (zN4 q h)
        have aN5_95 : N5 95 (D + 1) = iI (hp) := by rw [uN5 95 (by omega)]; exact aN4_95
        have aN5_96 : N5 96 (D + 1) = iI (W (x : Int)) := by rw [uN5 96 (by omega)]; exact aN4_96
        have aN5_97 : N5 97 (D + 1) = iI (rest - F (ip * 6 + W (x : Int))) := by rw [uN5 97 (by omega)]; exact aN4_97
        have aN5_98 : N5 98 (D + 1) = iI ((((gone ||| 2 ^ x) : Nat) : Int)) := by rw [uN5 98 (by omega)]; exact aN4_98
        clear hgN5 fN4 zN4 aN4_95 aN4_96 aN4_97 aN4_98
        refine r_aload_n hV dX12_choose_231 rfl rfl ?_
        refine r_getR hV dX12_choose_232 fl_X12_84 (by first | decide | omega) (by first | rfl | assumption) o43 ?_
        refine r_iload hV dX12_choose_235 rfl ?_
        refine r_aload_n hV dX12_choose_237 rfl rfl ?_
        refine r_getR hV dX12_choose_238 fl_X12_84 (by first | decide | omega) (by first | rfl | assumption) o43 ?_
        refine r_iload_n hV dX12_choose_241 rfl ?_
        refine s_iaload hV dX12_choose_242 (by first | decide | omega) (by first | rfl | assumption) (by decide) (by omega) (by omega) (show N5 102 ((D : Nat) : Int).toNat = iI (ha) from by rw [Int.toNat_natCast]; exact (fN5 102 D (by omega)).trans e102) ?_
        refine r_iload_n hV dX12_choose_243 rfl ?_
        refine s_if_ne hV 261 dX12_choose_244 (by decide) (by unfold z_rg; first | omega | (split <;> omega)) (fun _ => ?_) (fun c244 => absurd c244 (by decide))
        refine s_iconst hV dX12_choose_261 (0) (by decide) ?_
        refine s_iadd hV dX12_choose_262 ?_
        rw [Int.add_zero]
        refine s_iastore hV dX12_choose_263 (by first | decide | omega) (by first | rfl | assumption) (by decide) (by omega) (by omega) ?_
        generalize hgN6 : zu N5 102 (zu (N5 102) ((D : Int) + 1).toNat (iI (ha))) = N6
        have uN6 : ∀ q, q ≠ 102 → N6 q = N5 q := fun q h => by rw [← hgN6, zu_n _ _ h]
        have aN6_102 : N6 102 (D + 1) = iI (ha) := by rw [← hgN6, zu_s, show ((D : Int) + 1).toNat = D + 1 by omega, zu_s]
        have fN6 : ∀ q i, i ≠ D + 1 → N6 q i = I q i := fun q i h => by
          by_cases hq : q = 102
          · rw [hq, ← hgN6, zu_s, show ((D : Int) + 1).toNat = D + 1 by omega, zu_n _ _ h]; exact fN5 102 i h
          · rw [uN6 q hq]; exact fN5 q i h
        have zN6 : ∀ q, (q < 95 ∨ 105 < q) → N6 q = I q := fun q h => (uN6 q (by omega)).trans (zN5 q h)
        have aN6_95 : N6 95 (D + 1) = iI (hp) := by rw [uN6 95 (by omega)]; exact aN5_95
        have aN6_96 : N6 96 (D + 1) = iI (W (x : Int)) := by rw [uN6 96 (by omega)]; exact aN5_96
        have aN6_97 : N6 97 (D + 1) = iI (rest - F (ip * 6 + W (x : Int))) := by rw [uN6 97 (by omega)]; exact aN5_97
        have aN6_98 : N6 98 (D + 1) = iI ((((gone ||| 2 ^ x) : Nat) : Int)) := by rw [uN6 98 (by omega)]; exact aN5_98
        have aN6_99 : N6 99 (D + 1) = iI (((0 : Nat) : Int)) := by rw [uN6 99 (by omega)]; exact aN5_99
        clear hgN6 fN5 zN5 aN5_95 aN5_96 aN5_97 aN5_98 aN5_99
        refine r_aload_n hV dX12_choose_264 rfl rfl ?_
        refine r_getR hV dX12_choose_265 fl_X12_87 (by first | decide | omega) (by first | rfl | assumption) o44 ?_
        refine r_iload hV dX12_choose_268 rfl ?_
        refine r_aload_n hV dX12_choose_270 rfl rfl ?_
        refine r_getR hV dX12_choose_271 fl_X12_87 (by first | decide | omega) (by first | rfl | assumption) o44 ?_
        refine r_iload_n hV dX12_choose_274 rfl ?_
        refine s_iaload hV dX12_choose_275 (by first | decide | omega) (by first | rfl | assumption) (by decide) (by omega) (by omega) (show N6 103 ((D : Nat) : Int).toNat = iI (hb) from by rw [Int.toNat_natCast]; exact (fN6 103 D (by omega)).trans e103) ?_
        refine r_iload_n hV dX12_choose_276 rfl ?_
        refine s_iconst hV dX12_choose_277 (1) (by decide) ?_
        refine s_icmp_ne hV 295 dX12_choose_278 (by decide) (by unfold z_rg; first | omega | (split <;> omega)) (by unfold z_rg; first | omega | (split <;> omega)) (fun c278 => absurd c278 (by decide)) (fun _ => ?_)
        refine r_iload_n hV dX12_choose_281 rfl ?_
        refine s_if_le hV 295 dX12_choose_282 (by decide) (by unfold z_rg; first | omega | (split <;> omega)) (fun c282 => absurd c282 (by omega)) (fun _ => ?_)
        refine r_aload_n hV dX12_choose_285 rfl rfl ?_
        refine r_getR hV dX12_choose_286 fl_X12_23 (by first | decide | omega) (by first | rfl | assumption) o10 ?_
        refine r_iload hV dX12_choose_289 rfl ?_
        refine s_iaload hV dX12_choose_291 (by first | decide | omega) (by first | rfl | assumption) (by decide) (by omega) (by omega) ((congrFun (zN6 82 (by omega)) _).trans (zU (x : Int) (by omega) (by omega))) ?_
        refine r_goto hV 296 dX12_choose_292 (by decide) ?_
        refine s_iadd hV dX12_choose_296 ?_
        refine s_iastore hV dX12_choose_297 (by first | decide | omega) (by first | rfl | assumption) (by decide) (by omega) (by omega) ?_
        generalize hgN7 : zu N6 103 (zu (N6 103) ((D : Int) + 1).toNat (iI (hb + U (x : Int)))) = N7
        have uN7 : ∀ q, q ≠ 103 → N7 q = N6 q := fun q h => by rw [← hgN7, zu_n _ _ h]
        have aN7_103 : N7 103 (D + 1) = iI (hb + U (x : Int)) := by rw [← hgN7, zu_s, show ((D : Int) + 1).toNat = D + 1 by omega, zu_s]
        have fN7 : ∀ q i, i ≠ D + 1 → N7 q i = I q i := fun q i h => by
          by_cases hq : q = 103
          · rw [hq, ← hgN7, zu_s, show ((D : Int) + 1).toNat = D + 1 by omega, zu_n _ _ h]; exact fN6 103 i h
          · rw [uN7 q hq]; exact fN6 q i h
        have zN7 : ∀ q, (q < 95 ∨ 105 < q) → N7 q = I q := fun q h => (uN7 q (by omega)).trans (zN6 q h)
        have aN7_95 : N7 95 (D + 1) = iI (hp) := by rw [uN7 95 (by omega)]; exact aN6_95
        have aN7_96 : N7 96 (D + 1) = iI (W (x : Int)) := by rw [uN7 96 (by omega)]; exact aN6_96
        have aN7_97 : N7 97 (D + 1) = iI (rest - F (ip * 6 + W (x : Int))) := by rw [uN7 97 (by omega)]; exact aN6_97
        have aN7_98 : N7 98 (D + 1) = iI ((((gone ||| 2 ^ x) : Nat) : Int)) := by rw [uN7 98 (by omega)]; exact aN6_98
        have aN7_99 : N7 99 (D + 1) = iI (((0 : Nat) : Int)) := by rw [uN7 99 (by omega)]; exact aN6_99
        have aN7_102 : N7 102 (D + 1) = iI (ha) := by rw [uN7 102 (by omega)]; exact aN6_102
        clear hgN7 fN6 zN6 aN6_95 aN6_96 aN6_97 aN6_98 aN6_99 aN6_102
        refine r_aload_n hV dX12_choose_298 rfl rfl ?_
        refine r_getR hV dX12_choose_299 fl_X12_78 (by first | decide | omega) (by first | rfl | assumption) o41 ?_
        refine r_iload hV dX12_choose_302 rfl ?_
        refine r_aload_n hV dX12_choose_304 rfl rfl ?_
        refine r_getR hV dX12_choose_305 fl_X12_75 (by first | decide | omega) (by first | rfl | assumption) o40 ?_
        refine r_iload hV dX12_choose_308 rfl ?_
        refine s_iaload hV dX12_choose_310 (by first | decide | omega) (by first | rfl | assumption) (by decide) (by omega) (by omega) (show N7 99 ((D : Int) + 1).toNat = iI ((0 : Nat) : Int) from by rw [show ((D : Int) + 1).toNat = D + 1 by omega]; exact aN7_99) ?_
        refine s_iconst hV dX12_choose_311 (1) (by decide) ?_
        refine r_iload_n hV dX12_choose_312 rfl ?_
        refine s_isub hV dX12_choose_313 ?_
        rw [show (1 : Int) - 1 = ((0 : Nat) : Int) from rfl]
        refine q_is2v hV dX12_choose_314 ms_X12_180 (n_has N7 J P 0 0 (by decide) (by decide)) (by decide) (Nat.le_refl _) (Nat.le_of_ble_eq_true rfl) ?_
        refine s_if_eq hV 324 dX12_choose_317 (by decide) (by unfold z_rg; first | omega | (split <;> omega)) (fun _ => ?_) (fun c317 => absurd (by decide) c317)
        refine s_iconst hV dX12_choose_324 (1) (by decide) ?_
        refine r_iload_n hV dX12_choose_325 rfl ?_
        refine s_isub hV dX12_choose_326 ?_
        rw [show (1 : Int) - 1 = 0 from rfl]
        refine s_iastore hV dX12_choose_327 (by first | decide | omega) (by first | rfl | assumption) (by decide) (by omega) (by omega) ?_
        generalize hgN8 : zu N7 100 (zu (N7 100) ((D : Int) + 1).toNat (iI (0))) = N8
        have uN8 : ∀ q, q ≠ 100 → N8 q = N7 q := fun q h => by rw [← hgN8, zu_n _ _ h]
        have aN8_100 : N8 100 (D + 1) = iI (0) := by rw [← hgN8, zu_s, show ((D : Int) + 1).toNat = D + 1 by omega, zu_s]
        have fN8 : ∀ q i, i ≠ D + 1 → N8 q i = I q i := fun q i h => by
          by_cases hq : q = 100
          · rw [hq, ← hgN8, zu_s, show ((D : Int) + 1).toNat = D + 1 by omega, zu_n _ _ h]; exact fN7 100 i h
          · rw [uN8 q hq]; exact fN7 q i h
        have zN8 : ∀ q, (q < 95 ∨ 105 < q) → N8 q = I q := fun q h => (uN8 q (by omega)).trans (zN7 q h)
        have aN8_95 : N8 95 (D + 1) = iI (hp) := by rw [uN8 95 (by omega)]; exact aN7_95
        have aN8_96 : N8 96 (D + 1) = iI (W (x : Int)) := by rw [uN8 96 (by omega)]; exact aN7_96
        have aN8_97 : N8 97 (D + 1) = iI (rest - F (ip * 6 + W (x : Int))) := by rw [uN8 97 (by omega)]; exact aN7_97
        have aN8_98 : N8 98 (D + 1) = iI ((((gone ||| 2 ^ x) : Nat) : Int)) := by rw [uN8 98 (by omega)]; exact aN7_98
        have aN8_99 : N8 99 (D + 1) = iI (((0 : Nat) : Int)) := by rw [uN8 99 (by omega)]; exact aN7_99
        have aN8_102 : N8 102 (D + 1) = iI (ha) := by rw [uN8 102 (by omega)]; exact aN7_102
        have aN8_103 : N8 103 (D + 1) = iI (hb + U (x : Int)) := by rw [uN8 103 (by omega)]; exact aN7_103
        clear hgN8 fN7 zN7 aN7_95 aN7_96 aN7_97 aN7_98 aN7_99 aN7_102 aN7_103
        refine r_aload_n hV dX12_choose_328 rfl rfl ?_
        refine r_getR hV dX12_choose_329 fl_X12_81 (by first | decide | omega) (by first | rfl | assumption) o42 ?_
        refine r_iload hV dX12_choose_332 rfl ?_
        refine s_iconst hV dX12_choose_334 (0) (by decide) ?_
        refine s_iastore hV dX12_choose_335 (by first | decide | omega) (by first | rfl | assumption) (by decide) (by omega) (by omega) ?_
        generalize hgN9 : zu N8 101 (zu (N8 101) ((D : Int) + 1).toNat (iI (0))) = N9
        have uN9 : ∀ q, q ≠ 101 → N9 q = N8 q := fun q h => by rw [← hgN9, zu_n _ _ h]
        have aN9_101 : N9 101 (D + 1) = iI (0) := by rw [← hgN9, zu_s, show ((D : Int) + 1).toNat = D + 1 by omega, zu_s]
        have fN9 : ∀ q i, i ≠ D + 1 → N9 q i = I q i := fun q i h => by
          by_cases hq : q = 101
          · rw [hq, ← hgN9, zu_s, show ((D : Int) + 1).toNat = D + 1 by omega, zu_n _ _ h]; exact fN8 101 i h
          · rw [uN9 q hq]; exact fN8 q i h
        have zN9 : ∀ q, (q < 95 ∨ 105 < q) → N9 q = I q := fun q h => (uN9 q (by omega)).trans (zN8 q h)
        have aN9_95 : N9 95 (D + 1) = iI (hp) := by rw [uN9 95 (by omega)]; exact aN8_95
        have aN9_96 : N9 96 (D + 1) = iI (W (x : Int)) := by rw [uN9 96 (by omega)]; exact aN8_96
        have aN9_97 : N9 97 (D + 1) = iI (rest - F (ip * 6 + W (x : Int))) := by rw [uN9 97 (by omega)]; exact aN8_97
        have aN9_98 : N9 98 (D + 1) = iI ((((gone ||| 2 ^ x) : Nat) : Int)) := by rw [uN9 98 (by omega)]; exact aN8_98
        have aN9_99 : N9 99 (D + 1) = iI (((0 : Nat) : Int)) := by rw [uN9 99 (by omega)]; exact aN8_99
        have aN9_102 : N9 102 (D + 1) = iI (ha) := by rw [uN9 102 (by omega)]; exact aN8_102
        have aN9_103 : N9 103 (D + 1) = iI (hb + U (x : Int)) := by rw [uN9 103 (by omega)]; exact aN8_103
        have aN9_100 : N9 100 (D + 1) = iI (0) := by rw [uN9 100 (by omega)]; exact aN8_100
        clear hgN9 fN8 zN8 aN8_95 aN8_96 aN8_97 aN8_98 aN8_99 aN8_102 aN8_103 aN8_100
        refine r_aload_n hV dX12_choose_336 rfl rfl ?_
        refine r_getR hV dX12_choose_337 fl_X12_90 (by first | decide | omega) (by first | rfl | assumption) o45 ?_
        refine r_iload hV dX12_choose_340 rfl ?_
        refine s_bipush hV dX12_choose_342 (-9) (by decide) ?_
        refine s_iastore hV dX12_choose_344 (by first | decide | omega) (by first | rfl | assumption) (by decide) (by omega) (by omega) ?_
        generalize hgN10 : zu N9 104 (zu (N9 104) ((D : Int) + 1).toNat (iI (-9))) = N10
        have uN10 : ∀ q, q ≠ 104 → N10 q = N9 q := fun q h => by rw [← hgN10, zu_n _ _ h]
        have aN10_104 : N10 104 (D + 1) = iI (-9) := by rw [← hgN10, zu_s, show ((D : Int) + 1).toNat = D + 1 by omega, zu_s]
        have fN10 : ∀ q i, i ≠ D + 1 → N10 q i = I q i := fun q i h => by
          by_cases hq : q = 104
          · rw [hq, ← hgN10, zu_s, show ((D : Int) + 1).toNat = D + 1 by omega, zu_n _ _ h]; exact fN9 104 i h
          · rw [uN10 q hq]; exact fN9 q i h
        have zN10 : ∀ q, (q < 95 ∨ 105 < q) → N10 q = I q := fun q h => (uN10 q (by omega)).trans (zN9 q h)
        have aN10_95 : N10 95 (D + 1) = iI (hp) := by rw [uN10 95 (by omega)]; exact aN9_95
        have aN10_96 : N10 96 (D + 1) = iI (W (x : Int)) := by rw [uN10 96 (by omega)]; exact aN9_96
        have aN10_97 : N10 97 (D + 1) = iI (rest - F (ip * 6 + W (x : Int))) := by rw [uN10 97 (by omega)]; exact aN9_97
        have aN10_98 : N10 98 (D + 1) = iI ((((gone ||| 2 ^ x) : Nat) : Int)) := by rw [uN10 98 (by omega)]; exact aN9_98
        have aN10_99 : N10 99 (D + 1) = iI (((0 : Nat) : Int)) := by rw [uN10 99 (by omega)]; exact aN9_99
        have aN10_102 : N10 102 (D + 1) = iI (ha) := by rw [uN10 102 (by omega)]; exact aN9_102
        have aN10_103 : N10 103 (D + 1) = iI (hb + U (x : Int)) := by rw [uN10 103 (by omega)]; exact aN9_103
        have aN10_100 : N10 100 (D + 1) = iI (0) := by rw [uN10 100 (by omega)]; exact aN9_100
        have aN10_101 : N10 101 (D + 1) = iI (0) := by rw [uN10 101 (by omega)]; exact aN9_101
        clear hgN10 fN9 zN9 aN9_95 aN9_96 aN9_97 aN9_98 aN9_99 aN9_102 aN9_103 aN9_100 aN9_101
        refine r_aload_n hV dX12_choose_345 rfl rfl ?_
        refine r_getR hV dX12_choose_346 fl_X12_93 (by first | decide | omega) (by first | rfl | assumption) o46 ?_
        refine r_iload hV dX12_choose_349 rfl ?_
        refine s_bipush hV dX12_choose_351 (-9) (by decide) ?_
        refine s_iastore hV dX12_choose_353 (by first | decide | omega) (by first | rfl | assumption) (by decide) (by omega) (by omega) ?_
        generalize hgN11 : zu N10 105 (zu (N10 105) ((D : Int) + 1).toNat (iI (-9))) = N11
        have uN11 : ∀ q, q ≠ 105 → N11 q = N10 q := fun q h => by rw [← hgN11, zu_n _ _ h]
        have aN11_105 : N11 105 (D + 1) = iI (-9) := by rw [← hgN11, zu_s, show ((D : Int) + 1).toNat = D + 1 by omega, zu_s]
        have fN11 : ∀ q i, i ≠ D + 1 → N11 q i = I q i := fun q i h => by
          by_cases hq : q = 105
          · rw [hq, ← hgN11, zu_s, show ((D : Int) + 1).toNat = D + 1 by omega, zu_n _ _ h]; exact fN10 105 i h
          · rw [uN11 q hq]; exact fN10 q i h
        have zN11 : ∀ q, (q < 95 ∨ 105 < q) → N11 q = I q := fun q h => (uN11 q (by omega)).trans (zN10 q h)
        have aN11_95 : N11 95 (D + 1) = iI (hp) := by rw [uN11 95 (by omega)]; exact aN10_95
        have aN11_96 : N11 96 (D + 1) = iI (W (x : Int)) := by rw [uN11 96 (by omega)]; exact aN10_96
        have aN11_97 : N11 97 (D + 1) = iI (rest - F (ip * 6 + W (x : Int))) := by rw [uN11 97 (by omega)]; exact aN10_97
        have aN11_98 : N11 98 (D + 1) = iI ((((gone ||| 2 ^ x) : Nat) : Int)) := by rw [uN11 98 (by omega)]; exact aN10_98
        have aN11_99 : N11 99 (D + 1) = iI (((0 : Nat) : Int)) := by rw [uN11 99 (by omega)]; exact aN10_99
        have aN11_102 : N11 102 (D + 1) = iI (ha) := by rw [uN11 102 (by omega)]; exact aN10_102
        have aN11_103 : N11 103 (D + 1) = iI (hb + U (x : Int)) := by rw [uN11 103 (by omega)]; exact aN10_103
        have aN11_100 : N11 100 (D + 1) = iI (0) := by rw [uN11 100 (by omega)]; exact aN10_100
        have aN11_101 : N11 101 (D + 1) = iI (0) := by rw [uN11 101 (by omega)]; exact aN10_101
        have aN11_104 : N11 104 (D + 1) = iI (-9) := by rw [uN11 104 (by omega)]; exact aN10_104
        clear hgN11 fN10 zN10 aN10_95 aN10_96 aN10_97 aN10_98 aN10_99 aN10_102 aN10_103 aN10_100 aN10_101 aN10_104
        refine r_aload_n hV dX12_choose_354 rfl rfl ?_
        refine r_iload hV dX12_choose_355 rfl ?_
        rw [show (D : Int) + 1 = ((D + 1 : Nat) : Int) by omega]
        refine q_iv1v hV dX12_choose_357 mv_X12_241 (n_canBoth N11 J P hM n hnb F (z_ar_fr zF (zN11 80 (by omega))) hFd (D + 1) (by omega) (hp) (W (x : Int)) (rest - F (ip * 6 + W (x : Int))) aN11_95 aN11_96 aN11_97 (by omega) (by omega) (by omega)) (by first | decide | omega) (by first | rfl | assumption) (by decide) (Nat.le_refl _) (Nat.le_of_ble_eq_true rfl) ?_
        refine s_zret hV dX12_choose_360 rfl (by split <;> omega) rfl ?_
        refine ⟨?_, rfl, rfl, zN11, fN11, fun _ => ⟨⟨aN11_95, aN11_96, aN11_97, aN11_98, aN11_99, aN11_100, aN11_102, aN11_103⟩, aN11_101, aN11_104, aN11_105⟩⟩
        refine congrArg (fun z => some (Value.int (iI z))) ?_
        by_cases hk : F ((hp) * 6) + F ((W (x : Int)) * 6) ≤ rest - F (ip * 6 + W (x : Int))
        · rw [if_pos hk, if_pos ⟨⟨hg, hc, by omega⟩, hk⟩]
        · rw [if_neg hk, if_neg (fun hh => hk hh.2)]
      · refine s_iconst hV dX12_choose_84 (0) (by decide) ?_
        refine s_zret hV dX12_choose_85 rfl (by omega) rfl ?_
        refine ⟨?_, rfl, rfl, fun _ _ => rfl, fun _ _ _ => rfl, fun hh => ?_⟩
        · refine congrArg (fun z => some (Value.int (iI z))) ?_
          rw [if_neg (by first | exact fun hh => hh.1.1 hg | exact fun hh => hc hh.1.2.1 | (rw [hfe]; omega))]
        · first | exact absurd hg hh.1.1 | exact absurd hh.1.2.1 hc | (exfalso; rw [hfe] at hh; omega)

set_option maxRecDepth 20000 in
theorem n_ch11h (I : zI) (J : zJ) (P : zP) (hM : mK P) (n e : Nat) (hnb : 2 ≤ n ∧ n ≤ 6) (h8 : I 78 8 = iI (e : Int)) (he6 : e ≤ 6) (F W U K : Int → Int) (zF : z_ar I 80 36 (mF F)) (hFd : zD F) (zW : z_ar I 81 e W) (hWb : z_bd W e 0 (n - 1)) (zU : z_ar I 82 e U) (hUb : z_bd U 6 0 9) (zK : z_ar I 83 e K) (hKb : z_bd K 6 0 2) (D : Nat) (hD : D ≤ 7) (hp ip rest : Int) (gone : Nat) (hg64 : gone < 64) (ha hb : Int) (hFr : mFr I D hp ip rest gone 1 1 ha hb) (hhp : 0 ≤ hp ∧ hp < n) (hip : 0 ≤ ip ∧ ip < n) (hrest : -50000 ≤ rest ∧ rest ≤ 90000) (hcost : F (ip * 6) < 1000000) : z_Sp 2 yX12_choose cX12_choose 8 (some .boolean) 108 108 I J P [.ref 78, .int (iI (D : Int)), .int (iI 0)] (q_ch I J P D (F ((hp) * 6) + F ((0) * 6) ≤ rest - F (ip * 6)) (hp) (0) (rest - F (ip * 6)) gone 3 1 (ha) (hb)) := by
  obtain ⟨o1, o7, o9, o10, o11, o16, o17, o18, o19, o20, o25, o26, o28, o29, o30, o31, o36, o37, o38, o39, o40, o41, o42, o43, o44, o45, o46, o47, o48⟩ := id hM
  obtain ⟨e95, e96, e97, e98, e99, e100, e102, e103⟩ := id hFr
  have hfx := hFd (6 * ip + 0) (by omega) (by omega)
  rw [show 6 * ip + 0 = ip * 6 by omega] at hfx
  have hmv : mF F (6 * ip + 0) = F (ip * 6) := by
    unfold mF
    rw [show 6 * ip + 0 = ip * 6 by omega, if_pos hcost]
  refine z_met false (by decide +kernel) (fun h => by cases h) (Nat.le_of_ble_eq_true rfl) (by first | decide | omega) (fun V hV => ?_)
  show V 108 I J P 0 [.ref 78, .int (iI (D : Int)), .int (iI 0), .null, .null, .null, .null, .null] []
  refine r_aload_n hV dX12_choose_0 rfl rfl ?_
  refine r_getR hV dX12_choose_1 fl_X12_78 (by first | decide | omega) (by first | rfl | assumption) o41 ?_
  refine r_iload_n hV dX12_choose_4 rfl ?_
  refine s_iaload hV dX12_choose_5 (by first | decide | omega) (by first | rfl | assumption) (by decide) (by omega) (by omega) (show I 100 ((D : Nat) : Int).toNat = iI (1) from by rw [Int.toNat_natCast]; exact e100) ?_
  refine r_istore_n hV dX12_choose_6 (Nat.le_of_ble_eq_true rfl) (z_st1_8_3 rfl) ?_
  refine r_iload_n hV dX12_choose_7 rfl ?_
  refine s_if_ne hV 20 dX12_choose_8 (by decide) (by unfold z_rg; first | omega | (split <;> omega)) (fun _ => ?_) (fun c8 => absurd c8 (by decide))
  refine r_aload_n hV dX12_choose_20 rfl rfl ?_
  refine r_getR hV dX12_choose_21 fl_X12_66 (by first | decide | omega) (by first | rfl | assumption) o37 ?_
  refine r_iload_n hV dX12_choose_24 rfl ?_
  refine s_iaload hV dX12_choose_25 (by first | decide | omega) (by first | rfl | assumption) (by decide) (by omega) (by omega) (show I 96 ((D : Nat) : Int).toNat = iI (ip) from by rw [Int.toNat_natCast]; exact e96) ?_
  refine r_istore hV dX12_choose_26 (Nat.le_of_ble_eq_true rfl) (z_st1_8_4 rfl) ?_
  refine r_iload_n hV dX12_choose_28 rfl ?_
  refine s_iconst hV dX12_choose_29 (1) (by decide) ?_
  refine s_isub hV dX12_choose_30 ?_
  refine r_istore hV dX12_choose_31 (Nat.le_of_ble_eq_true rfl) (z_st1_8_5 rfl) ?_
  refine r_iload_n hV dX12_choose_33 rfl ?_
  refine s_if_le hV 86 dX12_choose_34 (by decide) (by unfold z_rg; first | omega | (split <;> omega)) (fun _ => ?_) (fun c34 => absurd (by omega) c34)
  refine r_iload_n hV dX12_choose_86 rfl ?_
  refine s_if_ne hV 94 dX12_choose_87 (by decide) (by unfold z_rg; first | omega | (split <;> omega)) (fun c87 => absurd c87 (by omega)) (fun _ => ?_)
  refine s_iconst hV dX12_choose_90 (0) (by decide) ?_
  refine r_goto hV 101 dX12_choose_91 (by decide) ?_
  refine r_istore hV dX12_choose_101 (Nat.le_of_ble_eq_true rfl) (z_st1_8_6 rfl) ?_
  refine r_iload_n hV dX12_choose_103 rfl ?_
  refine s_iconst hV dX12_choose_104 (1) (by decide) ?_
  refine s_iadd hV dX12_choose_105 ?_
  refine r_istore hV dX12_choose_106 (Nat.le_of_ble_eq_true rfl) (z_st1_8_7 rfl) ?_
  refine r_aload_n hV dX12_choose_108 rfl rfl ?_
  refine r_getR hV dX12_choose_109 fl_X12_63 (by first | decide | omega) (by first | rfl | assumption) o36 ?_
  refine r_iload hV dX12_choose_112 rfl ?_
  refine r_iload_n hV dX12_choose_114 rfl ?_
  refine s_if_ne hV 123 dX12_choose_115 (by decide) (by unfold z_rg; first | omega | (split <;> omega)) (fun _ => ?_) (fun c115 => absurd c115 (by decide))
  refine r_aload_n hV dX12_choose_123 rfl rfl ?_
  refine r_getR hV dX12_choose_124 fl_X12_63 (by first | decide | omega) (by first | rfl | assumption) o36 ?_
  refine r_iload_n hV dX12_choose_127 rfl ?_
  refine s_iaload hV dX12_choose_128 (by first | decide | omega) (by first | rfl | assumption) (by decide) (by omega) (by omega) (show I 95 ((D : Nat) : Int).toNat = iI (hp) from by rw [Int.toNat_natCast]; exact e95) ?_
  refine s_iastore hV dX12_choose_129 (by first | decide | omega) (by first | rfl | assumption) (by decide) (by omega) (by omega) ?_
  generalize hgN1 : zu I 95 (zu (I 95) ((D : Int) + 1).toNat (iI (hp))) = N1
  have uN1 : ∀ q, q ≠ 95 → N1 q = I q := fun q h => by rw [← hgN1, zu_n _ _ h]
  have aN1_95 : N1 95 (D + 1) = iI (hp) := by rw [← hgN1, zu_s, show ((D : Int) + 1).toNat = D + 1 by omega, zu_s]
  have fN1 : ∀ q i, i ≠ D + 1 → N1 q i = I q i := fun q i h => by
    by_cases hq : q = 95
    · rw [hq, ← hgN1, zu_s, show ((D : Int) + 1).toNat = D + 1 by omega, zu_n _ _ h]
    · rw [uN1 q hq]
  have zN1 : ∀ q, (q < 95 ∨ 105 < q) → N1 q = I q := fun q h => uN1 q (by omega)
  clear hgN1
  refine r_aload_n hV dX12_choose_130 rfl rfl ?_
  refine r_getR hV dX12_choose_131 fl_X12_66 (by first | decide | omega) (by first | rfl | assumption) o37 ?_
  refine r_iload hV dX12_choose_134 rfl ?_
  refine r_iload_n hV dX12_choose_136 rfl ?_
  refine s_iconst hV dX12_choose_137 (1) (by decide) ?_
  refine s_icmp_ne hV 146 dX12_choose_138 (by decide) (by unfold z_rg; first | omega | (split <;> omega)) (by unfold z_rg; first | omega | (split <;> omega)) (fun c138 => absurd c138 (by decide)) (fun _ => ?_)
  refine r_iload hV dX12_choose_141 rfl ?_
  refine r_goto hV 152 dX12_choose_143 (by decide) ?_
  refine s_iastore hV dX12_choose_152 (by first | decide | omega) (by first | rfl | assumption) (by decide) (by omega) (by omega) ?_
  generalize hgN2 : zu N1 96 (zu (N1 96) ((D : Int) + 1).toNat (iI (0))) = N2
  have uN2 : ∀ q, q ≠ 96 → N2 q = N1 q := fun q h => by rw [← hgN2, zu_n _ _ h]
  have aN2_96 : N2 96 (D + 1) = iI (0) := by rw [← hgN2, zu_s, show ((D : Int) + 1).toNat = D + 1 by omega, zu_s]
  have fN2 : ∀ q i, i ≠ D + 1 → N2 q i = I q i := fun q i h => by
    by_cases hq : q = 96
    · rw [hq, ← hgN2, zu_s, show ((D : Int) + 1).toNat = D + 1 by omega, zu_n _ _ h]; exact fN1 96 i h
    · rw [uN2 q hq]; exact fN1 q i h
  have zN2 : ∀ q, (q < 95 ∨ 105 < q) → N2 q = I q := fun q h => (uN2 q (by omega)).trans (zN1 q h)
  have aN2_95 : N2 95 (D + 1) = iI (hp) := by rw [uN2 95 (by omega)]; exact aN1_95
  clear hgN2 fN1 zN1 aN1_95
  refine r_aload_n hV dX12_choose_153 rfl rfl ?_
  refine r_getR hV dX12_choose_154 fl_X12_69 (by first | decide | omega) (by first | rfl | assumption) o38 ?_
  refine r_iload hV dX12_choose_157 rfl ?_
  refine r_aload_n hV dX12_choose_159 rfl rfl ?_
  refine r_getR hV dX12_choose_160 fl_X12_69 (by first | decide | omega) (by first | rfl | assumption) o38 ?_
  refine r_iload_n hV dX12_choose_163 rfl ?_
  refine s_iaload hV dX12_choose_164 (by first | decide | omega) (by first | rfl | assumption) (by decide) (by omega) (by omega) (show N2 97 ((D : Nat) : Int).toNat = iI (rest) from by rw [Int.toNat_natCast]; exact (fN2 97 D (by omega)).trans e97) ?_
  refine r_aload_n hV dX12_choose_165 rfl rfl ?_
  refine r_getR hV dX12_choose_166 fl_X12_17 (by first | decide | omega) (by first | rfl | assumption) o7 ?_
  refine s_bipush hV dX12_choose_169 (6) (by decide) ?_
  refine r_iload hV dX12_choose_171 rfl ?_
  refine s_imul hV dX12_choose_173 ?_
  refine r_iload hV dX12_choose_174 rfl ?_
  refine s_iadd hV dX12_choose_176 ?_
  refine s_iaload hV dX12_choose_177 (by first | decide | omega) (by first | rfl | assumption) (by decide) (by omega) (by omega) (show N2 80 (6 * ip + 0).toNat = iI (F (ip * 6)) from (congrFun (zN2 80 (by omega)) _).trans ((zF (6 * ip + 0) (by omega) (by omega)).trans (congrArg iI hmv))) ?_
  refine s_isub hV dX12_choose_178 ?_
  refine s_iastore hV dX12_choose_179 (by first | decide | omega) (by first | rfl | assumption) (by decide) (by omega) (by omega) ?_
  generalize hgN3 : zu N2 97 (zu (N2 97) ((D : Int) + 1).toNat (iI (rest - F (ip * 6)))) = N3
  have uN3 : ∀ q, q ≠ 97 → N3 q = N2 q := fun q h => by rw [← hgN3, zu_n _ _ h]
  have aN3_97 : N3 97 (D + 1) = iI (rest - F (ip * 6)) := by rw [← hgN3, zu_s, show ((D : Int) + 1).toNat = D + 1 by omega, zu_s]
  have fN3 : ∀ q i, i ≠ D + 1 → N3 q i = I q i := fun q i h => by
    by_cases hq : q = 97
    · rw [hq, ← hgN3, zu_s, show ((D : Int) + 1).toNat = D + 1 by omega, zu_n _ _ h]; exact fN2 97 i h
    · rw [uN3 q hq]; exact fN2 q i h
  have zN3 : ∀ q, (q < 95 ∨ 105 < q) → N3 q = I q := fun q h => (uN3 q (by omega)).trans (zN2 q h)
  have aN3_95 : N3 95 (D + 1) = iI (hp) := by rw [uN3 95 (by omega)]; exact aN2_95
  have aN3_96 : N3 96 (D + 1) = iI (0) := by rw [uN3 96 (by omega)]; exact aN2_96
  clear hgN3 fN2 zN2 aN2_95 aN2_96
  refine r_aload_n hV dX12_choose_180 rfl rfl ?_
  refine r_getR hV dX12_choose_181 fl_X12_72 (by first | decide | omega) (by first | rfl | assumption) o39 ?_
  refine r_iload hV dX12_choose_184 rfl ?_
  refine r_aload_n hV dX12_choose_186 rfl rfl ?_
  refine r_getR hV dX12_choose_187 fl_X12_72 (by first | decide | omega) (by first | rfl | assumption) o39 ?_
  refine r_iload_n hV dX12_choose_190 rfl ?_
  refine s_iaload hV dX12_choose_191 (by first | decide | omega) (by first | rfl | assumption) (by decide) (by omega) (by omega) (show N3 98 ((D : Nat) : Int).toNat = iI (((gone : Nat) : Int)) from by rw [Int.toNat_natCast]; exact (fN3 98 D (by omega)).trans e98) ?_
  refine r_iload_n hV dX12_choose_192 rfl ?_
  refine s_if_le hV 203 dX12_choose_193 (by decide) (by unfold z_rg; first | omega | (split <;> omega)) (fun _ => ?_) (fun c193 => absurd (by omega) c193)
  refine s_iconst hV dX12_choose_203 (0) (by decide) ?_
  refine s_ior hV dX12_choose_204 (show iI ((gone : Nat) : Int) ||| iI 0 = iI ((gone : Nat) : Int) from by have h0 := zb_or (b := 0) hg64 (by omega); rw [Nat.or_zero] at h0; exact h0) ?_
  refine s_iastore hV dX12_choose_205 (by first | decide | omega) (by first | rfl | assumption) (by decide) (by omega) (by omega) ?_
  generalize hgN4 : zu N3 98 (zu (N3 98) ((D : Int) + 1).toNat (iI (((gone : Nat) : Int)))) = N4
  have uN4 : ∀ q, q ≠ 98 → N4 q = N3 q := fun q h => by rw [← hgN4, zu_n _ _ h]
  have aN4_98 : N4 98 (D + 1) = iI (((gone : Nat) : Int)) := by rw [← hgN4, zu_s, show ((D : Int) + 1).toNat = D + 1 by omega, zu_s]
  have fN4 : ∀ q i, i ≠ D + 1 → N4 q i = I q i := fun q i h => by
    by_cases hq : q = 98
    · rw [hq, ← hgN4, zu_s, show ((D : Int) + 1).toNat = D + 1 by omega, zu_n _ _ h]; exact fN3 98 i h
    · rw [uN4 q hq]; exact fN3 q i h
  have zN4 : ∀ q, (q < 95 ∨ 105 < q) → N4 q = I q := fun q h => (uN4 q (by omega)).trans (zN3 q h)
  have aN4_95 : N4 95 (D + 1) = iI (hp) := by rw [uN4 95 (by omega)]; exact aN3_95
  have aN4_96 : N4 96 (D + 1) = iI (0) := by rw [uN4 96 (by omega)]; exact aN3_96
  have aN4_97 : N4 97 (D + 1) = iI (rest - F (ip * 6)) := by rw [uN4 97 (by omega)]; exact aN3_97
  clear hgN4 fN3 zN3 aN3_95 aN3_96 aN3_97
  refine r_aload_n hV dX12_choose_206 rfl rfl ?_
  refine r_getR hV dX12_choose_207 fl_X12_75 (by first | decide | omega) (by first | rfl | assumption) o40 ?_
  refine r_iload hV dX12_choose_210 rfl ?_
  refine r_aload_n hV dX12_choose_212 rfl rfl ?_
  refine r_getR hV dX12_choose_213 fl_X12_75 (by first | decide | omega) (by first | rfl | assumption) o40 ?_
  refine r_iload_n hV dX12_choose_216 rfl ?_
  refine s_iaload hV dX12_choose_217 (by first | decide | omega) (by first | rfl | assumption) (by decide) (by omega) (by omega) (show N4 99 ((D : Nat) : Int).toNat = iI (((1 : Nat) : Int)) from by rw [Int.toNat_natCast]; exact (fN4 99 D (by omega)).trans e99) ?_
  refine r_iload_n hV dX12_choose_218 rfl ?_
  refine s_if_ne hV 228 dX12_choose_219 (by decide) (by unfold z_rg; first | omega | (split <;> omega)) (fun c219 => absurd c219 (by omega)) (fun _ => ?_)
  refine s_iconst hV dX12_choose_222 (1) (by decide) ?_
  refine r_iload_n hV dX12_choose_223 rfl ?_
  refine s_ishl hV dX12_choose_224 (show iI 1 <<< (iI 1 &&& 31) = iI 2 from by decide) ?_
  refine r_goto hV 229 dX12_choose_225 (by decide) ?_
  refine s_ior hV dX12_choose_229 (show iI ((1 : Nat) : Int) ||| iI 2 = iI ((3 : Nat) : Int) from by decide) ?_
  refine s_iastore hV dX12_choose_230 (by first | decide | omega) (by first | rfl | assumption) (by decide) (by omega) (by omega) ?_
  generalize hgN5 : zu N4 99 (zu (N4 99) ((D : Int) + 1).toNat (iI (((3 : Nat) : Int)))) = N5
  have uN5 : ∀ q, q ≠ 99 → N5 q = N4 q := fun q h => by rw [← hgN5, zu_n _ _ h]
  have aN5_99 : N5 99 (D + 1) = iI (((3 : Nat) : Int)) := by rw [← hgN5, zu_s, show ((D : Int) + 1).toNat = D + 1 by omega, zu_s]
  have fN5 : ∀ q i, i ≠ D + 1 → N5 q i = I q i := fun q i h => by
    by_cases hq : q = 99
    · rw [hq, ← hgN5, zu_s, show ((D : Int) + 1).toNat = D + 1 by omega, zu_n _ _ h]; exact fN4 99 i h
    · rw [uN5 q hq]; exact fN4 q i h
  have zN5 : ∀ q, (q < 95 ∨ 105 < q) → N5 q = I q := fun q h => (uN5 q (by omega)).trans (zN4 q h)
  have aN5_95 : N5 95 (D + 1) = iI (hp) := by rw [uN5 95 (by omega)]; exact aN4_95
  have aN5_96 : N5 96 (D + 1) = iI (0) := by rw [uN5 96 (by omega)]; exact aN4_96
  have aN5_97 : N5 97 (D + 1) = iI (rest - F (ip * 6)) := by rw [uN5 97 (by omega)]; exact aN4_97
  have aN5_98 : N5 98 (D + 1) = iI (((gone : Nat) : Int)) := by rw [uN5 98 (by omega)]; exact aN4_98
  clear hgN5 fN4 zN4 aN4_95 aN4_96 aN4_97 aN4_98
  refine r_aload_n hV dX12_choose_231 rfl rfl ?_
  refine r_getR hV dX12_choose_232 fl_X12_84 (by first | decide | omega) (by first | rfl | assumption) o43 ?_
  refine r_iload hV dX12_choose_235 rfl ?_
  refine r_aload_n hV dX12_choose_237 rfl rfl ?_
  refine r_getR hV dX12_choose_238 fl_X12_84 (by first | decide | omega) (by first | rfl | assumption) o43 ?_
  refine r_iload_n hV dX12_choose_241 rfl ?_
  refine s_iaload hV dX12_choose_242 (by first | decide | omega) (by first | rfl | assumption) (by decide) (by omega) (by omega) (show N5 102 ((D : Nat) : Int).toNat = iI (ha) from by rw [Int.toNat_natCast]; exact (fN5 102 D (by omega)).trans e102) ?_
  refine r_iload_n hV dX12_choose_243 rfl ?_
  refine s_if_ne hV 261 dX12_choose_244 (by decide) (by unfold z_rg; first | omega | (split <;> omega)) (fun _ => ?_) (fun c244 => absurd c244 (by decide))
  refine s_iconst hV dX12_choose_261 (0) (by decide) ?_
  refine s_iadd hV dX12_choose_262 ?_
  rw [Int.add_zero]
  refine s_iastore hV dX12_choose_263 (by first | decide | omega) (by first | rfl | assumption) (by decide) (by omega) (by omega) ?_
  generalize hgN6 : zu N5 102 (zu (N5 102) ((D : Int) + 1).toNat (iI (ha))) = N6
  have uN6 : ∀ q, q ≠ 102 → N6 q = N5 q := fun q h => by rw [← hgN6, zu_n _ _ h]
  have aN6_102 : N6 102 (D + 1) = iI (ha) := by rw [← hgN6, zu_s, show ((D : Int) + 1).toNat = D + 1 by omega, zu_s]
  have fN6 : ∀ q i, i ≠ D + 1 → N6 q i = I q i := fun q i h => by
    by_cases hq : q = 102
    · rw [hq, ← hgN6, zu_s, show ((D : Int) + 1).toNat = D + 1 by omega, zu_n _ _ h]; exact fN5 102 i h
    · rw [uN6 q hq]; exact fN5 q i h
  have zN6 : ∀ q, (q < 95 ∨ 105 < q) → N6 q = I q := fun q h => (uN6 q (by omega)).trans (zN5 q h)
  have aN6_95 : N6 95 (D + 1) = iI (hp) := by rw [uN6 95 (by omega)]; exact aN5_95
  have aN6_96 : N6 96 (D + 1) = iI (0) := by rw [uN6 96 (by omega)]; exact aN5_96
  have aN6_97 : N6 97 (D + 1) = iI (rest - F (ip * 6)) := by rw [uN6 97 (by omega)]; exact aN5_97
  have aN6_98 : N6 98 (D + 1) = iI (((gone : Nat) : Int)) := by rw [uN6 98 (by omega)]; exact aN5_98
  have aN6_99 : N6 99 (D + 1) = iI (((3 : Nat) : Int)) := by rw [uN6 99 (by omega)]; exact aN5_99
  clear hgN6 fN5 zN5 aN5_95 aN5_96 aN5_97 aN5_98 aN5_99
  refine r_aload_n hV dX12_choose_264 rfl rfl ?_
  refine r_getR hV dX12_choose_265 fl_X12_87 (by first | decide | omega) (by first | rfl | assumption) o44 ?_
  refine r_iload hV dX12_choose_268 rfl ?_
  refine r_aload_n hV dX12_choose_270 rfl rfl ?_
  refine r_getR hV dX12_choose_271 fl_X12_87 (by first | decide | omega) (by first | rfl | assumption) o44 ?_
  refine r_iload_n hV dX12_choose_274 rfl ?_
  refine s_iaload hV dX12_choose_275 (by first | decide | omega) (by first | rfl | assumption) (by decide) (by omega) (by omega) (show N6 103 ((D : Nat) : Int).toNat = iI (hb) from by rw [Int.toNat_natCast]; exact (fN6 103 D (by omega)).trans e103) ?_
  refine r_iload_n hV dX12_choose_276 rfl ?_
  refine s_iconst hV dX12_choose_277 (1) (by decide) ?_
  refine s_icmp_ne hV 295 dX12_choose_278 (by decide) (by unfold z_rg; first | omega | (split <;> omega)) (by unfold z_rg; first | omega | (split <;> omega)) (fun c278 => absurd c278 (by decide)) (fun _ => ?_)
  refine r_iload_n hV dX12_choose_281 rfl ?_
  refine s_if_le hV 295 dX12_choose_282 (by decide) (by unfold z_rg; first | omega | (split <;> omega)) (fun _ => ?_) (fun c282 => absurd (by omega) c282)
  refine s_iconst hV dX12_choose_295 (0) (by decide) ?_
  refine s_iadd hV dX12_choose_296 ?_
  rw [Int.add_zero]
  refine s_iastore hV dX12_choose_297 (by first | decide | omega) (by first | rfl | assumption) (by decide) (by omega) (by omega) ?_
  generalize hgN7 : zu N6 103 (zu (N6 103) ((D : Int) + 1).toNat (iI (hb))) = N7
  have uN7 : ∀ q, q ≠ 103 → N7 q = N6 q := fun q h => by rw [← hgN7, zu_n _ _ h]
  have aN7_103 : N7 103 (D + 1) = iI (hb) := by rw [← hgN7, zu_s, show ((D : Int) + 1).toNat = D + 1 by omega, zu_s]
  have fN7 : ∀ q i, i ≠ D + 1 → N7 q i = I q i := fun q i h => by
    by_cases hq : q = 103
    · rw [hq, ← hgN7, zu_s, show ((D : Int) + 1).toNat = D + 1 by omega, zu_n _ _ h]; exact fN6 103 i h
    · rw [uN7 q hq]; exact fN6 q i h
  have zN7 : ∀ q, (q < 95 ∨ 105 < q) → N7 q = I q := fun q h => (uN7 q (by omega)).trans (zN6 q h)
  have aN7_95 : N7 95 (D + 1) = iI (hp) := by rw [uN7 95 (by omega)]; exact aN6_95
  have aN7_96 : N7 96 (D + 1) = iI (0) := by rw [uN7 96 (by omega)]; exact aN6_96
  have aN7_97 : N7 97 (D + 1) = iI (rest - F (ip * 6)) := by rw [uN7 97 (by omega)]; exact aN6_97
  have aN7_98 : N7 98 (D + 1) = iI (((gone : Nat) : Int)) := by rw [uN7 98 (by omega)]; exact aN6_98
  have aN7_99 : N7 99 (D + 1) = iI (((3 : Nat) : Int)) := by rw [uN7 99 (by omega)]; exact aN6_99
  have aN7_102 : N7 102 (D + 1) = iI (ha) := by rw [uN7 102 (by omega)]; exact aN6_102
  clear hgN7 fN6 zN6 aN6_95 aN6_96 aN6_97 aN6_98 aN6_99 aN6_102
  refine r_aload_n hV dX12_choose_298 rfl rfl ?_
  refine r_getR hV dX12_choose_299 fl_X12_78 (by first | decide | omega) (by first | rfl | assumption) o41 ?_
  refine r_iload hV dX12_choose_302 rfl ?_
  refine r_aload_n hV dX12_choose_304 rfl rfl ?_
  refine r_getR hV dX12_choose_305 fl_X12_75 (by first | decide | omega) (by first | rfl | assumption) o40 ?_
  refine r_iload hV dX12_choose_308 rfl ?_
  refine s_iaload hV dX12_choose_310 (by first | decide | omega) (by first | rfl | assumption) (by decide) (by omega) (by omega) (show N7 99 ((D : Int) + 1).toNat = iI ((3 : Nat) : Int) from by rw [show ((D : Int) + 1).toNat = D + 1 by omega]; exact aN7_99) ?_
  refine s_iconst hV dX12_choose_311 (1) (by decide) ?_
  refine r_iload_n hV dX12_choose_312 rfl ?_
  refine s_isub hV dX12_choose_313 ?_
  rw [show (1 : Int) - 1 = ((0 : Nat) : Int) from rfl]
  refine q_is2v hV dX12_choose_314 ms_X12_180 (n_has N7 J P 3 0 (by decide) (by decide)) (by decide) (Nat.le_refl _) (Nat.le_of_ble_eq_true rfl) ?_
  refine s_if_eq hV 324 dX12_choose_317 (by decide) (by unfold z_rg; first | omega | (split <;> omega)) (fun c317 => absurd c317 (by decide)) (fun _ => ?_)
  refine r_iload_n hV dX12_choose_320 rfl ?_
  refine r_goto hV 327 dX12_choose_321 (by decide) ?_
  refine s_iastore hV dX12_choose_327 (by first | decide | omega) (by first | rfl | assumption) (by decide) (by omega) (by omega) ?_
  generalize hgN8 : zu N7 100 (zu (N7 100) ((D : Int) + 1).toNat (iI (1))) = N8
  have uN8 : ∀ q, q ≠ 100 → N8 q = N7 q := fun q h => by rw [← hgN8, zu_n _ _ h]
  have aN8_100 : N8 100 (D + 1) = iI (1) := by rw [← hgN8, zu_s, show ((D : Int) + 1).toNat = D + 1 by omega, zu_s]
  have fN8 : ∀ q i, i ≠ D + 1 → N8 q i = I q i := fun q i h => by
    by_cases hq : q = 100
    · rw [hq, ← hgN8, zu_s, show ((D : Int) + 1).toNat = D + 1 by omega, zu_n _ _ h]; exact fN7 100 i h
    · rw [uN8 q hq]; exact fN7 q i h
  have zN8 : ∀ q, (q < 95 ∨ 105 < q) → N8 q = I q := fun q h => (uN8 q (by omega)).trans (zN7 q h)
  have aN8_95 : N8 95 (D + 1) = iI (hp) := by rw [uN8 95 (by omega)]; exact aN7_95
  have aN8_96 : N8 96 (D + 1) = iI (0) := by rw [uN8 96 (by omega)]; exact aN7_96
  have aN8_97 : N8 97 (D + 1) = iI (rest - F (ip * 6)) := by rw [uN8 97 (by omega)]; exact aN7_97
  have aN8_98 : N8 98 (D + 1) = iI (((gone : Nat) : Int)) := by rw [uN8 98 (by omega)]; exact aN7_98
  have aN8_99 : N8 99 (D + 1) = iI (((3 : Nat) : Int)) := by rw [uN8 99 (by omega)]; exact aN7_99
  have aN8_102 : N8 102 (D + 1) = iI (ha) := by rw [uN8 102 (by omega)]; exact aN7_102
  have aN8_103 : N8 103 (D + 1) = iI (hb) := by rw [uN8 103 (by omega)]; exact aN7_103
  clear hgN8 fN7 zN7 aN7_95 aN7_96 aN7_97 aN7_98 aN7_99 aN7_102 aN7_103
  refine r_aload_n hV dX12_choose_328 rfl rfl ?_
  refine r_getR hV dX12_choose_329 fl_X12_81 (by first | decide | omega) (by first | rfl | assumption) o42 ?_
  refine r_iload hV dX12_choose_332 rfl ?_
  refine s_iconst hV dX12_choose_334 (0) (by decide) ?_
  refine s_iastore hV dX12_choose_335 (by first | decide | omega) (by first | rfl | assumption) (by decide) (by omega) (by omega) ?_
  generalize hgN9 : zu N8 101 (zu (N8 101) ((D : Int) + 1).toNat (iI (0))) = N9
  have uN9 : ∀ q, q ≠ 101 → N9 q = N8 q := fun q h => by rw [← hgN9, zu_n _ _ h]
  have aN9_101 : N9 101 (D + 1) = iI (0) := by rw [← hgN9, zu_s, show ((D : Int) + 1).toNat = D + 1 by omega, zu_s]
  have fN9 : ∀ q i, i ≠ D + 1 → N9 q i = I q i := fun q i h => by
    by_cases hq : q = 101
    · rw [hq, ← hgN9, zu_s, show ((D : Int) + 1).toNat = D + 1 by omega, zu_n _ _ h]; exact fN8 101 i h
    · rw [uN9 q hq]; exact fN8 q i h
  have zN9 : ∀ q, (q < 95 ∨ 105 < q) → N9 q = I q := fun q h => (uN9 q (by omega)).trans (zN8 q h)
  have aN9_95 : N9 95 (D + 1) = iI (hp) := by rw [uN9 95 (by omega)]; exact aN8_95
  have aN9_96 : N9 96 (D + 1) = iI (0) := by rw [uN9 96 (by omega)]; exact aN8_96
  have aN9_97 : N9 97 (D + 1) = iI (rest - F (ip * 6)) := by rw [uN9 97 (by omega)]; exact aN8_97
  have aN9_98 : N9 98 (D + 1) = iI (((gone : Nat) : Int)) := by rw [uN9 98 (by omega)]; exact aN8_98
  have aN9_99 : N9 99 (D + 1) = iI (((3 : Nat) : Int)) := by rw [uN9 99 (by omega)]; exact aN8_99
  have aN9_102 : N9 102 (D + 1) = iI (ha) := by rw [uN9 102 (by omega)]; exact aN8_102
  have aN9_103 : N9 103 (D + 1) = iI (hb) := by rw [uN9 103 (by omega)]; exact aN8_103
  have aN9_100 : N9 100 (D + 1) = iI (1) := by rw [uN9 100 (by omega)]; exact aN8_100
  clear hgN9 fN8 zN8 aN8_95 aN8_96 aN8_97 aN8_98 aN8_99 aN8_102 aN8_103 aN8_100
  refine r_aload_n hV dX12_choose_336 rfl rfl ?_
  refine r_getR hV dX12_choose_337 fl_X12_90 (by first | decide | omega) (by first | rfl | assumption) o45 ?_
  refine r_iload hV dX12_choose_340 rfl ?_
  refine s_bipush hV dX12_choose_342 (-9) (by decide) ?_
  refine s_iastore hV dX12_choose_344 (by first | decide | omega) (by first | rfl | assumption) (by decide) (by omega) (by omega) ?_
  generalize hgN10 : zu N9 104 (zu (N9 104) ((D : Int) + 1).toNat (iI (-9))) = N10
  have uN10 : ∀ q, q ≠ 104 → N10 q = N9 q := fun q h => by rw [← hgN10, zu_n _ _ h]
  have aN10_104 : N10 104 (D + 1) = iI (-9) := by rw [← hgN10, zu_s, show ((D : Int) + 1).toNat = D + 1 by omega, zu_s]
  have fN10 : ∀ q i, i ≠ D + 1 → N10 q i = I q i := fun q i h => by
    by_cases hq : q = 104
    · rw [hq, ← hgN10, zu_s, show ((D : Int) + 1).toNat = D + 1 by omega, zu_n _ _ h]; exact fN9 104 i h
    · rw [uN10 q hq]; exact fN9 q i h
  have zN10 : ∀ q, (q < 95 ∨ 105 < q) → N10 q = I q := fun q h => (uN10 q (by omega)).trans (zN9 q h)
  have aN10_95 : N10 95 (D + 1) = iI (hp) := by rw [uN10 95 (by omega)]; exact aN9_95
  have aN10_96 : N10 96 (D + 1) = iI (0) := by rw [uN10 96 (by omega)]; exact aN9_96
  have aN10_97 : N10 97 (D + 1) = iI (rest - F (ip * 6)) := by rw [uN10 97 (by omega)]; exact aN9_97
  have aN10_98 : N10 98 (D + 1) = iI (((gone : Nat) : Int)) := by rw [uN10 98 (by omega)]; exact aN9_98
  have aN10_99 : N10 99 (D + 1) = iI (((3 : Nat) : Int)) := by rw [uN10 99 (by omega)]; exact aN9_99
  have aN10_102 : N10 102 (D + 1) = iI (ha) := by rw [uN10 102 (by omega)]; exact aN9_102
  have aN10_103 : N10 103 (D + 1) = iI (hb) := by rw [uN10 103 (by omega)]; exact aN9_103
  have aN10_100 : N10 100 (D + 1) = iI (1) := by rw [uN10 100 (by omega)]; exact aN9_100
  have aN10_101 : N10 101 (D + 1) = iI (0) := by rw [uN10 101 (by omega)]; exact aN9_101
  clear hgN10 fN9 zN9 aN9_95 aN9_96 aN9_97 aN9_98 aN9_99 aN9_102 aN9_103 aN9_100 aN9_101
  refine r_aload_n hV dX12_choose_345 rfl rfl ?_
  refine r_getR hV dX12_choose_346 fl_X12_93 (by first | decide | omega) (by first | rfl | assumption) o46 ?_
  refine r_iload hV dX12_choose_349 rfl ?_
  refine s_bipush hV dX12_choose_351 (-9) (by decide) ?_
  refine s_iastore hV dX12_choose_353 (by first | decide | omega) (by first | rfl | assumption) (by decide) (by omega) (by omega) ?_
  generalize hgN11 : zu N10 105 (zu (N10 105) ((D : Int) + 1).toNat (iI (-9))) = N11
  have uN11 : ∀ q, q ≠ 105 → N11 q = N10 q := fun q h => by rw [← hgN11, zu_n _ _ h]
  have aN11_105 : N11 105 (D + 1) = iI (-9) := by rw [← hgN11, zu_s, show ((D : Int) + 1).toNat = D + 1 by omega, zu_s]
  have fN11 : ∀ q i, i ≠ D + 1 → N11 q i = I q i := fun q i h => by
    by_cases hq : q = 105
    · rw [hq, ← hgN11, zu_s, show ((D : Int) + 1).toNat = D + 1 by omega, zu_n _ _ h]; exact fN10 105 i h
    · rw [uN11 q hq]; exact fN10 q i h
  have zN11 : ∀ q, (q < 95 ∨ 105 < q) → N11 q = I q := fun q h => (uN11 q (by omega)).trans (zN10 q h)
  have aN11_95 : N11 95 (D + 1) = iI (hp) := by rw [uN11 95 (by omega)]; exact aN10_95
  have aN11_96 : N11 96 (D + 1) = iI (0) := by rw [uN11 96 (by omega)]; exact aN10_96
  have aN11_97 : N11 97 (D + 1) = iI (rest - F (ip * 6)) := by rw [uN11 97 (by omega)]; exact aN10_97
  have aN11_98 : N11 98 (D + 1) = iI (((gone : Nat) : Int)) := by rw [uN11 98 (by omega)]; exact aN10_98
  have aN11_99 : N11 99 (D + 1) = iI (((3 : Nat) : Int)) := by rw [uN11 99 (by omega)]; exact aN10_99
  have aN11_102 : N11 102 (D + 1) = iI (ha) := by rw [uN11 102 (by omega)]; exact aN10_102
  have aN11_103 : N11 103 (D + 1) = iI (hb) := by rw [uN11 103 (by omega)]; exact aN10_103
  have aN11_100 : N11 100 (D + 1) = iI (1) := by rw [uN11 100 (by omega)]; exact aN10_100
  have aN11_101 : N11 101 (D + 1) = iI (0) := by rw [uN11 101 (by omega)]; exact aN10_101
  have aN11_104 : N11 104 (D + 1) = iI (-9) := by rw [uN11 104 (by omega)]; exact aN10_104
  clear hgN11 fN10 zN10 aN10_95 aN10_96 aN10_97 aN10_98 aN10_99 aN10_102 aN10_103 aN10_100 aN10_101 aN10_104
  refine r_aload_n hV dX12_choose_354 rfl rfl ?_
  refine r_iload hV dX12_choose_355 rfl ?_
  rw [show (D : Int) + 1 = ((D + 1 : Nat) : Int) by omega]
  refine q_iv1v hV dX12_choose_357 mv_X12_241 (n_canBoth N11 J P hM n hnb F (z_ar_fr zF (zN11 80 (by omega))) hFd (D + 1) (by omega) (hp) (0) (rest - F (ip * 6)) aN11_95 aN11_96 aN11_97 (by omega) (by omega) (by omega)) (by first | decide | omega) (by first | rfl | assumption) (by decide) (Nat.le_refl _) (Nat.le_of_ble_eq_true rfl) ?_
  refine s_zret hV dX12_choose_360 rfl (by split <;> omega) rfl ?_
  refine ⟨?_, rfl, rfl, zN11, fN11, fun _ => ⟨⟨aN11_95, aN11_96, aN11_97, aN11_98, aN11_99, aN11_100, aN11_102, aN11_103⟩, aN11_101, aN11_104, aN11_105⟩⟩
  rfl

set_option maxRecDepth 20000 in
theorem n_ch11e (I : zI) (J : zJ) (P : zP) (hM : mK P) (n e : Nat) (hnb : 2 ≤ n ∧ n ≤ 6) (h8 : I 78 8 = iI (e : Int)) (he6 : e ≤ 6) (F W U K : Int → Int) (zF : z_ar I 80 36 (mF F)) (hFd : zD F) (zW : z_ar I 81 e W) (hWb : z_bd W e 0 (n - 1)) (zU : z_ar I 82 e U) (hUb : z_bd U 6 0 9) (zK : z_ar I 83 e K) (hKb : z_bd K 6 0 2) (D : Nat) (hD : D ≤ 7) (hp ip rest : Int) (gone : Nat) (hg64 : gone < 64) (ha hb : Int) (hFr : mFr I D hp ip rest gone 1 1 ha hb) (hhp : 0 ≤ hp ∧ hp < n) (hip : 0 ≤ ip ∧ ip < n) (hrest : -50000 ≤ rest ∧ rest ≤ 90000) (x : Nat) (hx : x < e) : z_Sp 2 yX12_choose cX12_choose 8 (some .boolean) 108 108 I J P [.ref 78, .int (iI (D : Int)), .int (iI ((x : Int) + 1))] (q_ch I J P D ((¬ gone.testBit x = true ∧ (K (x : Int) = 2 ∨ K (x : Int) = 1) ∧ F (ip * 6 + W (x : Int)) < 1000000) ∧ F ((hp) * 6) + F ((W (x : Int)) * 6) ≤ rest - F (ip * 6 + W (x : Int))) (hp) (W (x : Int)) (rest - F (ip * 6 + W (x : Int))) (gone ||| 2 ^ x) 1 1 (ha) (hb + U (x : Int))) := by
  obtain ⟨o1, o7, o9, o10, o11, o16, o17, o18, o19, o20, o25, o26, o28, o29, o30, o31, o36, o37, o38, o39, o40, o41, o42, o43, o44, o45, o46, o47, o48⟩ := id hM
  obtain ⟨e95, e96, e97, e98, e99, e100, e102, e103⟩ := id hFr
  refine z_met false (by decide +kernel) (fun h => by cases h) (Nat.le_of_ble_eq_true rfl) (by first | decide | omega) (fun V hV => ?_)
  show V 108 I J P 0 [.ref 78, .int (iI (D : Int)), .int (iI ((x : Int) + 1)), .null, .null, .null, .null, .null] []
  refine r_aload_n hV dX12_choose_0 rfl rfl ?_
  refine r_getR hV dX12_choose_1 fl_X12_78 (by first | decide | omega) (by first | rfl | assumption) o41 ?_
  refine r_iload_n hV dX12_choose_4 rfl ?_
  refine s_iaload hV dX12_choose_5 (by first | decide | omega) (by first | rfl | assumption) (by decide) (by omega) (by omega) (show I 100 ((D : Nat) : Int).toNat = iI (1) from by rw [Int.toNat_natCast]; exact e100) ?_
  refine r_istore_n hV dX12_choose_6 (Nat.le_of_ble_eq_true rfl) (z_st1_8_3 rfl) ?_
  refine r_iload_n hV dX12_choose_7 rfl ?_
  refine s_if_ne hV 20 dX12_choose_8 (by decide) (by unfold z_rg; first | omega | (split <;> omega)) (fun _ => ?_) (fun c8 => absurd c8 (by decide))
  refine r_aload_n hV dX12_choose_20 rfl rfl ?_
  refine r_getR hV dX12_choose_21 fl_X12_66 (by first | decide | omega) (by first | rfl | assumption) o37 ?_
  refine r_iload_n hV dX12_choose_24 rfl ?_
  refine s_iaload hV dX12_choose_25 (by first | decide | omega) (by first | rfl | assumption) (by decide) (by omega) (by omega) (show I 96 ((D : Nat) : Int).toNat = iI (ip) from by rw [Int.toNat_natCast]; exact e96) ?_
  refine r_istore hV dX12_choose_26 (Nat.le_of_ble_eq_true rfl) (z_st1_8_4 rfl) ?_
  refine r_iload_n hV dX12_choose_28 rfl ?_
  refine s_iconst hV dX12_choose_29 (1) (by decide) ?_
  refine s_isub hV dX12_choose_30 ?_
  rw [show (x : Int) + 1 - 1 = (x : Int) by omega]
  refine r_istore hV dX12_choose_31 (Nat.le_of_ble_eq_true rfl) (z_st1_8_5 rfl) ?_
  refine r_iload_n hV dX12_choose_33 rfl ?_
  refine s_if_le hV 86 dX12_choose_34 (by decide) (by unfold z_rg; first | omega | (split <;> omega)) (fun c34 => absurd c34 (by omega)) (fun _ => ?_)
  refine r_aload_n hV dX12_choose_37 rfl rfl ?_
  refine r_getR hV dX12_choose_38 fl_X12_72 (by first | decide | omega) (by first | rfl | assumption) o39 ?_
  refine r_iload_n hV dX12_choose_41 rfl ?_
  refine s_iaload hV dX12_choose_42 (by first | decide | omega) (by first | rfl | assumption) (by decide) (by omega) (by omega) (show I 98 ((D : Nat) : Int).toNat = iI (((gone : Nat) : Int)) from by rw [Int.toNat_natCast]; exact e98) ?_
  refine r_iload hV dX12_choose_43 rfl ?_
  refine q_is2v hV dX12_choose_45 ms_X12_180 (n_has I J P gone x hg64 (by omega)) (by decide) (Nat.le_refl _) (Nat.le_of_ble_eq_true rfl) ?_
  refine s_if_ne hV 84 dX12_choose_48 (by decide) (by unfold z_rg; first | omega | (split <;> omega)) (fun c48 => ?_) (fun c48 => ?_)
  · have hg := z_ite1 c48
    refine s_iconst hV dX12_choose_84 (0) (by decide) ?_
    refine s_zret hV dX12_choose_85 rfl (by omega) rfl ?_
    refine ⟨?_, rfl, rfl, fun _ _ => rfl, fun _ _ _ => rfl, fun hh => ?_⟩
    · refine congrArg (fun z => some (Value.int (iI z))) ?_
      rw [if_neg (by first | exact fun hh => hh.1.1 hg | exact fun hh => hc hh.1.2.1 | (rw [hfe]; omega))]
    · first | exact absurd hg hh.1.1 | exact absurd hh.1.2.1 hc | (exfalso; rw [hfe] at hh; omega)
  · have hg := z_ite0 (by first | exact c48 | exact Classical.not_not.mp c48)
    refine r_aload_n hV dX12_choose_51 rfl rfl ?_
    refine r_iload_n hV dX12_choose_52 rfl ?_
    refine r_iload hV dX12_choose_53 rfl ?_
    refine q_iv2v hV dX12_choose_55 mv_X12_211 (n_canDo I J P hM e K zK he6 hKb 1 (x : Int) (by unfold z_rg; omega) (by omega)) (by first | decide | omega) (by first | rfl | assumption) (by decide) (Nat.le_refl _) (Nat.le_of_ble_eq_true rfl) ?_
    refine s_if_eq hV 84 dX12_choose_58 (by decide) (by unfold z_rg; first | omega | (split <;> omega)) (fun c58 => ?_) (fun c58 => ?_)
    · have hc := z_ite0 c58
      refine s_iconst hV dX12_choose_84 (0) (by decide) ?_
      refine s_zret hV dX12_choose_85 rfl (by omega) rfl ?_
      refine ⟨?_, rfl, rfl, fun _ _ => rfl, fun _ _ _ => rfl, fun hh => ?_⟩
      · refine congrArg (fun z => some (Value.int (iI z))) ?_
        rw [if_neg (by first | exact fun hh => hh.1.1 hg | exact fun hh => hc hh.1.2.1 | (rw [hfe]; omega))]
      · first | exact absurd hg hh.1.1 | exact absurd hh.1.2.1 hc | (exfalso; rw [hfe] at hh; omega)
    · have hc := z_ite1 c58
      have hwx := hWb (x : Int) (by omega) (by omega)
      have hux := hUb (x : Int) (by omega) (by omega)
      have hfx := hFd (6 * ip + W (x : Int)) (by omega) (by omega)
      have hfe : F (ip * 6 + W (x : Int)) = F (6 * ip + W (x : Int)) := congrArg F (by omega)
      have hmx : mF F (6 * ip + W (x : Int)) = if F (6 * ip + W (x : Int)) < 1000000 then F (6 * ip + W (x : Int)) else 99999 := rfl
      refine r_aload_n hV dX12_choose_61 rfl rfl ?_
      refine r_getR hV dX12_choose_62 fl_X12_17 (by first | decide | omega) (by first | rfl | assumption) o7 ?_
      refine s_bipush hV dX12_choose_65 (6) (by decide) ?_
      refine r_iload hV dX12_choose_67 rfl ?_
      refine s_imul hV dX12_choose_69 ?_
      refine r_aload_n hV dX12_choose_70 rfl rfl ?_
      refine r_getR hV dX12_choose_71 fl_X12_20 (by first | decide | omega) (by first | rfl | assumption) o9 ?_
      refine r_iload hV dX12_choose_74 rfl ?_
      refine s_iaload hV dX12_choose_76 (by first | decide | omega) (by first | rfl | assumption) (by decide) (by omega) (by omega) (zW (x : Int) (by omega) (by omega)) ?_
      refine s_iadd hV dX12_choose_77 ?_
      refine s_iaload hV dX12_choose_78 (by first | decide | omega) (by first | rfl | assumption) (by decide) (by omega) (by omega) (zF (6 * ip + W (x : Int)) (by omega) (by omega)) ?_
      refine s_ldc hV dX12_choose_79 ct_X12_103 (99999) (by decide) ?_
      refine s_icmp_lt hV 86 dX12_choose_81 (by decide) (by unfold z_rg; first | omega | (split <;> omega)) (by unfold z_rg; first | omega | (split <;> omega)) (fun c81 => ?_) (fun c81 => ?_)
      · have hmv : mF F (6 * ip + W (x : Int)) = F (ip * 6 + W (x : Int)) := by rw [hfe]; omega
        refine r_iload_n hV dX12_choose_86 rfl ?_
        refine s_if_ne hV 94 dX12_choose_87 (by decide) (by unfold z_rg; first | omega | (split <;> omega)) (fun _ => ?_) (fun c87 => absurd c87 (by omega))
        refine r_aload_n hV dX12_choose_94 rfl rfl ?_
        refine r_getR hV dX12_choose_95 fl_X12_20 (by first | decide | omega) (by first | rfl | assumption) o9 ?_
        refine r_iload hV dX12_choose_98 rfl ?_
        refine s_iaload hV dX12_choose_100 (by first | decide | omega) (by first | rfl | assumption) (by decide) (by omega) (by omega) (zW (x : Int) (by omega) (by omega)) ?_
        refine r_istore hV dX12_choose_101 (Nat.le_of_ble_eq_true rfl) (z_st1_8_6 rfl) ?_
        refine r_iload_n hV dX12_choose_103 rfl ?_
        refine s_iconst hV dX12_choose_104 (1) (by decide) ?_
        refine s_iadd hV dX12_choose_105 ?_
        refine r_istore hV dX12_choose_106 (Nat.le_of_ble_eq_true rfl) (z_st1_8_7 rfl) ?_
        refine r_aload_n hV dX12_choose_108 rfl rfl ?_
        refine r_getR hV dX12_choose_109 fl_X12_63 (by first | decide | omega) (by first | rfl | assumption) o36 ?_
        refine r_iload hV dX12_choose_112 rfl ?_
        refine r_iload_n hV dX12_choose_114 rfl ?_
        refine s_if_ne hV 123 dX12_choose_115 (by decide) (by unfold z_rg; first | omega | (split <;> omega)) (fun _ => ?_) (fun c115 => absurd c115 (by decide))
        refine r_aload_n hV dX12_choose_123 rfl rfl ?_
        refine r_getR hV dX12_choose_124 fl_X12_63 (by first | decide | omega) (by first | rfl | assumption) o36 ?_
        refine r_iload_n hV dX12_choose_127 rfl ?_
        refine s_iaload hV dX12_choose_128 (by first | decide | omega) (by first | rfl | assumption) (by decide) (by omega) (by omega) (show I 95 ((D : Nat) : Int).toNat = iI (hp) from by rw [Int.toNat_natCast]; exact e95) ?_
        refine s_iastore hV dX12_choose_129 (by first | decide | omega) (by first | rfl | assumption) (by decide) (by omega) (by omega) ?_
        generalize hgN1 : zu I 95 (zu (I 95) ((D : Int) + 1).toNat (iI (hp))) = N1
        have uN1 : ∀ q, q ≠ 95 → N1 q = I q := fun q h => by rw [← hgN1, zu_n _ _ h]
        have aN1_95 : N1 95 (D + 1) = iI (hp) := by rw [← hgN1, zu_s, show ((D : Int) + 1).toNat = D + 1 by omega, zu_s]
        have fN1 : ∀ q i, i ≠ D + 1 → N1 q i = I q i := fun q i h => by
          by_cases hq : q = 95
          · rw [hq, ← hgN1, zu_s, show ((D : Int) + 1).toNat = D + 1 by omega, zu_n _ _ h]
          · rw [uN1 q hq]
        have zN1 : ∀ q, (q < 95 ∨ 105 < q) → N1 q = I q := fun q h => uN1 q (by omega)
        clear hgN1
        refine r_aload_n hV dX12_choose_130 rfl rfl ?_
        refine r_getR hV dX12_choose_131 fl_X12_66 (by first | decide | omega) (by first | rfl | assumption) o37 ?_
        refine r_iload hV dX12_choose_134 rfl ?_
        refine r_iload_n hV dX12_choose_136 rfl ?_
        refine s_iconst hV dX12_choose_137 (1) (by decide) ?_
        refine s_icmp_ne hV 146 dX12_choose_138 (by decide) (by unfold z_rg; first | omega | (split <;> omega)) (by unfold z_rg; first | omega | (split <;> omega)) (fun c138 => absurd c138 (by decide)) (fun _ => ?_)
        refine r_iload hV dX12_choose_141 rfl ?_
        refine r_goto hV 152 dX12_choose_143 (by decide) ?_
        refine s_iastore hV dX12_choose_152 (by first | decide | omega) (by first | rfl | assumption) (by decide) (by omega) (by omega) ?_
        generalize hgN2 : zu N1 96 (zu (N1 96) ((D : Int) + 1).toNat (iI (W (x : Int)))) = N2
        have uN2 : ∀ q, q ≠ 96 → N2 q = N1 q := fun q h => by rw [← hgN2, zu_n _ _ h]
        have aN2_96 : N2 96 (D + 1) = iI (W (x : Int)) := by rw [← hgN2, zu_s, show ((D : Int) + 1).toNat = D + 1 by omega, zu_s]
        have fN2 : ∀ q i, i ≠ D + 1 → N2 q i = I q i := fun q i h => by
          by_cases hq : q = 96
          · rw [hq, ← hgN2, zu_s, show ((D : Int) + 1).toNat = D + 1 by omega, zu_n _ _ h]; exact fN1 96 i h
          · rw [uN2 q hq]; exact fN1 q i h
        have zN2 : ∀ q, (q < 95 ∨ 105 < q) → N2 q = I q := fun q h => (uN2 q (by omega)).trans (zN1 q h)
        have aN2_95 : N2 95 (D + 1) = iI (hp) := by rw [uN2 95 (by omega)]; exact aN1_95
        clear hgN2 fN1 zN1 aN1_95
        refine r_aload_n hV dX12_choose_153 rfl rfl ?_
        refine r_getR hV dX12_choose_154 fl_X12_69 (by first | decide | omega) (by first | rfl | assumption) o38 ?_
        refine r_iload hV dX12_choose_157 rfl ?_
        refine r_aload_n hV dX12_choose_159 rfl rfl ?_
        refine r_getR hV dX12_choose_160 fl_X12_69 (by first | decide | omega) (by first | rfl | assumption) o38 ?_
        refine r_iload_n hV dX12_choose_163 rfl ?_
        refine s_iaload hV dX12_choose_164 (by first | decide | omega) (by first | rfl | assumption) (by decide) (by omega) (by omega) (show N2 97 ((D : Nat) : Int).toNat = iI (rest) from by rw [Int.toNat_natCast]; exact (fN2 97 D (by omega)).trans e97) ?_
        refine r_aload_n hV dX12_choose_165 rfl rfl ?_
        refine r_getR hV dX12_choose_166 fl_X12_17 (by first | decide | omega) (by first | rfl | assumption) o7 ?_
        refine s_bipush hV dX12_choose_169 (6) (by decide) ?_
        refine r_iload hV dX12_choose_171 rfl ?_
        refine s_imul hV dX12_choose_173 ?_
        refine r_iload hV dX12_choose_174 rfl ?_
        refine s_iadd hV dX12_choose_176 ?_
        refine s_iaload hV dX12_choose_177 (by first | decide | omega) (by first | rfl | assumption) (by decide) (by omega) (by omega) ((congrFun (zN2 80 (by omega)) _).trans ((zF (6 * ip + W (x : Int)) (by omega) (by omega)).trans (congrArg iI hmv))) ?_
        refine s_isub hV dX12_choose_178 ?_
        refine s_iastore hV dX12_choose_179 (by first | decide | omega) (by first | rfl | assumption) (by decide) (by omega) (by omega) ?_
        generalize hgN3 : zu N2 97 (zu (N2 97) ((D : Int) + 1).toNat (iI (rest - F (ip * 6 + W (x : Int))))) = N3
        have uN3 : ∀ q, q ≠ 97 → N3 q = N2 q := fun q h => by rw [← hgN3, zu_n _ _ h]
        have aN3_97 : N3 97 (D + 1) = iI (rest - F (ip * 6 + W (x : Int))) := by rw [← hgN3, zu_s, show ((D : Int) + 1).toNat = D + 1 by omega, zu_s]
        have fN3 : ∀ q i, i ≠ D + 1 → N3 q i = I q i := fun q i h => by
          by_cases hq : q = 97
          · rw [hq, ← hgN3, zu_s, show ((D : Int) + 1).toNat = D + 1 by omega, zu_n _ _ h]; exact fN2 97 i h
          · rw [uN3 q hq]; exact fN2 q i h
        have zN3 : ∀ q, (q < 95 ∨ 105 < q) → N3 q = I q := fun q h => (uN3 q (by omega)).trans (zN2 q h)
        have aN3_95 : N3 95 (D + 1) = iI (hp) := by rw [uN3 95 (by omega)]; exact aN2_95
        have aN3_96 : N3 96 (D + 1) = iI (W (x : Int)) := by rw [uN3 96 (by omega)]; exact aN2_96
        clear hgN3 fN2 zN2 aN2_95 aN2_96
        refine r_aload_n hV dX12_choose_180 rfl rfl ?_
        refine r_getR hV dX12_choose_181 fl_X12_72 (by first | decide | omega) (by first | rfl | assumption) o39 ?_
        refine r_iload hV dX12_choose_184 rfl ?_
        refine r_aload_n hV dX12_choose_186 rfl rfl ?_
        refine r_getR hV dX12_choose_187 fl_X12_72 (by first | decide | omega) (by first | rfl | assumption) o39 ?_
        refine r_iload_n hV dX12_choose_190 rfl ?_
        refine s_iaload hV dX12_choose_191 (by first | decide | omega) (by first | rfl | assumption) (by decide) (by omega) (by omega) (show N3 98 ((D : Nat) : Int).toNat = iI (((gone : Nat) : Int)) from by rw [Int.toNat_natCast]; exact (fN3 98 D (by omega)).trans e98) ?_
        refine r_iload_n hV dX12_choose_192 rfl ?_
        refine s_if_le hV 203 dX12_choose_193 (by decide) (by unfold z_rg; first | omega | (split <;> omega)) (fun c193 => absurd c193 (by omega)) (fun _ => ?_)
        refine s_iconst hV dX12_choose_196 (1) (by decide) ?_
        refine r_iload hV dX12_choose_197 rfl ?_
        refine s_ishl hV dX12_choose_199 (zb_shl (by omega)) ?_
        refine r_goto hV 204 dX12_choose_200 (by decide) ?_
        refine s_ior hV dX12_choose_204 (zb_or hg64 (z_pw (by omega))) ?_
        refine s_iastore hV dX12_choose_205 (by first | decide | omega) (by first | rfl | assumption) (by decide) (by omega) (by omega) ?_
        generalize hgN4 : zu N3 98 (zu (N3 98) ((D : Int) + 1).toNat (iI ((((gone ||| 2 ^ x) : Nat) : Int)))) = N4
        have uN4 : ∀ q, q ≠ 98 → N4 q = N3 q := fun q h => by rw [← hgN4, zu_n _ _ h]
        have aN4_98 : N4 98 (D + 1) = iI ((((gone ||| 2 ^ x) : Nat) : Int)) := by rw [← hgN4, zu_s, show ((D : Int) + 1).toNat = D + 1 by omega, zu_s]
        have fN4 : ∀ q i, i ≠ D + 1 → N4 q i = I q i := fun q i h => by
          by_cases hq : q = 98
          · rw [hq, ← hgN4, zu_s, show ((D : Int) + 1).toNat = D + 1 by omega, zu_n _ _ h]; exact fN3 98 i h
          · rw [uN4 q hq]; exact fN3 q i h
        have zN4 : ∀ q, (q < 95 ∨ 105 < q) → N4 q = I q := fun q h => (uN4 q (by omega)).trans (zN3 q h)
        have aN4_95 : N4 95 (D + 1) = iI (hp) := by rw [uN4 95 (by omega)]; exact aN3_95
        have aN4_96 : N4 96 (D + 1) = iI (W (x : Int)) := by rw [uN4 96 (by omega)]; exact aN3_96
        have aN4_97 : N4 97 (D + 1) = iI (rest - F (ip * 6 + W (x : Int))) := by rw [uN4 97 (by omega)]; exact aN3_97
        clear hgN4 fN3 zN3 aN3_95 aN3_96 aN3_97
        refine r_aload_n hV dX12_choose_206 rfl rfl ?_
        refine r_getR hV dX12_choose_207 fl_X12_75 (by first | decide | omega) (by first | rfl | assumption) o40 ?_
        refine r_iload hV dX12_choose_210 rfl ?_
        refine r_aload_n hV dX12_choose_212 rfl rfl ?_
        refine r_getR hV dX12_choose_213 fl_X12_75 (by first | decide | omega) (by first | rfl | assumption) o40 ?_
        refine r_iload_n hV dX12_choose_216 rfl ?_
        refine s_iaload hV dX12_choose_217 (by first | decide | omega) (by first | rfl | assumption) (by decide) (by omega) (by omega) (show N4 99 ((D : Nat) : Int).toNat = iI (((1 : Nat) : Int)) from by rw [Int.toNat_natCast]; exact (fN4 99 D (by omega)).trans e99) ?_
        refine r_iload_n hV dX12_choose_218 rfl ?_
        refine s_if_ne hV 228 dX12_choose_219 (by decide) (by unfold z_rg; first | omega | (split <;> omega)) (fun _ => ?_) (fun c219 => absurd c219 (by omega))
        refine s_iconst hV dX12_choose_228 (0) (by decide) ?_
        refine s_ior hV dX12_choose_229 (show iI ((1 : Nat) : Int) ||| iI 0 = iI ((1 : Nat) : Int) from by decide) ?_
        refine s_iastore hV dX12_choose_230 (by first | decide | omega) (by first | rfl | assumption) (by decide) (by omega) (by omega) ?_
        generalize hgN5 : zu N4 99 (zu (N4 99) ((D : Int) + 1).toNat (iI (((1 : Nat) : Int)))) = N5
        have uN5 : ∀ q, q ≠ 99 → N5 q = N4 q := fun q h => by rw [← hgN5, zu_n _ _ h]
        have aN5_99 : N5 99 (D + 1) = iI (((1 : Nat) : Int)) := by rw [← hgN5, zu_s, show ((D : Int) + 1).toNat = D + 1 by omega, zu_s]
        have fN5 : ∀ q i, i ≠ D + 1 → N5 q i = I q i := fun q i h => by
          by_cases hq : q = 99
          · rw [hq, ← hgN5, zu_s, show ((D : Int) + 1).toNat = D + 1 by omega, zu_n _ _ h]; exact fN4 99 i h
          · rw [uN5 q hq]; exact fN4 q i h
        have zN5 : ∀ q, (q < 95 ∨ 105 < q) → N5 q = I q := fun q h => (uN5 q (by omega)).trans (zN4 q h)
        have aN5_95 : N5 95 (D + 1) = iI (hp) := by rw [uN5 95 (by omega)]; exact aN4_95
        have aN5_96 : N5 96 (D + 1) = iI (W (x : Int)) := by rw [uN5 96 (by omega)]; exact aN4_96
        have aN5_97 : N5 97 (D + 1) = iI (rest - F (ip * 6 + W (x : Int))) := by rw [uN5 97 (by omega)]; exact aN4_97
        have aN5_98 : N5 98 (D + 1) = iI ((((gone ||| 2 ^ x) : Nat) : Int)) := by rw [uN5 98 (by omega)]; exact aN4_98
        clear hgN5 fN4 zN4 aN4_95 aN4_96 aN4_97 aN4_98
        refine r_aload_n hV dX12_choose_231 rfl rfl ?_
        refine r_getR hV dX12_choose_232 fl_X12_84 (by first | decide | omega) (by first | rfl | assumption) o43 ?_
        refine r_iload hV dX12_choose_235 rfl ?_
        refine r_aload_n hV dX12_choose_237 rfl rfl ?_
        refine r_getR hV dX12_choose_238 fl_X12_84 (by first | decide | omega) (by first | rfl | assumption) o43 ?_
        refine r_iload_n hV dX12_choose_241 rfl ?_
        refine s_iaload hV dX12_choose_242 (by first | decide | omega) (by first | rfl | assumption) (by decide) (by omega) (by omega) (show N5 102 ((D : Nat) : Int).toNat = iI (ha) from by rw [Int.toNat_natCast]; exact (fN5 102 D (by omega)).trans e102) ?_
        refine r_iload_n hV dX12_choose_243 rfl ?_
        refine s_if_ne hV 261 dX12_choose_244 (by decide) (by unfold z_rg; first | omega | (split <;> omega)) (fun _ => ?_) (fun c244 => absurd c244 (by decide))
        refine s_iconst hV dX12_choose_261 (0) (by decide) ?_
        refine s_iadd hV dX12_choose_262 ?_
        rw [Int.add_zero]
        refine s_iastore hV dX12_choose_263 (by first | decide | omega) (by first | rfl | assumption) (by decide) (by omega) (by omega) ?_
        generalize hgN6 : zu N5 102 (zu (N5 102) ((D : Int) + 1).toNat (iI (ha))) = N6
        have uN6 : ∀ q, q ≠ 102 → N6 q = N5 q := fun q h => by rw [← hgN6, zu_n _ _ h]
        have aN6_102 : N6 102 (D + 1) = iI (ha) := by rw [← hgN6, zu_s, show ((D : Int) + 1).toNat = D + 1 by omega, zu_s]
        have fN6 : ∀ q i, i ≠ D + 1 → N6 q i = I q i := fun q i h => by
          by_cases hq : q = 102
          · rw [hq, ← hgN6, zu_s, show ((D : Int) + 1).toNat = D + 1 by omega, zu_n _ _ h]; exact fN5 102 i h
          · rw [uN6 q hq]; exact fN5 q i h
        have zN6 : ∀ q, (q < 95 ∨ 105 < q) → N6 q = I q := fun q h => (uN6 q (by omega)).trans (zN5 q h)
        have aN6_95 : N6 95 (D + 1) = iI (hp) := by rw [uN6 95 (by omega)]; exact aN5_95
        have aN6_96 : N6 96 (D + 1) = iI (W (x : Int)) := by rw [uN6 96 (by omega)]; exact aN5_96
        have aN6_97 : N6 97 (D + 1) = iI (rest - F (ip * 6 + W (x : Int))) := by rw [uN6 97 (by omega)]; exact aN5_97
        have aN6_98 : N6 98 (D + 1) = iI ((((gone ||| 2 ^ x) : Nat) : Int)) := by rw [uN6 98 (by omega)]; exact aN5_98
        have aN6_99 : N6 99 (D + 1) = iI (((1 : Nat) : Int)) := by rw [uN6 99 (by omega)]; exact aN5_99
        clear hgN6 fN5 zN5 aN5_95 aN5_96 aN5_97 aN5_98 aN5_99
        refine r_aload_n hV dX12_choose_264 rfl rfl ?_
        refine r_getR hV dX12_choose_265 fl_X12_87 (by first | decide | omega) (by first | rfl | assumption) o44 ?_
        refine r_iload hV dX12_choose_268 rfl ?_
        refine r_aload_n hV dX12_choose_270 rfl rfl ?_
        refine r_getR hV dX12_choose_271 fl_X12_87 (by first | decide | omega) (by first | rfl | assumption) o44 ?_
        refine r_iload_n hV dX12_choose_274 rfl ?_
        refine s_iaload hV dX12_choose_275 (by first | decide | omega) (by first | rfl | assumption) (by decide) (by omega) (by omega) (show N6 103 ((D : Nat) : Int).toNat = iI (hb) from by rw [Int.toNat_natCast]; exact (fN6 103 D (by omega)).trans e103) ?_
        refine r_iload_n hV dX12_choose_276 rfl ?_
        refine s_iconst hV dX12_choose_277 (1) (by decide) ?_
        refine s_icmp_ne hV 295 dX12_choose_278 (by decide) (by unfold z_rg; first | omega | (split <;> omega)) (by unfold z_rg; first | omega | (split <;> omega)) (fun c278 => absurd c278 (by decide)) (fun _ => ?_)
        refine r_iload_n hV dX12_choose_281 rfl ?_
        refine s_if_le hV 295 dX12_choose_282 (by decide) (by unfold z_rg; first | omega | (split <;> omega)) (fun c282 => absurd c282 (by omega)) (fun _ => ?_)
        refine r_aload_n hV dX12_choose_285 rfl rfl ?_
        refine r_getR hV dX12_choose_286 fl_X12_23 (by first | decide | omega) (by first | rfl | assumption) o10 ?_
        refine r_iload hV dX12_choose_289 rfl ?_
        refine s_iaload hV dX12_choose_291 (by first | decide | omega) (by first | rfl | assumption) (by decide) (by omega) (by omega) ((congrFun (zN6 82 (by omega)) _).trans (zU (x : Int) (by omega) (by omega))) ?_
        refine r_goto hV 296 dX12_choose_292 (by decide) ?_
        refine s_iadd hV dX12_choose_296 ?_
        refine s_iastore hV dX12_choose_297 (by first | decide | omega) (by first | rfl | assumption) (by decide) (by omega) (by omega) ?_
        generalize hgN7 : zu N6 103 (zu (N6 103) ((D : Int) + 1).toNat (iI (hb + U (x : Int)))) = N7
        have uN7 : ∀ q, q ≠ 103 → N7 q = N6 q := fun q h => by rw [← hgN7, zu_n _ _ h]
        have aN7_103 : N7 103 (D + 1) = iI (hb + U (x : Int)) := by rw [← hgN7, zu_s, show ((D : Int) + 1).toNat = D + 1 by omega, zu_s]
        have fN7 : ∀ q i, i ≠ D + 1 → N7 q i = I q i := fun q i h => by
          by_cases hq : q = 103
          · rw [hq, ← hgN7, zu_s, show ((D : Int) + 1).toNat = D + 1 by omega, zu_n _ _ h]; exact fN6 103 i h
          · rw [uN7 q hq]; exact fN6 q i h
        have zN7 : ∀ q, (q < 95 ∨ 105 < q) → N7 q = I q := fun q h => (uN7 q (by omega)).trans (zN6 q h)
        have aN7_95 : N7 95 (D + 1) = iI (hp) := by rw [uN7 95 (by omega)]; exact aN6_95
        have aN7_96 : N7 96 (D + 1) = iI (W (x : Int)) := by rw [uN7 96 (by omega)]; exact aN6_96
        have aN7_97 : N7 97 (D + 1) = iI (rest - F (ip * 6 + W (x : Int))) := by rw [uN7 97 (by omega)]; exact aN6_97
        have aN7_98 : N7 98 (D + 1) = iI ((((gone ||| 2 ^ x) : Nat) : Int)) := by rw [uN7 98 (by omega)]; exact aN6_98
        have aN7_99 : N7 99 (D + 1) = iI (((1 : Nat) : Int)) := by rw [uN7 99 (by omega)]; exact aN6_99
        have aN7_102 : N7 102 (D + 1) = iI (ha) := by rw [uN7 102 (by omega)]; exact aN6_102
        clear hgN7 fN6 zN6 aN6_95 aN6_96 aN6_97 aN6_98 aN6_99 aN6_102
        refine r_aload_n hV dX12_choose_298 rfl rfl ?_
        refine r_getR hV dX12_choose_299 fl_X12_78 (by first | decide | omega) (by first | rfl | assumption) o41 ?_
        refine r_iload hV dX12_choose_302 rfl ?_
        refine r_aload_n hV dX12_choose_304 rfl rfl ?_
        refine r_getR hV dX12_choose_305 fl_X12_75 (by first | decide | omega) (by first | rfl | assumption) o40 ?_
        refine r_iload hV dX12_choose_308 rfl ?_
        refine s_iaload hV dX12_choose_310 (by first | decide | omega) (by first | rfl | assumption) (by decide) (by omega) (by omega) (show N7 99 ((D : Int) + 1).toNat = iI ((1 : Nat) : Int) from by rw [show ((D : Int) + 1).toNat = D + 1 by omega]; exact aN7_99) ?_
        refine s_iconst hV dX12_choose_311 (1) (by decide) ?_
        refine r_iload_n hV dX12_choose_312 rfl ?_
        refine s_isub hV dX12_choose_313 ?_
        rw [show (1 : Int) - 1 = ((0 : Nat) : Int) from rfl]
        refine q_is2v hV dX12_choose_314 ms_X12_180 (n_has N7 J P 1 0 (by decide) (by decide)) (by decide) (Nat.le_refl _) (Nat.le_of_ble_eq_true rfl) ?_
        refine s_if_eq hV 324 dX12_choose_317 (by decide) (by unfold z_rg; first | omega | (split <;> omega)) (fun c317 => absurd c317 (by decide)) (fun _ => ?_)
        refine r_iload_n hV dX12_choose_320 rfl ?_
        refine r_goto hV 327 dX12_choose_321 (by decide) ?_
        refine s_iastore hV dX12_choose_327 (by first | decide | omega) (by first | rfl | assumption) (by decide) (by omega) (by omega) ?_
        generalize hgN8 : zu N7 100 (zu (N7 100) ((D : Int) + 1).toNat (iI (1))) = N8
        have uN8 : ∀ q, q ≠ 100 → N8 q = N7 q := fun q h => by rw [← hgN8, zu_n _ _ h]
        have aN8_100 : N8 100 (D + 1) = iI (1) := by rw [← hgN8, zu_s, show ((D : Int) + 1).toNat = D + 1 by omega, zu_s]
        have fN8 : ∀ q i, i ≠ D + 1 → N8 q i = I q i := fun q i h => by
          by_cases hq : q = 100
          · rw [hq, ← hgN8, zu_s, show ((D : Int) + 1).toNat = D + 1 by omega, zu_n _ _ h]; exact fN7 100 i h
          · rw [uN8 q hq]; exact fN7 q i h
        have zN8 : ∀ q, (q < 95 ∨ 105 < q) → N8 q = I q := fun q h => (uN8 q (by omega)).trans (zN7 q h)
        have aN8_95 : N8 95 (D + 1) = iI (hp) := by rw [uN8 95 (by omega)]; exact aN7_95
        have aN8_96 : N8 96 (D + 1) = iI (W (x : Int)) := by rw [uN8 96 (by omega)]; exact aN7_96
        have aN8_97 : N8 97 (D + 1) = iI (rest - F (ip * 6 + W (x : Int))) := by rw [uN8 97 (by omega)]; exact aN7_97
        have aN8_98 : N8 98 (D + 1) = iI ((((gone ||| 2 ^ x) : Nat) : Int)) := by rw [uN8 98 (by omega)]; exact aN7_98
        have aN8_99 : N8 99 (D + 1) = iI (((1 : Nat) : Int)) := by rw [uN8 99 (by omega)]; exact aN7_99
        have aN8_102 : N8 102 (D + 1) = iI (ha) := by rw [uN8 102 (by omega)]; exact aN7_102
        have aN8_103 : N8 103 (D + 1) = iI (hb + U (x : Int)) := by rw [uN8 103 (by omega)]; exact aN7_103
        clear hgN8 fN7 zN7 aN7_95 aN7_96 aN7_97 aN7_98 aN7_99 aN7_102 aN7_103
        refine r_aload_n hV dX12_choose_328 rfl rfl ?_
        refine r_getR hV dX12_choose_329 fl_X12_81 (by first | decide | omega) (by first | rfl | assumption) o42 ?_
        refine r_iload hV dX12_choose_332 rfl ?_
        refine s_iconst hV dX12_choose_334 (0) (by decide) ?_
        refine s_iastore hV dX12_choose_335 (by first | decide | omega) (by first | rfl | assumption) (by decide) (by omega) (by omega) ?_
        generalize hgN9 : zu N8 101 (zu (N8 101) ((D : Int) + 1).toNat (iI (0))) = N9
        have uN9 : ∀ q, q ≠ 101 → N9 q = N8 q := fun q h => by rw [← hgN9, zu_n _ _ h]
        have aN9_101 : N9 101 (D + 1) = iI (0) := by rw [← hgN9, zu_s, show ((D : Int) + 1).toNat = D + 1 by omega, zu_s]
        have fN9 : ∀ q i, i ≠ D + 1 → N9 q i = I q i := fun q i h => by
          by_cases hq : q = 101
          · rw [hq, ← hgN9, zu_s, show ((D : Int) + 1).toNat = D + 1 by omega, zu_n _ _ h]; exact fN8 101 i h
          · rw [uN9 q hq]; exact fN8 q i h
        have zN9 : ∀ q, (q < 95 ∨ 105 < q) → N9 q = I q := fun q h => (uN9 q (by omega)).trans (zN8 q h)
        have aN9_95 : N9 95 (D + 1) = iI (hp) := by rw [uN9 95 (by omega)]; exact aN8_95
        have aN9_96 : N9 96 (D + 1) = iI (W (x : Int)) := by rw [uN9 96 (by omega)]; exact aN8_96
        have aN9_97 : N9 97 (D + 1) = iI (rest - F (ip * 6 + W (x : Int))) := by rw [uN9 97 (by omega)]; exact aN8_97
        have aN9_98 : N9 98 (D + 1) = iI ((((gone ||| 2 ^ x) : Nat) : Int)) := by rw [uN9 98 (by omega)]; exact aN8_98
        have aN9_99 : N9 99 (D + 1) = iI (((1 : Nat) : Int)) := by rw [uN9 99 (by omega)]; exact aN8_99
        have aN9_102 : N9 102 (D + 1) = iI (ha) := by rw [uN9 102 (by omega)]; exact aN8_102
        have aN9_103 : N9 103 (D + 1) = iI (hb + U (x : Int)) := by rw [uN9 103 (by omega)]; exact aN8_103
        have aN9_100 : N9 100 (D + 1) = iI (1) := by rw [uN9 100 (by omega)]; exact aN8_100
        clear hgN9 fN8 zN8 aN8_95 aN8_96 aN8_97 aN8_98 aN8_99 aN8_102 aN8_103 aN8_100
        refine r_aload_n hV dX12_choose_336 rfl rfl ?_
        refine r_getR hV dX12_choose_337 fl_X12_90 (by first | decide | omega) (by first | rfl | assumption) o45 ?_
        refine r_iload hV dX12_choose_340 rfl ?_
        refine s_bipush hV dX12_choose_342 (-9) (by decide) ?_
        refine s_iastore hV dX12_choose_344 (by first | decide | omega) (by first | rfl | assumption) (by decide) (by omega) (by omega) ?_
        generalize hgN10 : zu N9 104 (zu (N9 104) ((D : Int) + 1).toNat (iI (-9))) = N10
        have uN10 : ∀ q, q ≠ 104 → N10 q = N9 q := fun q h => by rw [← hgN10, zu_n _ _ h]
        have aN10_104 : N10 104 (D + 1) = iI (-9) := by rw [← hgN10, zu_s, show ((D : Int) + 1).toNat = D + 1 by omega, zu_s]
        have fN10 : ∀ q i, i ≠ D + 1 → N10 q i = I q i := fun q i h => by
          by_cases hq : q = 104
          · rw [hq, ← hgN10, zu_s, show ((D : Int) + 1).toNat = D + 1 by omega, zu_n _ _ h]; exact fN9 104 i h
          · rw [uN10 q hq]; exact fN9 q i h
        have zN10 : ∀ q, (q < 95 ∨ 105 < q) → N10 q = I q := fun q h => (uN10 q (by omega)).trans (zN9 q h)
        have aN10_95 : N10 95 (D + 1) = iI (hp) := by rw [uN10 95 (by omega)]; exact aN9_95
        have aN10_96 : N10 96 (D + 1) = iI (W (x : Int)) := by rw [uN10 96 (by omega)]; exact aN9_96
        have aN10_97 : N10 97 (D + 1) = iI (rest - F (ip * 6 + W (x : Int))) := by rw [uN10 97 (by omega)]; exact aN9_97
        have aN10_98 : N10 98 (D + 1) = iI ((((gone ||| 2 ^ x) : Nat) : Int)) := by rw [uN10 98 (by omega)]; exact aN9_98
        have aN10_99 : N10 99 (D + 1) = iI (((1 : Nat) : Int)) := by rw [uN10 99 (by omega)]; exact aN9_99
        have aN10_102 : N10 102 (D + 1) = iI (ha) := by rw [uN10 102 (by omega)]; exact aN9_102
        have aN10_103 : N10 103 (D + 1) = iI (hb + U (x : Int)) := by rw [uN10 103 (by omega)]; exact aN9_103
        have aN10_100 : N10 100 (D + 1) = iI (1) := by rw [uN10 100 (by omega)]; exact aN9_100
        have aN10_101 : N10 101 (D + 1) = iI (0) := by rw [uN10 101 (by omega)]; exact aN9_101
        clear hgN10 fN9 zN9 aN9_95 aN9_96 aN9_97 aN9_98 aN9_99 aN9_102 aN9_103 aN9_100 aN9_101
        refine r_aload_n hV dX12_choose_345 rfl rfl ?_
        refine r_getR hV dX12_choose_346 fl_X12_93 (by first | decide | omega) (by first | rfl | assumption) o46 ?_
        refine r_iload hV dX12_choose_349 rfl ?_
        refine s_bipush hV dX12_choose_351 (-9) (by decide) ?_
        refine s_iastore hV dX12_choose_353 (by first | decide | omega) (by first | rfl | assumption) (by decide) (by omega) (by omega) ?_
        generalize hgN11 : zu N10 105 (zu (N10 105) ((D : Int) + 1).toNat (iI (-9))) = N11
        have uN11 : ∀ q, q ≠ 105 → N11 q = N10 q := fun q h => by rw [← hgN11, zu_n _ _ h]
        have aN11_105 : N11 105 (D + 1) = iI (-9) := by rw [← hgN11, zu_s, show ((D : Int) + 1).toNat = D + 1 by omega, zu_s]
        have fN11 : ∀ q i, i ≠ D + 1 → N11 q i = I q i := fun q i h => by
          by_cases hq : q = 105
          · rw [hq, ← hgN11, zu_s, show ((D : Int) + 1).toNat = D + 1 by omega, zu_n _ _ h]; exact fN10 105 i h
          · rw [uN11 q hq]; exact fN10 q i h
        have zN11 : ∀ q, (q < 95 ∨ 105 < q) → N11 q = I q := fun q h => (uN11 q (by omega)).trans (zN10 q h)
        have aN11_95 : N11 95 (D + 1) = iI (hp) := by rw [uN11 95 (by omega)]; exact aN10_95
        have aN11_96 : N11 96 (D + 1) = iI (W (x : Int)) := by rw [uN11 96 (by omega)]; exact aN10_96
        have aN11_97 : N11 97 (D + 1) = iI (rest - F (ip * 6 + W (x : Int))) := by rw [uN11 97 (by omega)]; exact aN10_97
        have aN11_98 : N11 98 (D + 1) = iI ((((gone ||| 2 ^ x) : Nat) : Int)) := by rw [uN11 98 (by omega)]; exact aN10_98
        have aN11_99 : N11 99 (D + 1) = iI (((1 : Nat) : Int)) := by rw [uN11 99 (by omega)]; exact aN10_99
        have aN11_102 : N11 102 (D + 1) = iI (ha) := by rw [uN11 102 (by omega)]; exact aN10_102
        have aN11_103 : N11 103 (D + 1) = iI (hb + U (x : Int)) := by rw [uN11 103 (by omega)]; exact aN10_103
        have aN11_100 : N11 100 (D + 1) = iI (1) := by rw [uN11 100 (by omega)]; exact aN10_100
        have aN11_101 : N11 101 (D + 1) = iI (0) := by rw [uN11 101 (by omega)]; exact aN10_101
        have aN11_104 : N11 104 (D + 1) = iI (-9) := by rw [uN11 104 (by omega)]; exact aN10_104
        clear hgN11 fN10 zN10 aN10_95 aN10_96 aN10_97 aN10_98 aN10_99 aN10_102 aN10_103 aN10_100 aN10_101 aN10_104
        refine r_aload_n hV dX12_choose_354 rfl rfl ?_
        refine r_iload hV dX12_choose_355 rfl ?_
        rw [show (D : Int) + 1 = ((D + 1 : Nat) : Int) by omega]
        refine q_iv1v hV dX12_choose_357 mv_X12_241 (n_canBoth N11 J P hM n hnb F (z_ar_fr zF (zN11 80 (by omega))) hFd (D + 1) (by omega) (hp) (W (x : Int)) (rest - F (ip * 6 + W (x : Int))) aN11_95 aN11_96 aN11_97 (by omega) (by omega) (by omega)) (by first | decide | omega) (by first | rfl | assumption) (by decide) (Nat.le_refl _) (Nat.le_of_ble_eq_true rfl) ?_
        refine s_zret hV dX12_choose_360 rfl (by split <;> omega) rfl ?_
        refine ⟨?_, rfl, rfl, zN11, fN11, fun _ => ⟨⟨aN11_95, aN11_96, aN11_97, aN11_98, aN11_99, aN11_100, aN11_102, aN11_103⟩, aN11_101, aN11_104, aN11_105⟩⟩
        refine congrArg (fun z => some (Value.int (iI z))) ?_
        by_cases hk : F ((hp) * 6) + F ((W (x : Int)) * 6) ≤ rest - F (ip * 6 + W (x : Int))
        · rw [if_pos hk, if_pos ⟨⟨hg, hc, by omega⟩, hk⟩]
        · rw [if_neg hk, if_neg (fun hh => hk hh.2)]
      · refine s_iconst hV dX12_choose_84 (0) (by decide) ?_
        refine s_zret hV dX12_choose_85 rfl (by omega) rfl ?_
        refine ⟨?_, rfl, rfl, fun _ _ => rfl, fun _ _ _ => rfl, fun hh => ?_⟩
        · refine congrArg (fun z => some (Value.int (iI z))) ?_
          rw [if_neg (by first | exact fun hh => hh.1.1 hg | exact fun hh => hc hh.1.2.1 | (rw [hfe]; omega))]
        · first | exact absurd hg hh.1.1 | exact absurd hh.1.2.1 hc | (exfalso; rw [hfe] at hh; omega)

