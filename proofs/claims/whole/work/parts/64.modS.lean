set_option maxRecDepth 20000 in
theorem n_btA {V : Nat → zI → zJ → zP → Nat → List Value → List Value → Prop} {ini : Bool} {ret : Option FieldType} {post : Option Value → zI → zJ → zP → Prop} (I : zI) (J : zJ) (P : zP) (hM : mK P) (w0 o0 : Int) (D : Nat) (hD : D ≤ 8) (c : Int) (e101 : I 101 D = iI c) (hc : 0 ≤ c ∧ c ≤ 10) (e : Nat) (h8 : I 78 8 = iI (e : Int)) (he6 : e ≤ 6) (home : Nat) (e99 : I 99 D = iI (home : Int)) (hh3 : home ≤ 3) (hn3 : home ≠ 3) (hce : c ≤ e) {post1 : Option Value → zI → zJ → zP → Prop} (hsp : z_Sp 2 yX12_choose cX12_choose 8 (some .boolean) 108 108 (zu I 101 (zu (I 101) D (iI (c + 1)))) J P [.ref 78, .int (iI (D : Int)), .int (iI c)] post1) (hV : z_Cl yX12_byTurns.cls cX12_byTurns 5 108 ini none ret post V) (hk : ∀ v3 I3 J3 P3, post1 v3 I3 J3 P3 → V 108 I3 J3 P3 289 [.ref 78, .int (iI w0), .int (iI o0), .int (iI (D : Int)), .int (iI c), .null, .null] (v3.toList ++ [.int (iI (D : Int))])) : V 108 I J P 167 [.ref 78, .int (iI w0), .int (iI o0), .int (iI (D : Int)), .null, .null, .null] [] := by
  obtain ⟨o1, o7, o9, o10, o11, o16, o17, o18, o19, o20, o25, o26, o28, o29, o30, o31, o36, o37, o38, o39, o40, o41, o42, o43, o44, o45, o46, o47, o48⟩ := id hM
  refine r_iload_n hV dX12_byTurns_167 rfl ?_
  refine s_if_lt hV 302 dX12_byTurns_168 (by decide) (by unfold z_rg; first | omega | (split <;> omega)) (fun c168 => absurd c168 (by omega)) (fun _ => ?_)
  refine r_aload_n hV dX12_byTurns_171 rfl rfl ?_
  refine r_getR hV dX12_byTurns_172 fl_X12_81 (by first | decide | omega) (by first | rfl | assumption) o42 ?_
  refine r_iload_n hV dX12_byTurns_175 rfl ?_
  refine s_iaload hV dX12_byTurns_176 (by first | decide | omega) (by first | rfl | assumption) (by decide) (by omega) (by omega) (show I 101 ((D : Nat) : Int).toNat = iI (c) from by rw [Int.toNat_natCast]; exact e101) ?_
  refine r_istore hV dX12_byTurns_177 (Nat.le_of_ble_eq_true rfl) (z_st1_7_4 rfl) ?_
  refine r_aload_n hV dX12_byTurns_179 rfl rfl ?_
  refine r_getR hV dX12_byTurns_180 fl_X12_75 (by first | decide | omega) (by first | rfl | assumption) o40 ?_
  refine r_iload_n hV dX12_byTurns_183 rfl ?_
  refine s_iaload hV dX12_byTurns_184 (by first | decide | omega) (by first | rfl | assumption) (by decide) (by omega) (by omega) (show I 99 ((D : Nat) : Int).toNat = iI ((home : Int)) from by rw [Int.toNat_natCast]; exact e99) ?_
  refine s_iconst hV dX12_byTurns_185 (3) (by decide) ?_
  refine s_icmp_eq hV 198 dX12_byTurns_186 (by decide) (by unfold z_rg; first | omega | (split <;> omega)) (by unfold z_rg; first | omega | (split <;> omega)) (fun c186 => absurd c186 (by omega)) (fun _ => ?_)
  refine r_iload hV dX12_byTurns_189 rfl ?_
  refine r_aload_n hV dX12_byTurns_191 rfl rfl ?_
  refine r_getI hV dX12_byTurns_192 fl_X12_111 (by first | decide | omega) (by first | rfl | assumption) h8 ?_
  refine s_icmp_le hV 271 dX12_byTurns_195 (by decide) (by unfold z_rg; first | omega | (split <;> omega)) (by unfold z_rg; first | omega | (split <;> omega)) (fun _ => ?_) (fun c195 => absurd (by omega) c195)
  refine r_aload_n hV dX12_byTurns_271 rfl rfl ?_
  refine r_getR hV dX12_byTurns_272 fl_X12_81 (by first | decide | omega) (by first | rfl | assumption) o42 ?_
  refine r_iload_n hV dX12_byTurns_275 rfl ?_
  refine r_dup2 hV dX12_byTurns_276 rfl rfl ?_
  refine s_iaload hV dX12_byTurns_277 (by first | decide | omega) (by first | rfl | assumption) (by decide) (by omega) (by omega) (show I 101 ((D : Nat) : Int).toNat = iI (c) from by rw [Int.toNat_natCast]; exact e101) ?_
  refine s_iconst hV dX12_byTurns_278 (1) (by decide) ?_
  refine s_iadd hV dX12_byTurns_279 ?_
  refine s_iastore hV dX12_byTurns_280 (by first | decide | omega) (by first | rfl | assumption) (by decide) (by omega) (by omega) ?_
  rw [Int.toNat_natCast]
  refine r_iload_n hV dX12_byTurns_281 rfl ?_
  refine r_aload_n hV dX12_byTurns_282 rfl rfl ?_
  refine r_iload_n hV dX12_byTurns_283 rfl ?_
  refine r_iload hV dX12_byTurns_284 rfl ?_
  refine r_iv2 hV dX12_byTurns_286 mv_X12_247 (hsp) (by first | decide | omega) (by first | rfl | assumption) (by decide) (Nat.le_refl _) (Nat.le_of_ble_eq_true rfl) (fun v3 I3 J3 P3 hq => ?_)
  exact hk v3 I3 J3 P3 hq

set_option maxRecDepth 20000 in
theorem n_btB {V : Nat → zI → zJ → zP → Nat → List Value → List Value → Prop} {ini : Bool} {ret : Option FieldType} {post : Option Value → zI → zJ → zP → Prop} (I : zI) (J : zJ) (P : zP) (hM : mK P) (w0 o0 : Int) (D : Nat) (hD : D ≤ 8) (c : Int) (e101 : I 101 D = iI c) (hc : 0 ≤ c ∧ c ≤ 10) (e : Nat) (h8 : I 78 8 = iI (e : Int)) (he6 : e ≤ 6) (home : Nat) (e99 : I 99 D = iI (home : Int)) (hh3 : home ≤ 3) (hn3 : home ≠ 3) (hce : (e : Int) < c) (x y : Int) (e104 : I 104 D = iI x) (e105 : I 105 D = iI y) (hV : z_Cl yX12_byTurns.cls cX12_byTurns 5 108 ini none ret post V) (hk : V 108 I J P 252 [.ref 78, .int (iI w0), .int (iI o0), .int (iI (D : Int)), .null, .int (iI x), .int (iI y)] []) : V 108 I J P 167 [.ref 78, .int (iI w0), .int (iI o0), .int (iI (D : Int)), .null, .null, .null] [] := by
  obtain ⟨o1, o7, o9, o10, o11, o16, o17, o18, o19, o20, o25, o26, o28, o29, o30, o31, o36, o37, o38, o39, o40, o41, o42, o43, o44, o45, o46, o47, o48⟩ := id hM
  refine r_iload_n hV dX12_byTurns_167 rfl ?_
  refine s_if_lt hV 302 dX12_byTurns_168 (by decide) (by unfold z_rg; first | omega | (split <;> omega)) (fun c168 => absurd c168 (by omega)) (fun _ => ?_)
  refine r_aload_n hV dX12_byTurns_171 rfl rfl ?_
  refine r_getR hV dX12_byTurns_172 fl_X12_81 (by first | decide | omega) (by first | rfl | assumption) o42 ?_
  refine r_iload_n hV dX12_byTurns_175 rfl ?_
  refine s_iaload hV dX12_byTurns_176 (by first | decide | omega) (by first | rfl | assumption) (by decide) (by omega) (by omega) (show I 101 ((D : Nat) : Int).toNat = iI (c) from by rw [Int.toNat_natCast]; exact e101) ?_
  refine r_istore hV dX12_byTurns_177 (Nat.le_of_ble_eq_true rfl) (z_st1_7_4 rfl) ?_
  refine r_aload_n hV dX12_byTurns_179 rfl rfl ?_
  refine r_getR hV dX12_byTurns_180 fl_X12_75 (by first | decide | omega) (by first | rfl | assumption) o40 ?_
  refine r_iload_n hV dX12_byTurns_183 rfl ?_
  refine s_iaload hV dX12_byTurns_184 (by first | decide | omega) (by first | rfl | assumption) (by decide) (by omega) (by omega) (show I 99 ((D : Nat) : Int).toNat = iI ((home : Int)) from by rw [Int.toNat_natCast]; exact e99) ?_
  refine s_iconst hV dX12_byTurns_185 (3) (by decide) ?_
  refine s_icmp_eq hV 198 dX12_byTurns_186 (by decide) (by unfold z_rg; first | omega | (split <;> omega)) (by unfold z_rg; first | omega | (split <;> omega)) (fun c186 => absurd c186 (by omega)) (fun _ => ?_)
  refine r_iload hV dX12_byTurns_189 rfl ?_
  refine r_aload_n hV dX12_byTurns_191 rfl rfl ?_
  refine r_getI hV dX12_byTurns_192 fl_X12_111 (by first | decide | omega) (by first | rfl | assumption) h8 ?_
  refine s_icmp_le hV 271 dX12_byTurns_195 (by decide) (by unfold z_rg; first | omega | (split <;> omega)) (by unfold z_rg; first | omega | (split <;> omega)) (fun c195 => absurd c195 (by omega)) (fun _ => ?_)
  refine r_aload_n hV dX12_byTurns_198 rfl rfl ?_
  refine r_getR hV dX12_byTurns_199 fl_X12_75 (by first | decide | omega) (by first | rfl | assumption) o40 ?_
  refine r_iload_n hV dX12_byTurns_202 rfl ?_
  refine s_iaload hV dX12_byTurns_203 (by first | decide | omega) (by first | rfl | assumption) (by decide) (by omega) (by omega) (show I 99 ((D : Nat) : Int).toNat = iI ((home : Int)) from by rw [Int.toNat_natCast]; exact e99) ?_
  refine s_iconst hV dX12_byTurns_204 (3) (by decide) ?_
  refine s_icmp_ne hV 217 dX12_byTurns_205 (by decide) (by unfold z_rg; first | omega | (split <;> omega)) (by unfold z_rg; first | omega | (split <;> omega)) (fun _ => ?_) (fun c205 => absurd c205 (by omega))
  refine r_aload_n hV dX12_byTurns_217 rfl rfl ?_
  refine r_getR hV dX12_byTurns_218 fl_X12_90 (by first | decide | omega) (by first | rfl | assumption) o45 ?_
  refine r_iload_n hV dX12_byTurns_221 rfl ?_
  refine s_iaload hV dX12_byTurns_222 (by first | decide | omega) (by first | rfl | assumption) (by decide) (by omega) (by omega) (show I 104 ((D : Nat) : Int).toNat = iI (x) from by rw [Int.toNat_natCast]; exact e104) ?_
  refine r_istore hV dX12_byTurns_223 (Nat.le_of_ble_eq_true rfl) (z_st1_7_5 rfl) ?_
  refine r_aload_n hV dX12_byTurns_225 rfl rfl ?_
  refine r_getR hV dX12_byTurns_226 fl_X12_75 (by first | decide | omega) (by first | rfl | assumption) o40 ?_
  refine r_iload_n hV dX12_byTurns_229 rfl ?_
  refine s_iaload hV dX12_byTurns_230 (by first | decide | omega) (by first | rfl | assumption) (by decide) (by omega) (by omega) (show I 99 ((D : Nat) : Int).toNat = iI ((home : Int)) from by rw [Int.toNat_natCast]; exact e99) ?_
  refine s_iconst hV dX12_byTurns_231 (3) (by decide) ?_
  refine s_icmp_ne hV 244 dX12_byTurns_232 (by decide) (by unfold z_rg; first | omega | (split <;> omega)) (by unfold z_rg; first | omega | (split <;> omega)) (fun _ => ?_) (fun c232 => absurd c232 (by omega))
  refine r_aload_n hV dX12_byTurns_244 rfl rfl ?_
  refine r_getR hV dX12_byTurns_245 fl_X12_93 (by first | decide | omega) (by first | rfl | assumption) o46 ?_
  refine r_iload_n hV dX12_byTurns_248 rfl ?_
  refine s_iaload hV dX12_byTurns_249 (by first | decide | omega) (by first | rfl | assumption) (by decide) (by omega) (by omega) (show I 105 ((D : Nat) : Int).toNat = iI (y) from by rw [Int.toNat_natCast]; exact e105) ?_
  refine r_istore hV dX12_byTurns_250 (Nat.le_of_ble_eq_true rfl) (z_st1_7_6 rfl) ?_
  refine r_kill hV 4 z_stk_7_4 ?_
  exact hk

set_option maxRecDepth 20000 in
theorem n_btC {V : Nat → zI → zJ → zP → Nat → List Value → List Value → Prop} {ini : Bool} {ret : Option FieldType} {post : Option Value → zI → zJ → zP → Prop} (I : zI) (J : zJ) (P : zP) (hM : mK P) (w0 o0 : Int) (D : Nat) (hD : D ≤ 8) (c : Int) (e101 : I 101 D = iI c) (hc : 0 ≤ c ∧ c ≤ 10) (e99 : I 99 D = iI ((3 : Nat) : Int)) (x y : Int) (e102 : I 102 D = iI x) (e103 : I 103 D = iI y) (hV : z_Cl yX12_byTurns.cls cX12_byTurns 5 108 ini none ret post V) (hk : V 108 I J P 252 [.ref 78, .int (iI w0), .int (iI o0), .int (iI (D : Int)), .null, .int (iI x), .int (iI y)] []) : V 108 I J P 167 [.ref 78, .int (iI w0), .int (iI o0), .int (iI (D : Int)), .null, .null, .null] [] := by
  obtain ⟨o1, o7, o9, o10, o11, o16, o17, o18, o19, o20, o25, o26, o28, o29, o30, o31, o36, o37, o38, o39, o40, o41, o42, o43, o44, o45, o46, o47, o48⟩ := id hM
  refine r_iload_n hV dX12_byTurns_167 rfl ?_
  refine s_if_lt hV 302 dX12_byTurns_168 (by decide) (by unfold z_rg; first | omega | (split <;> omega)) (fun c168 => absurd c168 (by omega)) (fun _ => ?_)
  refine r_aload_n hV dX12_byTurns_171 rfl rfl ?_
  refine r_getR hV dX12_byTurns_172 fl_X12_81 (by first | decide | omega) (by first | rfl | assumption) o42 ?_
  refine r_iload_n hV dX12_byTurns_175 rfl ?_
  refine s_iaload hV dX12_byTurns_176 (by first | decide | omega) (by first | rfl | assumption) (by decide) (by omega) (by omega) (show I 101 ((D : Nat) : Int).toNat = iI (c) from by rw [Int.toNat_natCast]; exact e101) ?_
  refine r_istore hV dX12_byTurns_177 (Nat.le_of_ble_eq_true rfl) (z_st1_7_4 rfl) ?_
  refine r_aload_n hV dX12_byTurns_179 rfl rfl ?_
  refine r_getR hV dX12_byTurns_180 fl_X12_75 (by first | decide | omega) (by first | rfl | assumption) o40 ?_
  refine r_iload_n hV dX12_byTurns_183 rfl ?_
  refine s_iaload hV dX12_byTurns_184 (by first | decide | omega) (by first | rfl | assumption) (by decide) (by omega) (by omega) (show I 99 ((D : Nat) : Int).toNat = iI (((3 : Nat) : Int)) from by rw [Int.toNat_natCast]; exact e99) ?_
  refine s_iconst hV dX12_byTurns_185 (3) (by decide) ?_
  refine s_icmp_eq hV 198 dX12_byTurns_186 (by decide) (by unfold z_rg; first | omega | (split <;> omega)) (by unfold z_rg; first | omega | (split <;> omega)) (fun _ => ?_) (fun c186 => absurd (by decide) c186)
  refine r_aload_n hV dX12_byTurns_198 rfl rfl ?_
  refine r_getR hV dX12_byTurns_199 fl_X12_75 (by first | decide | omega) (by first | rfl | assumption) o40 ?_
  refine r_iload_n hV dX12_byTurns_202 rfl ?_
  refine s_iaload hV dX12_byTurns_203 (by first | decide | omega) (by first | rfl | assumption) (by decide) (by omega) (by omega) (show I 99 ((D : Nat) : Int).toNat = iI (((3 : Nat) : Int)) from by rw [Int.toNat_natCast]; exact e99) ?_
  refine s_iconst hV dX12_byTurns_204 (3) (by decide) ?_
  refine s_icmp_ne hV 217 dX12_byTurns_205 (by decide) (by unfold z_rg; first | omega | (split <;> omega)) (by unfold z_rg; first | omega | (split <;> omega)) (fun c205 => absurd c205 (by decide)) (fun _ => ?_)
  refine r_aload_n hV dX12_byTurns_208 rfl rfl ?_
  refine r_getR hV dX12_byTurns_209 fl_X12_84 (by first | decide | omega) (by first | rfl | assumption) o43 ?_
  refine r_iload_n hV dX12_byTurns_212 rfl ?_
  refine s_iaload hV dX12_byTurns_213 (by first | decide | omega) (by first | rfl | assumption) (by decide) (by omega) (by omega) (show I 102 ((D : Nat) : Int).toNat = iI (x) from by rw [Int.toNat_natCast]; exact e102) ?_
  refine r_goto hV 223 dX12_byTurns_214 (by decide) ?_
  refine r_istore hV dX12_byTurns_223 (Nat.le_of_ble_eq_true rfl) (z_st1_7_5 rfl) ?_
  refine r_aload_n hV dX12_byTurns_225 rfl rfl ?_
  refine r_getR hV dX12_byTurns_226 fl_X12_75 (by first | decide | omega) (by first | rfl | assumption) o40 ?_
  refine r_iload_n hV dX12_byTurns_229 rfl ?_
  refine s_iaload hV dX12_byTurns_230 (by first | decide | omega) (by first | rfl | assumption) (by decide) (by omega) (by omega) (show I 99 ((D : Nat) : Int).toNat = iI (((3 : Nat) : Int)) from by rw [Int.toNat_natCast]; exact e99) ?_
  refine s_iconst hV dX12_byTurns_231 (3) (by decide) ?_
  refine s_icmp_ne hV 244 dX12_byTurns_232 (by decide) (by unfold z_rg; first | omega | (split <;> omega)) (by unfold z_rg; first | omega | (split <;> omega)) (fun c232 => absurd c232 (by decide)) (fun _ => ?_)
  refine r_aload_n hV dX12_byTurns_235 rfl rfl ?_
  refine r_getR hV dX12_byTurns_236 fl_X12_87 (by first | decide | omega) (by first | rfl | assumption) o44 ?_
  refine r_iload_n hV dX12_byTurns_239 rfl ?_
  refine s_iaload hV dX12_byTurns_240 (by first | decide | omega) (by first | rfl | assumption) (by decide) (by omega) (by omega) (show I 103 ((D : Nat) : Int).toNat = iI (y) from by rw [Int.toNat_natCast]; exact e103) ?_
  refine r_goto hV 250 dX12_byTurns_241 (by decide) ?_
  refine r_istore hV dX12_byTurns_250 (Nat.le_of_ble_eq_true rfl) (z_st1_7_6 rfl) ?_
  refine r_kill hV 4 z_stk_7_4 ?_
  exact hk

set_option maxRecDepth 20000 in
theorem n_btD {V : Nat → zI → zJ → zP → Nat → List Value → List Value → Prop} {ini : Bool} {ret : Option FieldType} {post : Option Value → zI → zJ → zP → Prop} (I : zI) (J : zJ) (P : zP) (hM : mK P) (w0 o0 : Int) (D : Nat) (hD : D ≤ 8) (hD7 : D ≤ 7) (a b : Int) {post1 : Option Value → zI → zJ → zP → Prop} (hsp : z_Sp 0 yX12_take cX12_take 5 none 108 108 I J P [.ref 78, .int (iI (D : Int)), .int (iI a), .int (iI b)] post1) (hV : z_Cl yX12_byTurns.cls cX12_byTurns 5 108 ini none ret post V) (hk : ∀ v3 I3 J3 P3, post1 v3 I3 J3 P3 → v3 = none ∧ V 108 I3 J3 P3 167 [.ref 78, .int (iI w0), .int (iI o0), .int (iI (D : Int)), .null, .null, .null] []) : V 108 I J P 252 [.ref 78, .int (iI w0), .int (iI o0), .int (iI ((D : Int) + 1)), .null, .int (iI a), .int (iI b)] [] := by
  obtain ⟨o1, o7, o9, o10, o11, o16, o17, o18, o19, o20, o25, o26, o28, o29, o30, o31, o36, o37, o38, o39, o40, o41, o42, o43, o44, o45, o46, o47, o48⟩ := id hM
  refine s_iinc hV dX12_byTurns_252 rfl (z_st1_7_3 rfl) ?_
  rw [show (D : Int) + 1 + -1 = (D : Int) by omega]
  refine r_iload_n hV dX12_byTurns_255 rfl ?_
  refine s_if_lt hV 268 dX12_byTurns_256 (by decide) (by unfold z_rg; first | omega | (split <;> omega)) (fun c256 => absurd c256 (by omega)) (fun _ => ?_)
  refine r_aload_n hV dX12_byTurns_259 rfl rfl ?_
  refine r_iload_n hV dX12_byTurns_260 rfl ?_
  refine r_iload hV dX12_byTurns_261 rfl ?_
  refine r_iload hV dX12_byTurns_263 rfl ?_
  refine r_iv3 hV dX12_byTurns_265 mv_X12_244 (hsp) (by first | decide | omega) (by first | rfl | assumption) (by decide) (Nat.le_refl _) (Nat.le_of_ble_eq_true rfl) (fun v3 I3 J3 P3 hq => ?_)
  obtain ⟨rfl, hk2⟩ := hk v3 I3 J3 P3 hq
  show V 108 I3 J3 P3 _ _ []
  refine r_goto hV 299 dX12_byTurns_268 (by decide) ?_
  refine r_goto hV 167 dX12_byTurns_299 (by decide) ?_
  refine r_kill hV 5 z_stk_7_5 ?_
  refine r_kill hV 6 z_stk_7_6 ?_
  exact hk2

set_option maxRecDepth 20000 in
theorem n_btE1 {V : Nat → zI → zJ → zP → Nat → List Value → List Value → Prop} {ini : Bool} {ret : Option FieldType} {post : Option Value → zI → zJ → zP → Prop} (I : zI) (J : zJ) (P : zP) (hM : mK P) (w0 o0 : Int) (D : Nat) (hD : D ≤ 8) (c : Int) (hV : z_Cl yX12_byTurns.cls cX12_byTurns 5 108 ini none ret post V) (hk : V 108 I J P 167 [.ref 78, .int (iI w0), .int (iI o0), .int (iI ((D : Int) + 1)), .null, .null, .null] []) : V 108 I J P 289 [.ref 78, .int (iI w0), .int (iI o0), .int (iI (D : Int)), .int (iI c), .null, .null] [.int (iI 1), .int (iI (D : Int))] := by
  refine s_if_eq hV 296 dX12_byTurns_289 (by decide) (by unfold z_rg; first | omega | (split <;> omega)) (fun c289 => absurd c289 (by decide)) (fun _ => ?_)
  refine s_iconst hV dX12_byTurns_292 (1) (by decide) ?_
  refine r_goto hV 297 dX12_byTurns_293 (by decide) ?_
  refine s_iadd hV dX12_byTurns_297 ?_
  refine r_istore_n hV dX12_byTurns_298 (Nat.le_of_ble_eq_true rfl) (z_st1_7_3 rfl) ?_
  refine r_goto hV 167 dX12_byTurns_299 (by decide) ?_
  refine r_kill hV 4 z_stk_7_4 ?_
  exact hk

set_option maxRecDepth 20000 in
theorem n_btE0 {V : Nat → zI → zJ → zP → Nat → List Value → List Value → Prop} {ini : Bool} {ret : Option FieldType} {post : Option Value → zI → zJ → zP → Prop} (I : zI) (J : zJ) (P : zP) (hM : mK P) (w0 o0 : Int) (D : Nat) (hD : D ≤ 8) (c : Int) (hV : z_Cl yX12_byTurns.cls cX12_byTurns 5 108 ini none ret post V) (hk : V 108 I J P 167 [.ref 78, .int (iI w0), .int (iI o0), .int (iI (D : Int)), .null, .null, .null] []) : V 108 I J P 289 [.ref 78, .int (iI w0), .int (iI o0), .int (iI (D : Int)), .int (iI c), .null, .null] [.int (iI 0), .int (iI (D : Int))] := by
  refine s_if_eq hV 296 dX12_byTurns_289 (by decide) (by unfold z_rg; first | omega | (split <;> omega)) (fun _ => ?_) (fun c289 => absurd (by decide) c289)
  refine s_iconst hV dX12_byTurns_296 (0) (by decide) ?_
  refine s_iadd hV dX12_byTurns_297 ?_
  rw [Int.add_zero]
  refine r_istore_n hV dX12_byTurns_298 (Nat.le_of_ble_eq_true rfl) (z_st1_7_3 rfl) ?_
  refine r_goto hV 167 dX12_byTurns_299 (by decide) ?_
  refine r_kill hV 4 z_stk_7_4 ?_
  exact hk

