/-! THE LAW: each pair of calls, walked -/
theorem s_scl {V : Nat → zI → zJ → zP → Nat → List Value → List Value → Prop} {post : Option Value → zI → zJ → zP → Prop} {L : Nat} {xs : Nat → Int32} (hV : z_Cl RL cL_law 11 108 false (some (L, xs)) (some .boolean) post V) {n : Nat} {I : zI} {J : zJ} {P : zP} {pc : Nat} {ls r : List Value} {f : UInt32} {z : Int} (hd : decode cL_law pc = .ok (.iaload, 1)) (hL : L ≤ 2048) (h0 : 0 ≤ z) (h1 : z < L) (k : V n I J P (pc + 1) ls (.int (iI (xs z.toNat).toInt) :: r)) : V n I J P pc ls (.int (iI z) :: .float f :: r) := by
  refine r_saload hV hd rfl (iI_in h0 h1 (by omega)) ?_
  rw [iI_clamp h0 (by omega)]
  rw [← iI_of] at k
  exact k
theorem s_sln {V : Nat → zI → zJ → zP → Nat → List Value → List Value → Prop} {post : Option Value → zI → zJ → zP → Prop} {L : Nat} {xs : Nat → Int32} (hV : z_Cl RL cL_law 11 108 false (some (L, xs)) (some .boolean) post V) {n : Nat} {I : zI} {J : zJ} {P : zP} {pc : Nat} {ls r : List Value} {f : UInt32} (hd : decode cL_law pc = .ok (.arraylength, 1)) (k : V n I J P (pc + 1) ls (.int (iI (L : Int)) :: r)) : V n I J P pc ls (.float f :: r) := by
  refine r_slen hV hd rfl ?_
  rw [show Int32.ofNat L = iI (L : Int) from (Int32.ofInt_eq_ofNat ..).symm]
  exact k
theorem l_eqI {V : Nat → zI → zJ → zP → Nat → List Value → List Value → Prop} {post : Option Value → zI → zJ → zP → Prop} {L : Nat} {xs : Nat → Int32} (hV : z_Cl RL cL_law 11 108 false (some (L, xs)) (some .boolean) post V) {n : Nat} {I : zI} {J : zJ} {P : zP} {pc : Nat} {ls : List Value} {o : Int} {x : Int32} (hd : decode cL_law pc = .ok (.if_icmp .eq o, 3)) (ht : (pc : Int) + o = ((897 : Nat) : Int)) (k : V n I J P 897 ls []) : V n I J P pc ls [.int x, .int x] := r_icmp_eq hV 897 hd ht (fun _ => k) (fun h => absurd rfl h)
theorem lg_cmp_s (x : Int64) : lg_cmp x x = 0 := by
  rw [lI_of x, lcmp_I (z_rgL_of x) (z_rgL_of x)]
  unfold z_cmp
  rw [if_neg (by omega), if_pos rfl]
  rfl
theorem l_eqL {V : Nat → zI → zJ → zP → Nat → List Value → List Value → Prop} {post : Option Value → zI → zJ → zP → Prop} {L : Nat} {xs : Nat → Int32} (hV : z_Cl RL cL_law 11 108 false (some (L, xs)) (some .boolean) post V) {n : Nat} {I : zI} {J : zJ} {P : zP} {pc : Nat} {ls : List Value} {o : Int} {x : Int64} (hd : decode cL_law pc = .ok (.lcmp, 1)) (hd2 : decode cL_law (pc + 1) = .ok (.ifCond .eq o, 3)) (ht : ((pc + 1 : Nat) : Int) + o = ((897 : Nat) : Int)) (k : V n I J P 897 ls []) : V n I J P pc ls [.long x, .long x] := by
  refine r_lcmp hV hd (r_if_eq hV 897 hd2 ht (fun _ => k) (fun h => absurd (lg_cmp_s x) h))
set_option maxRecDepth 20000 in
theorem l_write {V : Nat → zI → zJ → zP → Nat → List Value → List Value → Prop} {post : Option Value → zI → zJ → zP → Prop} {L : Nat} {xs : Nat → Int32} (hV : z_Cl RL cL_law 11 108 false (some (L, xs)) (some .boolean) post V) (hL : L ≤ 2048) {b : Int} (hb : 999 ≤ b ∧ b + 109 ≤ 90000) {I : zI} {J : zJ} {P : zP} (h : lInv b I P) {f : UInt32} {i : Int} (hi : 0 ≤ i ∧ i + 4 ≤ L) (hgo : ∀ (I : zI) (J : zJ) (P : zP), lInv (b + 109) I P → V 108 I J P 897 [.float f, .ref 0, .ref 78, .int (iI i)] []) : V 108 I J P 148 [.float f, .ref 0, .ref 78, .int (iI i)] [] := by
  obtain ⟨d, d1, n, e, tl, st, r, c, nx, T, F, W, U, K, S, H, FU, SL, hC, hM, hB⟩ := h
  obtain ⟨hnb, he6, htb, hTb, hsb, hcb, hxb, hFk, hFb, ⟨hWb, hWb5⟩, hUb, hKb, hFUb, hGS, hHg, hSg⟩ := id hB
  obtain ⟨hK, q10, q11, hdd, hRw, ⟨hn, hst, hr, he⟩, ⟨hF, hW, hU, hKk⟩, hdf, hS, ⟨hc, hnx⟩, hring, hFU, hSL, htl, hT⟩ := id hC
  obtain ⟨W0, U0, K0, hW0, hU0, hK0, hW0b, hU0b, hK0b⟩ := id hdf
  obtain ⟨dn, dh, hg, hS2⟩ := id hGS
  refine r_aload_n hV dL_law_148 rfl rfl ?_
  refine r_aload_n hV dL_law_149 rfl rfl ?_
  refine r_iload_n hV dL_law_150 rfl ?_
  refine s_iconst hV dL_law_151 (1) (by decide) ?_
  refine s_iadd hV dL_law_152 ?_
  refine s_scl hV dL_law_153 hL (by omega) (by omega) ?_
  refine r_aload_n hV dL_law_154 rfl rfl ?_
  refine r_iload_n hV dL_law_155 rfl ?_
  refine s_iconst hV dL_law_156 (2) (by decide) ?_
  refine s_iadd hV dL_law_157 ?_
  refine s_scl hV dL_law_158 hL (by omega) (by omega) ?_
  refine s_i2l hV dL_law_159 (z_rg_of _) ?_
  refine s_bipush hV dL_law_160 (32) (by decide) ?_
  refine s_lshl hV dL_law_162 rfl ?_
  refine r_aload_n hV dL_law_163 rfl rfl ?_
  refine r_iload_n hV dL_law_164 rfl ?_
  refine s_iconst hV dL_law_165 (3) (by decide) ?_
  refine s_iadd hV dL_law_166 ?_
  refine s_scl hV dL_law_167 hL (by omega) (by omega) ?_
  refine s_i2l hV dL_law_168 (z_rg_of _) ?_
  refine s_ldc2_w hV dL_law_169 cl_L_13 (4294967295) (by decide) ?_
  refine s_land hV dL_law_172 rfl ?_
  refine s_lor hV dL_law_173 rfl ?_
  refine r_iv2 hV dL_law_174 mv_L_15 (m_write I J P d d1 hK q10 q11 hdd tl htl htb T hT hTb _ (z_rg_of _) _) (by first | decide | omega) (by first | rfl | assumption) (by decide) (Nat.le_refl _) (Nat.le_of_ble_eq_true rfl) (fun v I1 J1 P1 hq => ?_)
  obtain ⟨⟨x, rfl⟩, hkp⟩ : lSh I P v I1 P1 := sh_ite hq (fun _ => sh_no) (fun c1 hq => sh_ite hq (fun _ => sh_no) (fun c1 hq => sh_txt hq))
  show V 108 I1 J1 P1 _ _ [.int x]
  have hM1 := lM_kp hM hkp
  obtain ⟨mK1, mI1, mB1, mL1⟩ := id hM1
  refine r_aload_n hV dL_law_177 rfl rfl ?_
  refine r_aload_n hV dL_law_178 rfl rfl ?_
  refine r_iload_n hV dL_law_179 rfl ?_
  refine s_iconst hV dL_law_180 (1) (by decide) ?_
  refine s_iadd hV dL_law_181 ?_
  refine s_scl hV dL_law_182 hL (by omega) (by omega) ?_
  refine r_aload_n hV dL_law_183 rfl rfl ?_
  refine r_iload_n hV dL_law_184 rfl ?_
  refine s_iconst hV dL_law_185 (2) (by decide) ?_
  refine s_iadd hV dL_law_186 ?_
  refine s_scl hV dL_law_187 hL (by omega) (by omega) ?_
  refine s_i2l hV dL_law_188 (z_rg_of _) ?_
  refine s_bipush hV dL_law_189 (32) (by decide) ?_
  refine s_lshl hV dL_law_191 rfl ?_
  refine r_aload_n hV dL_law_192 rfl rfl ?_
  refine r_iload_n hV dL_law_193 rfl ?_
  refine s_iconst hV dL_law_194 (3) (by decide) ?_
  refine s_iadd hV dL_law_195 ?_
  refine s_scl hV dL_law_196 hL (by omega) (by omega) ?_
  refine s_i2l hV dL_law_197 (z_rg_of _) ?_
  refine s_ldc2_w hV dL_law_198 cl_L_13 (4294967295) (by decide) ?_
  refine s_land hV dL_law_201 rfl ?_
  refine s_lor hV dL_law_202 rfl ?_
  refine r_iv2 hV dL_law_203 mv_L_19 (n_write I1 J1 P1 mK1 tl st r c _ e T F W U K S mI1 htb _ (z_rg_of _) _) (by first | decide | omega) (by first | rfl | assumption) (by decide) (Nat.le_refl _) (Nat.le_of_ble_eq_true rfl) (fun v2 I2 J2 P2 hq2 => ?_)
  obtain ⟨rfl, hI⟩ := pr_write hb hC hB hq hM1 hq2
  show V 108 I2 J2 P2 _ _ [.int x, .int x]
  exact l_eqI hV dL_law_206 (by decide) (hgo _ _ _ hI)
set_option maxRecDepth 20000 in
theorem l_wipe {V : Nat → zI → zJ → zP → Nat → List Value → List Value → Prop} {post : Option Value → zI → zJ → zP → Prop} {L : Nat} {xs : Nat → Int32} (hV : z_Cl RL cL_law 11 108 false (some (L, xs)) (some .boolean) post V) (hL : L ≤ 2048) {b : Int} (hb : 999 ≤ b ∧ b + 109 ≤ 90000) {I : zI} {J : zJ} {P : zP} (h : lInv b I P) {f : UInt32} {i : Int} (hi : 0 ≤ i ∧ i + 4 ≤ L) (hgo : ∀ (I : zI) (J : zJ) (P : zP), lInv (b + 109) I P → V 108 I J P 897 [.float f, .ref 0, .ref 78, .int (iI i)] []) : V 108 I J P 211 [.float f, .ref 0, .ref 78, .int (iI i)] [] := by
  obtain ⟨d, d1, n, e, tl, st, r, c, nx, T, F, W, U, K, S, H, FU, SL, hC, hM, hB⟩ := h
  obtain ⟨hnb, he6, htb, hTb, hsb, hcb, hxb, hFk, hFb, ⟨hWb, hWb5⟩, hUb, hKb, hFUb, hGS, hHg, hSg⟩ := id hB
  obtain ⟨hK, q10, q11, hdd, hRw, ⟨hn, hst, hr, he⟩, ⟨hF, hW, hU, hKk⟩, hdf, hS, ⟨hc, hnx⟩, hring, hFU, hSL, htl, hT⟩ := id hC
  obtain ⟨W0, U0, K0, hW0, hU0, hK0, hW0b, hU0b, hK0b⟩ := id hdf
  obtain ⟨dn, dh, hg, hS2⟩ := id hGS
  refine r_aload_n hV dL_law_211 rfl rfl ?_
  refine r_iv0 hV dL_law_212 mv_L_20 (m_wipe I J P d d1 hK q10 q11 hdd tl htl htb T hT hTb) (by first | decide | omega) (by first | rfl | assumption) (by decide) (Nat.le_refl _) (Nat.le_of_ble_eq_true rfl) (fun v I1 J1 P1 hq => ?_)
  obtain ⟨⟨x, rfl⟩, hkp⟩ : lSh I P v I1 P1 := sh_txt hq
  show V 108 I1 J1 P1 _ _ [.int x]
  have hM1 := lM_kp hM hkp
  obtain ⟨mK1, mI1, mB1, mL1⟩ := id hM1
  refine r_aload_n hV dL_law_215 rfl rfl ?_
  refine r_iv0 hV dL_law_216 mv_L_24 (n_wipe I1 J1 P1 mK1 tl st r c n e T F W U K S mI1) (by first | decide | omega) (by first | rfl | assumption) (by decide) (Nat.le_refl _) (Nat.le_of_ble_eq_true rfl) (fun v2 I2 J2 P2 hq2 => ?_)
  obtain ⟨rfl, hI⟩ := pr_wipe hb hC hB hq hM1 hq2
  show V 108 I2 J2 P2 _ _ [.int x, .int x]
  exact l_eqI hV dL_law_219 (by decide) (hgo _ _ _ hI)
set_option maxRecDepth 20000 in
theorem l_fault {V : Nat → zI → zJ → zP → Nat → List Value → List Value → Prop} {post : Option Value → zI → zJ → zP → Prop} {L : Nat} {xs : Nat → Int32} (hV : z_Cl RL cL_law 11 108 false (some (L, xs)) (some .boolean) post V) (hL : L ≤ 2048) {b : Int} (hb : 999 ≤ b ∧ b + 109 ≤ 90000) {I : zI} {J : zJ} {P : zP} (h : lInv b I P) {f : UInt32} {i : Int} (hi : 0 ≤ i ∧ i + 4 ≤ L) (hgo : ∀ (I : zI) (J : zJ) (P : zP), lInv (b + 109) I P → V 108 I J P 897 [.float f, .ref 0, .ref 78, .int (iI i)] []) : V 108 I J P 224 [.float f, .ref 0, .ref 78, .int (iI i)] [] := by
  obtain ⟨d, d1, n, e, tl, st, r, c, nx, T, F, W, U, K, S, H, FU, SL, hC, hM, hB⟩ := h
  obtain ⟨hnb, he6, htb, hTb, hsb, hcb, hxb, hFk, hFb, ⟨hWb, hWb5⟩, hUb, hKb, hFUb, hGS, hHg, hSg⟩ := id hB
  obtain ⟨hK, q10, q11, hdd, hRw, ⟨hn, hst, hr, he⟩, ⟨hF, hW, hU, hKk⟩, hdf, hS, ⟨hc, hnx⟩, hring, hFU, hSL, htl, hT⟩ := id hC
  obtain ⟨W0, U0, K0, hW0, hU0, hK0, hW0b, hU0b, hK0b⟩ := id hdf
  obtain ⟨dn, dh, hg, hS2⟩ := id hGS
  refine r_aload_n hV dL_law_224 rfl rfl ?_
  refine r_iv0 hV dL_law_225 mv_L_25 (m_fault I J P d d1 hK q10 q11 hdd tl htl htb T hT hTb W0 U0 K0 hW0 hU0 hK0 hW0b hU0b hK0b) (by first | decide | omega) (by first | rfl | assumption) (by decide) (Nat.le_refl _) (Nat.le_of_ble_eq_true rfl) (fun v I1 J1 P1 hq => ?_)
  obtain ⟨⟨x, rfl⟩, hkp⟩ : lSh I P v I1 P1 := sh_flt (by omega) hq
  show V 108 I1 J1 P1 _ _ [.int x]
  have hM1 := lM_kp hM hkp
  obtain ⟨mK1, mI1, mB1, mL1⟩ := id hM1
  refine r_aload_n hV dL_law_228 rfl rfl ?_
  refine r_iv0 hV dL_law_229 mv_L_28 (n_fault I1 J1 P1 mK1 tl mI1.1.1 htb T mI1.2.1 hTb) (by first | decide | omega) (by first | rfl | assumption) (by decide) (Nat.le_refl _) (Nat.le_of_ble_eq_true rfl) (fun v2 I2 J2 P2 hq2 => ?_)
  obtain ⟨rfl, hI⟩ := pr_fault hb hC hB hq hM1 hq2
  show V 108 I2 J2 P2 _ _ [.int x, .int x]
  exact l_eqI hV dL_law_232 (by decide) (hgo _ _ _ hI)
set_option maxRecDepth 20000 in
theorem l_day {V : Nat → zI → zJ → zP → Nat → List Value → List Value → Prop} {post : Option Value → zI → zJ → zP → Prop} {L : Nat} {xs : Nat → Int32} (hV : z_Cl RL cL_law 11 108 false (some (L, xs)) (some .boolean) post V) (hL : L ≤ 2048) {b : Int} (hb : 999 ≤ b ∧ b + 109 ≤ 90000) {I : zI} {J : zJ} {P : zP} (h : lInv b I P) {f : UInt32} {i : Int} (hi : 0 ≤ i ∧ i + 4 ≤ L) (hgo : ∀ (I : zI) (J : zJ) (P : zP), lInv (b + 109) I P → V 108 I J P 897 [.float f, .ref 0, .ref 78, .int (iI i)] []) : V 108 I J P 237 [.float f, .ref 0, .ref 78, .int (iI i)] [] := by
  obtain ⟨d, d1, n, e, tl, st, r, c, nx, T, F, W, U, K, S, H, FU, SL, hC, hM, hB⟩ := h
  obtain ⟨hnb, he6, htb, hTb, hsb, hcb, hxb, hFk, hFb, ⟨hWb, hWb5⟩, hUb, hKb, hFUb, hGS, hHg, hSg⟩ := id hB
  obtain ⟨hK, q10, q11, hdd, hRw, ⟨hn, hst, hr, he⟩, ⟨hF, hW, hU, hKk⟩, hdf, hS, ⟨hc, hnx⟩, hring, hFU, hSL, htl, hT⟩ := id hC
  obtain ⟨W0, U0, K0, hW0, hU0, hK0, hW0b, hU0b, hK0b⟩ := id hdf
  obtain ⟨dn, dh, hg, hS2⟩ := id hGS
  refine r_aload_n hV dL_law_237 rfl rfl ?_
  refine r_iv0 hV dL_law_238 mv_L_29 (m_day I J P d d1 hK q10 q11 hdd tl htl htb T hT hTb W0 U0 K0 hW0 hU0 hK0 hW0b hU0b hK0b S hS) (by first | decide | omega) (by first | rfl | assumption) (by decide) (Nat.le_refl _) (Nat.le_of_ble_eq_true rfl) (fun v I1 J1 P1 hq => ?_)
  obtain ⟨⟨x, rfl⟩, hkp⟩ : lSh I P v I1 P1 := sh_day (by omega) hq
  show V 108 I1 J1 P1 _ _ [.int x]
  have hM1 := lM_kp hM hkp
  obtain ⟨mK1, mI1, mB1, mL1⟩ := id hM1
  refine r_aload_n hV dL_law_241 rfl rfl ?_
  refine r_iv0 hV dL_law_242 mv_L_32 (n_day I1 J1 P1 mK1 tl st r c n e T F W U K S mI1 htb hTb) (by first | decide | omega) (by first | rfl | assumption) (by decide) (Nat.le_refl _) (Nat.le_of_ble_eq_true rfl) (fun v2 I2 J2 P2 hq2 => ?_)
  obtain ⟨rfl, hI⟩ := pr_day hb hC hB hq hM1 hq2
  show V 108 I2 J2 P2 _ _ [.int x, .int x]
  exact l_eqI hV dL_law_245 (by decide) (hgo _ _ _ hI)
set_option maxRecDepth 20000 in
theorem l_about {V : Nat → zI → zJ → zP → Nat → List Value → List Value → Prop} {post : Option Value → zI → zJ → zP → Prop} {L : Nat} {xs : Nat → Int32} (hV : z_Cl RL cL_law 11 108 false (some (L, xs)) (some .boolean) post V) (hL : L ≤ 2048) {b : Int} (hb : 999 ≤ b ∧ b + 109 ≤ 90000) {I : zI} {J : zJ} {P : zP} (h : lInv b I P) {f : UInt32} {i : Int} (hi : 0 ≤ i ∧ i + 4 ≤ L) (hgo : ∀ (I : zI) (J : zJ) (P : zP), lInv (b + 109) I P → V 108 I J P 897 [.float f, .ref 0, .ref 78, .int (iI i)] []) : V 108 I J P 250 [.float f, .ref 0, .ref 78, .int (iI i)] [] := by
  obtain ⟨d, d1, n, e, tl, st, r, c, nx, T, F, W, U, K, S, H, FU, SL, hC, hM, hB⟩ := h
  obtain ⟨hnb, he6, htb, hTb, hsb, hcb, hxb, hFk, hFb, ⟨hWb, hWb5⟩, hUb, hKb, hFUb, hGS, hHg, hSg⟩ := id hB
  obtain ⟨hK, q10, q11, hdd, hRw, ⟨hn, hst, hr, he⟩, ⟨hF, hW, hU, hKk⟩, hdf, hS, ⟨hc, hnx⟩, hring, hFU, hSL, htl, hT⟩ := id hC
  obtain ⟨W0, U0, K0, hW0, hU0, hK0, hW0b, hU0b, hK0b⟩ := id hdf
  obtain ⟨dn, dh, hg, hS2⟩ := id hGS
  refine r_aload_n hV dL_law_250 rfl rfl ?_
  refine r_aload_n hV dL_law_251 rfl rfl ?_
  refine r_iload_n hV dL_law_252 rfl ?_
  refine s_iconst hV dL_law_253 (1) (by decide) ?_
  refine s_iadd hV dL_law_254 ?_
  refine s_scl hV dL_law_255 hL (by omega) (by omega) ?_
  refine q_iv1v hV dL_law_256 mv_L_33 (m_about I J P d d1 hK q10 q11 hdd n hn hnb e he he6 U hU hUb S hS dn dh hg c nx hc hnx hcb hxb tl htl htb T hT hTb r hr _ (z_rg_of _)) (by first | decide | omega) (by first | rfl | assumption) (by decide) (Nat.le_refl _) (Nat.le_of_ble_eq_true rfl) ?_
  refine r_aload_n hV dL_law_259 rfl rfl ?_
  refine r_aload_n hV dL_law_260 rfl rfl ?_
  refine r_iload_n hV dL_law_261 rfl ?_
  refine s_iconst hV dL_law_262 (1) (by decide) ?_
  refine s_iadd hV dL_law_263 ?_
  refine s_scl hV dL_law_264 hL (by omega) (by omega) ?_
  refine r_iv1 hV dL_law_265 mv_L_37 (n_about I J P hM.1 tl st r c n e T F W U K S hM.2.1 he6 dn dh hg hcb htb _ (z_rg_of _)) (by first | decide | omega) (by first | rfl | assumption) (by decide) (Nat.le_refl _) (Nat.le_of_ble_eq_true rfl) (fun v2 I2 J2 P2 hq2 => ?_)
  obtain ⟨rfl, hM2, hk⟩ := mno_M hM hq2
  have hI := li_mk hC hM2 hk hB (show b ≤ b + 109 by omega)
  show V 108 I2 J2 P2 _ _ [_, _]
  exact l_eqI hV dL_law_268 (by decide) (hgo _ _ _ hI)
set_option maxRecDepth 20000 in
theorem l_at {V : Nat → zI → zJ → zP → Nat → List Value → List Value → Prop} {post : Option Value → zI → zJ → zP → Prop} {L : Nat} {xs : Nat → Int32} (hV : z_Cl RL cL_law 11 108 false (some (L, xs)) (some .boolean) post V) (hL : L ≤ 2048) {b : Int} (hb : 999 ≤ b ∧ b + 109 ≤ 90000) {I : zI} {J : zJ} {P : zP} (h : lInv b I P) {f : UInt32} {i : Int} (hi : 0 ≤ i ∧ i + 4 ≤ L) (hgo : ∀ (I : zI) (J : zJ) (P : zP), lInv (b + 109) I P → V 108 I J P 897 [.float f, .ref 0, .ref 78, .int (iI i)] []) : V 108 I J P 273 [.float f, .ref 0, .ref 78, .int (iI i)] [] := by
  obtain ⟨d, d1, n, e, tl, st, r, c, nx, T, F, W, U, K, S, H, FU, SL, hC, hM, hB⟩ := h
  obtain ⟨hnb, he6, htb, hTb, hsb, hcb, hxb, hFk, hFb, ⟨hWb, hWb5⟩, hUb, hKb, hFUb, hGS, hHg, hSg⟩ := id hB
  obtain ⟨hK, q10, q11, hdd, hRw, ⟨hn, hst, hr, he⟩, ⟨hF, hW, hU, hKk⟩, hdf, hS, ⟨hc, hnx⟩, hring, hFU, hSL, htl, hT⟩ := id hC
  obtain ⟨W0, U0, K0, hW0, hU0, hK0, hW0b, hU0b, hK0b⟩ := id hdf
  obtain ⟨dn, dh, hg, hS2⟩ := id hGS
  refine r_aload_n hV dL_law_273 rfl rfl ?_
  refine r_aload_n hV dL_law_274 rfl rfl ?_
  refine r_iload_n hV dL_law_275 rfl ?_
  refine s_iconst hV dL_law_276 (1) (by decide) ?_
  refine s_iadd hV dL_law_277 ?_
  refine s_scl hV dL_law_278 hL (by omega) (by omega) ?_
  refine q_iv1v hV dL_law_279 mv_L_38 (m_at I J P d d1 hK q10 q11 hdd S hS dn dh n hg _ (z_rg_of _)) (by first | decide | omega) (by first | rfl | assumption) (by decide) (Nat.le_refl _) (Nat.le_of_ble_eq_true rfl) ?_
  refine r_aload_n hV dL_law_282 rfl rfl ?_
  refine r_aload_n hV dL_law_283 rfl rfl ?_
  refine r_iload_n hV dL_law_284 rfl ?_
  refine s_iconst hV dL_law_285 (1) (by decide) ?_
  refine s_iadd hV dL_law_286 ?_
  refine s_scl hV dL_law_287 hL (by omega) (by omega) ?_
  refine r_iv1 hV dL_law_288 mv_L_41 (n_at I J P hM.1 tl st r c n e T F W U K S hM.2.1 _ (z_rg_of _)) (by first | decide | omega) (by first | rfl | assumption) (by decide) (Nat.le_refl _) (Nat.le_of_ble_eq_true rfl) (fun v2 I2 J2 P2 hq2 => ?_)
  obtain ⟨rfl, hM2, hk⟩ := mno_M hM hq2
  have hI := li_mk hC hM2 hk hB (show b ≤ b + 109 by omega)
  show V 108 I2 J2 P2 _ _ [_, _]
  exact l_eqI hV dL_law_291 (by decide) (hgo _ _ _ hI)
set_option maxRecDepth 20000 in
theorem l_far {V : Nat → zI → zJ → zP → Nat → List Value → List Value → Prop} {post : Option Value → zI → zJ → zP → Prop} {L : Nat} {xs : Nat → Int32} (hV : z_Cl RL cL_law 11 108 false (some (L, xs)) (some .boolean) post V) (hL : L ≤ 2048) {b : Int} (hb : 999 ≤ b ∧ b + 109 ≤ 90000) {I : zI} {J : zJ} {P : zP} (h : lInv b I P) {f : UInt32} {i : Int} (hi : 0 ≤ i ∧ i + 4 ≤ L) (hgo : ∀ (I : zI) (J : zJ) (P : zP), lInv (b + 109) I P → V 108 I J P 897 [.float f, .ref 0, .ref 78, .int (iI i)] []) : V 108 I J P 296 [.float f, .ref 0, .ref 78, .int (iI i)] [] := by
  obtain ⟨d, d1, n, e, tl, st, r, c, nx, T, F, W, U, K, S, H, FU, SL, hC, hM, hB⟩ := h
  obtain ⟨hnb, he6, htb, hTb, hsb, hcb, hxb, hFk, hFb, ⟨hWb, hWb5⟩, hUb, hKb, hFUb, hGS, hHg, hSg⟩ := id hB
  obtain ⟨hK, q10, q11, hdd, hRw, ⟨hn, hst, hr, he⟩, ⟨hF, hW, hU, hKk⟩, hdf, hS, ⟨hc, hnx⟩, hring, hFU, hSL, htl, hT⟩ := id hC
  obtain ⟨W0, U0, K0, hW0, hU0, hK0, hW0b, hU0b, hK0b⟩ := id hdf
  obtain ⟨dn, dh, hg, hS2⟩ := id hGS
  refine r_aload_n hV dL_law_296 rfl rfl ?_
  refine r_aload_n hV dL_law_297 rfl rfl ?_
  refine r_iload_n hV dL_law_298 rfl ?_
  refine s_iconst hV dL_law_299 (1) (by decide) ?_
  refine s_iadd hV dL_law_300 ?_
  refine s_scl hV dL_law_301 hL (by omega) (by omega) ?_
  refine r_aload_n hV dL_law_302 rfl rfl ?_
  refine r_iload_n hV dL_law_303 rfl ?_
  refine s_iconst hV dL_law_304 (2) (by decide) ?_
  refine s_iadd hV dL_law_305 ?_
  refine s_scl hV dL_law_306 hL (by omega) (by omega) ?_
  refine q_iv2v hV dL_law_307 mv_L_42 (m_far I J P d d1 hK q10 q11 hdd n hn hnb F hF hFb _ (z_rg_of _) _ (z_rg_of _)) (by first | decide | omega) (by first | rfl | assumption) (by decide) (Nat.le_refl _) (Nat.le_of_ble_eq_true rfl) ?_
  refine r_aload_n hV dL_law_310 rfl rfl ?_
  refine r_aload_n hV dL_law_311 rfl rfl ?_
  refine r_iload_n hV dL_law_312 rfl ?_
  refine s_iconst hV dL_law_313 (1) (by decide) ?_
  refine s_iadd hV dL_law_314 ?_
  refine s_scl hV dL_law_315 hL (by omega) (by omega) ?_
  refine r_aload_n hV dL_law_316 rfl rfl ?_
  refine r_iload_n hV dL_law_317 rfl ?_
  refine s_iconst hV dL_law_318 (2) (by decide) ?_
  refine s_iadd hV dL_law_319 ?_
  refine s_scl hV dL_law_320 hL (by omega) (by omega) ?_
  refine r_iv2 hV dL_law_321 mv_L_46 (n_far I J P hM.1 tl st r c n e T F W U K S hM.2.1 hnb hFk.1 _ (z_rg_of _) _ (z_rg_of _)) (by first | decide | omega) (by first | rfl | assumption) (by decide) (Nat.le_refl _) (Nat.le_of_ble_eq_true rfl) (fun v2 I2 J2 P2 hq2 => ?_)
  obtain ⟨rfl, hM2, hk⟩ := mno_M hM hq2
  have hI := li_mk hC hM2 hk hB (show b ≤ b + 109 by omega)
  show V 108 I2 J2 P2 _ _ [_, _]
  exact l_eqI hV dL_law_324 (by decide) (hgo _ _ _ hI)
set_option maxRecDepth 20000 in
theorem l_errand {V : Nat → zI → zJ → zP → Nat → List Value → List Value → Prop} {post : Option Value → zI → zJ → zP → Prop} {L : Nat} {xs : Nat → Int32} (hV : z_Cl RL cL_law 11 108 false (some (L, xs)) (some .boolean) post V) (hL : L ≤ 2048) {b : Int} (hb : 999 ≤ b ∧ b + 109 ≤ 90000) {I : zI} {J : zJ} {P : zP} (h : lInv b I P) {f : UInt32} {i : Int} (hi : 0 ≤ i ∧ i + 4 ≤ L) (hgo : ∀ (I : zI) (J : zJ) (P : zP), lInv (b + 109) I P → V 108 I J P 897 [.float f, .ref 0, .ref 78, .int (iI i)] []) : V 108 I J P 329 [.float f, .ref 0, .ref 78, .int (iI i)] [] := by
  obtain ⟨d, d1, n, e, tl, st, r, c, nx, T, F, W, U, K, S, H, FU, SL, hC, hM, hB⟩ := h
  obtain ⟨hnb, he6, htb, hTb, hsb, hcb, hxb, hFk, hFb, ⟨hWb, hWb5⟩, hUb, hKb, hFUb, hGS, hHg, hSg⟩ := id hB
  obtain ⟨hK, q10, q11, hdd, hRw, ⟨hn, hst, hr, he⟩, ⟨hF, hW, hU, hKk⟩, hdf, hS, ⟨hc, hnx⟩, hring, hFU, hSL, htl, hT⟩ := id hC
  obtain ⟨W0, U0, K0, hW0, hU0, hK0, hW0b, hU0b, hK0b⟩ := id hdf
  obtain ⟨dn, dh, hg, hS2⟩ := id hGS
  refine r_aload_n hV dL_law_329 rfl rfl ?_
  refine r_aload_n hV dL_law_330 rfl rfl ?_
  refine r_iload_n hV dL_law_331 rfl ?_
  refine s_iconst hV dL_law_332 (1) (by decide) ?_
  refine s_iadd hV dL_law_333 ?_
  refine s_scl hV dL_law_334 hL (by omega) (by omega) ?_
  refine r_aload_n hV dL_law_335 rfl rfl ?_
  refine r_iload_n hV dL_law_336 rfl ?_
  refine s_iconst hV dL_law_337 (2) (by decide) ?_
  refine s_iadd hV dL_law_338 ?_
  refine s_scl hV dL_law_339 hL (by omega) (by omega) ?_
  refine q_iv2v hV dL_law_340 mv_L_47 (m_errand I J P d d1 hK q10 q11 hdd n hn hnb e he he6 W hW hWb U hU hUb K hKk hKb S hS dn dh hg _ (z_rg_of _) _ (z_rg_of _)) (by first | decide | omega) (by first | rfl | assumption) (by decide) (Nat.le_refl _) (Nat.le_of_ble_eq_true rfl) ?_
  refine r_aload_n hV dL_law_343 rfl rfl ?_
  refine r_aload_n hV dL_law_344 rfl rfl ?_
  refine r_iload_n hV dL_law_345 rfl ?_
  refine s_iconst hV dL_law_346 (1) (by decide) ?_
  refine s_iadd hV dL_law_347 ?_
  refine s_scl hV dL_law_348 hL (by omega) (by omega) ?_
  refine r_aload_n hV dL_law_349 rfl rfl ?_
  refine r_iload_n hV dL_law_350 rfl ?_
  refine s_iconst hV dL_law_351 (2) (by decide) ?_
  refine s_iadd hV dL_law_352 ?_
  refine s_scl hV dL_law_353 hL (by omega) (by omega) ?_
  refine r_iv2 hV dL_law_354 mv_L_50 (n_errand I J P hM.1 tl st r c n e T F W U K S hM.2.1 he6 dn dh hg _ (z_rg_of _) _ (z_rg_of _)) (by first | decide | omega) (by first | rfl | assumption) (by decide) (Nat.le_refl _) (Nat.le_of_ble_eq_true rfl) (fun v2 I2 J2 P2 hq2 => ?_)
  obtain ⟨rfl, hM2, hk⟩ := mno_M hM hq2
  have hI := li_mk hC hM2 hk hB (show b ≤ b + 109 by omega)
  show V 108 I2 J2 P2 _ _ [_, _]
  exact l_eqI hV dL_law_357 (by decide) (hgo _ _ _ hI)
