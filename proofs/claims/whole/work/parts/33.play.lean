def f_hw (D : Int → Int) (a : Int) : Int := if a = -1 then 0 else D (a * 6)
abbrev zRec : Type := Nat → Nat → Int → Int → Int → Nat × Nat
/-- her turn: what the errand a would bring -/
def f_ps0 (D W U K : Int → Int) (e : Nat) (rec : zRec) (nx opn : Nat) (her him left : Int) (a : Nat) (b : Nat × Nat) : Nat × Nat :=
  if opn.testBit a = true ∧ (a < e ∧ (K a = 2 ∨ K a = 0)) ∧ f_hw D (W a) + f_hw D him ≤ left - D (her * 6 + W a) ∧ b.1 < (rec nx (zdf opn (2 ^ a)) (W a) him (left - D (her * 6 + W a))).1 + (U a).toNat then ((rec nx (zdf opn (2 ^ a)) (W a) him (left - D (her * 6 + W a))).1 + (U a).toNat, (rec nx (zdf opn (2 ^ a)) (W a) him (left - D (her * 6 + W a))).2) else b
def f_ps1 (D W U K : Int → Int) (e : Nat) (rec : zRec) (nx opn : Nat) (her him left : Int) (a : Nat) (b : Nat × Nat) : Nat × Nat :=
  if opn.testBit a = true ∧ (a < e ∧ (K a = 2 ∨ K a = 1)) ∧ f_hw D (W a) + f_hw D her ≤ left - D (him * 6 + W a) ∧ b.2 < (rec nx (zdf opn (2 ^ a)) her (W a) (left - D (him * 6 + W a))).2 + (U a).toNat then ((rec nx (zdf opn (2 ^ a)) her (W a) (left - D (him * 6 + W a))).1, (rec nx (zdf opn (2 ^ a)) her (W a) (left - D (him * 6 + W a))).2 + (U a).toNat) else b
/-- k turns to go, on's turn -/
def f_play (D W U K : Int → Int) (e : Nat) : Nat → zRec
  | 0 => fun _ _ _ _ _ => (0, 0)
  | k + 1 => fun on opn her him left => if on = 0 then zit (f_ps0 D W U K e (f_play D W U K e k) (if him = -1 then 0 else 1) opn her him left) 6 (if him = -1 then (0, 0) else f_play D W U K e k 1 opn (-1) him (left - f_hw D her)) else zit (f_ps1 D W U K e (f_play D W U K e k) (if her = -1 then 1 else 0) opn her him left) 6 (if her = -1 then (0, 0) else f_play D W U K e k 0 opn her (-1) (left - f_hw D him))
theorem f_play_b {D W U K : Int → Int} {e : Nat} (hU : z_bd U 6 0 9) : ∀ k on opn her him left, (f_play D W U K e k on opn her him left).1 ≤ 9 * k ∧ (f_play D W U K e k on opn her him left).2 ≤ 9 * k := by
  intro k
  induction k with
  | zero => intro _ _ _ _ _; exact ⟨Nat.zero_le _, Nat.zero_le _⟩
  | succ k ih =>
    intro on opn her him left
    have hz : ∀ (st : Nat → Nat × Nat → Nat × Nat) (b0 : Nat × Nat), (∀ a b, a < 6 → (b.1 ≤ 9 * (k + 1) ∧ b.2 ≤ 9 * (k + 1)) → ((st a b).1 ≤ 9 * (k + 1) ∧ (st a b).2 ≤ 9 * (k + 1))) → (b0.1 ≤ 9 * (k + 1) ∧ b0.2 ≤ 9 * (k + 1)) → (zit st 6 b0).1 ≤ 9 * (k + 1) ∧ (zit st 6 b0).2 ≤ 9 * (k + 1) := fun st b0 h1 h2 => zit_ind (p := fun b : Nat × Nat => b.1 ≤ 9 * (k + 1) ∧ b.2 ≤ 9 * (k + 1)) (n := 6) h1 6 (Nat.le_refl _) b0 h2
    unfold f_play
    split
    · refine hz _ _ (fun a b ha hb => ?_) ?_
      · generalize (if him = -1 then (0 : Nat) else 1) = nx
        unfold f_ps0
        have h1 := ih nx (zdf opn (2 ^ a)) (W a) him (left - D (her * 6 + W a))
        have h2 := hU (a : Int) (by omega) (by omega)
        split
        · exact ⟨by simp only; omega, by simp only; omega⟩
        · exact hb
      · split
        · exact ⟨Nat.zero_le _, Nat.zero_le _⟩
        · have h1 := ih 1 opn (-1) him (left - f_hw D her)
          omega
    · refine hz _ _ (fun a b ha hb => ?_) ?_
      · generalize (if her = -1 then (1 : Nat) else 0) = nx
        unfold f_ps1
        have h1 := ih nx (zdf opn (2 ^ a)) her (W a) (left - D (him * 6 + W a))
        have h2 := hU (a : Int) (by omega) (by omega)
        split
        · exact ⟨by simp only; omega, by simp only; omega⟩
        · exact hb
      · split
        · exact ⟨Nat.zero_le _, Nat.zero_le _⟩
        · have h1 := ih 0 opn her (-1) (left - f_hw D him)
          omega
theorem zb_sh8 {u : Int} (h0 : 0 ≤ u) (h : u ≤ 9) : iI u <<< (iI 8 &&& 31) = iI (u * 256) := by
  have key : ∀ m : Nat, m < 10 → iI (m : Int) <<< (iI 8 &&& 31) = iI ((m : Int) * 256) := by decide +kernel
  have := key u.toNat (by omega)
  rwa [show ((u.toNat : Nat) : Int) = u by omega] at this
theorem z_bt1 {b : Bool} (h : (if b = true then (1 : Int) else 0) = 1) : b = true := by cases b <;> simp_all
theorem z_bt0 {b : Bool} (h : ¬ (if b = true then (1 : Int) else 0) = 1) : ¬ b = true := by cases b <;> simp_all
theorem f_hw_b {D : Int → Int} {a : Int} {n : Nat} (hD : z_bd D 36 0 1000000) (hn : n ≤ 6) (ha : a = -1 ∨ (0 ≤ a ∧ a < n)) : 0 ≤ f_hw D a ∧ f_hw D a ≤ 1000000 := by
  unfold f_hw
  split
  · omega
  · exact hD _ (by omega) (by omega)
theorem f_ps0_b {D W U K : Int → Int} {e k nx opn : Nat} {her him left : Int} {a : Nat} {b : Nat × Nat} (hU : z_bd U 6 0 9) (hb : b.1 ≤ 9 * (k + 1) ∧ b.2 ≤ 9 * (k + 1)) (ha : a < 6 := by omega) : (f_ps0 D W U K e (f_play D W U K e k) nx opn her him left a b).1 ≤ 9 * (k + 1) ∧ (f_ps0 D W U K e (f_play D W U K e k) nx opn her him left a b).2 ≤ 9 * (k + 1) := by
  unfold f_ps0
  have h1 := f_play_b (D := D) (W := W) (K := K) (e := e) hU k nx (zdf opn (2 ^ a)) (W a) him (left - D (her * 6 + W a))
  have h2 := hU (a : Int) (by omega) (by omega)
  split
  · exact ⟨by simp only; omega, by simp only; omega⟩
  · exact hb
theorem f_ps1_b {D W U K : Int → Int} {e k nx opn : Nat} {her him left : Int} {a : Nat} {b : Nat × Nat} (hU : z_bd U 6 0 9) (hb : b.1 ≤ 9 * (k + 1) ∧ b.2 ≤ 9 * (k + 1)) (ha : a < 6 := by omega) : (f_ps1 D W U K e (f_play D W U K e k) nx opn her him left a b).1 ≤ 9 * (k + 1) ∧ (f_ps1 D W U K e (f_play D W U K e k) nx opn her him left a b).2 ≤ 9 * (k + 1) := by
  unfold f_ps1
  have h1 := f_play_b (D := D) (W := W) (K := K) (e := e) hU k nx (zdf opn (2 ^ a)) her (W a) (left - D (him * 6 + W a))
  have h2 := hU (a : Int) (by omega) (by omega)
  split
  · exact ⟨by simp only; omega, by simp only; omega⟩
  · exact hb
set_option maxRecDepth 20000 in
theorem m_play0n_S {V : Nat → zI → zJ → zP → Nat → List Value → List Value → Prop} {ini : Bool} {ret : Option FieldType} {post : Option Value → zI → zJ → zP → Prop} (I : zI) (J : zJ) (P : zP) (d : Nat) (hP : P 58 0 = some d) (hD : zDay P d) (n : Nat) (hn : I d 0 = iI (n : Int)) (hnb : 1 ≤ n ∧ n ≤ 6) (e : Nat) (he : I d 3 = iI (e : Int)) (he6 : e ≤ 6) (D W U K : Int → Int) (hDl : z_ar I (d + 2) 36 D) (hDb : z_bd D 36 0 1000000) (hW : z_ar I (d + 3) 6 W) (hWb : z_bd W e 0 (n - 1)) (hU : z_ar I (d + 4) 6 U) (hUb : z_bd U 6 0 9) (hK : z_ar I (d + 5) 6 K) (hKb : z_bd K 6 0 2) (k : Nat) (hk : k < 7) (rec : ∀ (on opn : Nat) (her him left T : Int), T = 7 - (k : Int) → on ≤ 1 → opn < 64 → (her = -1 ∨ (0 ≤ her ∧ her < (n : Int))) → (him = -1 ∨ (0 ≤ him ∧ him < (n : Int))) → (on = 0 → her ≠ -1) → (on = 1 → him ≠ -1) → f_hw D her + f_hw D him ≤ left → left ≤ 100000 → z_Fn (k + 2) yX10_play cX10_play 16 (some .int) 108 108 I J P [.ref 58, .int (iI T), .int (iI (on : Int)), .int (iI (opn : Int)), .int (iI her), .int (iI him), .int (iI left)] (some (.int (iI ((((f_play D W U K e k (on) opn her him left).1 : Nat) : Int) * 256 + (((f_play D W U K e k (on) opn her him left).2 : Nat) : Int))))) I J P) (opn : Nat) (h64 : opn < 64) (her him left : Int) (hher : 0 ≤ her ∧ her < (n : Int)) (hhim : 0 ≤ him ∧ him < (n : Int)) (hleft : f_hw D her + f_hw D him ≤ left ∧ left ≤ 100000) (j : Nat) (hj6 : j < 6) (b : Nat × Nat) (hb : b.1 ≤ 9 * (k + 1) ∧ b.2 ≤ 9 * (k + 1)) (hV : z_Cl yX10_play.cls cX10_play (k + 3) 108 ini none ret post V) (hgo : V 108 I J P 118 [.ref 58, .int (iI (6 - (k : Int))), .int (iI 0), .int (iI (opn : Int)), .int (iI her), .int (iI him), .int (iI left), .int (iI her), .int (iI him), .int (iI 1), .int (iI (((f_ps0 D W U K e (f_play D W U K e k) 1 opn her him left j b).1 : Int) * 256 + ((f_ps0 D W U K e (f_play D W U K e k) 1 opn her him left j b).2 : Int))), .int (iI (((j + 1 : Nat)) : Int)), .null, .null, .null, .null] []) : V 108 I J P 125 [.ref 58, .int (iI (6 - (k : Int))), .int (iI 0), .int (iI (opn : Int)), .int (iI her), .int (iI him), .int (iI left), .int (iI her), .int (iI him), .int (iI 1), .int (iI ((b.1 : Int) * 256 + (b.2 : Int))), .int (iI (j : Int)), .null, .null, .null, .null] [] := by
  obtain ⟨hd, p4, p5, p6, p7, p8⟩ := id hD
  obtain ⟨hlt, s0, s1, s2, s3, s4, s5⟩ := zDay_s hD
  have hmb := f_hw_b (a := her) hDb hnb.2 (Or.inr hher)
  have hob := f_hw_b (a := him) hDb hnb.2 (Or.inr hhim)
  unfold f_ps0 at hgo
  refine r_iload_n hV dX10_play_125 rfl ?_
  refine r_iload hV dX10_play_126 rfl ?_
  refine s_ishr hV dX10_play_128 (zb_shr (by omega) (by omega)) ?_
  refine s_iconst hV dX10_play_129 (1) (by decide) ?_
  refine s_iand hV dX10_play_130 (by first | exact zb_one (by omega) (by omega) | exact zb_and (by omega) (by omega) | exact zb_df' (by omega) (by omega)) ?_
  refine s_iconst hV dX10_play_131 (1) (by decide) ?_
  refine s_icmp_ne hV 298 dX10_play_132 (by decide) (by unfold z_rg; first | omega | (split <;> omega)) (by unfold z_rg; first | omega | (split <;> omega)) (fun c132 => ?_) (fun c132 => ?_)
  · have hbt := z_bt0 c132
    refine s_iinc hV dX10_play_298 rfl rfl ?_
    refine r_goto hV 118 dX10_play_301 (by decide) ?_
    refine r_kill hV 12 z_stk_16_12 ?_
    refine r_kill hV 13 z_stk_16_13 ?_
    refine r_kill hV 14 z_stk_16_14 ?_
    refine r_kill hV 15 z_stk_16_15 ?_
    first
      | (rw [if_neg (fun h => hbt h.1)] at hgo; exact hgo)
      | (rw [if_neg (fun h => hcd (by have := h.2.1; omega))] at hgo; exact hgo)
      | (rw [if_neg (fun h => by have h1 := h.2.2.1; have h2 := h.2.2.2; omega)] at hgo; exact hgo)
      | (rw [if_pos ⟨hbt, by omega, by omega, by omega⟩] at hgo; exact hgo)
  · have hbt := z_bt1 c132
    refine r_aload_n hV dX10_play_135 rfl rfl ?_
    refine r_getR hV dX10_play_136 fl_X10_9 (by first | decide | omega) (by first | rfl | assumption) (by first | assumption | rfl) ?_
    refine r_iload_n hV dX10_play_139 rfl ?_
    refine r_iload hV dX10_play_140 rfl ?_
    refine q_iv2v hV dX10_play_142 mv_X10_29 (m_canDo I J P d hD (e : Int) he (by omega) 0 (by unfold z_rg; omega) (j : Int) (by unfold z_rg; omega) K hK hKb) (by first | decide | omega) (by first | rfl | assumption) (by omega) (Nat.le_refl _) (Nat.le_of_ble_eq_true rfl) ?_
    refine s_if_eq hV 298 dX10_play_145 (by decide) (by unfold z_rg; first | omega | (split <;> omega)) (fun c145 => ?_) (fun c145 => ?_)
    · have hcd := z_ite0 c145
      refine s_iinc hV dX10_play_298 rfl rfl ?_
      refine r_goto hV 118 dX10_play_301 (by decide) ?_
      refine r_kill hV 12 z_stk_16_12 ?_
      refine r_kill hV 13 z_stk_16_13 ?_
      refine r_kill hV 14 z_stk_16_14 ?_
      refine r_kill hV 15 z_stk_16_15 ?_
      first
        | (rw [if_neg (fun h => hbt h.1)] at hgo; exact hgo)
        | (rw [if_neg (fun h => hcd (by have := h.2.1; omega))] at hgo; exact hgo)
        | (rw [if_neg (fun h => by have h1 := h.2.2.1; have h2 := h.2.2.2; omega)] at hgo; exact hgo)
        | (rw [if_pos ⟨hbt, by omega, by omega, by omega⟩] at hgo; exact hgo)
    · have hcd := z_ite1 c145
      refine r_aload_n hV dX10_play_148 rfl rfl ?_
      refine r_getR hV dX10_play_149 fl_X10_9 (by first | decide | omega) (by first | rfl | assumption) (by first | assumption | rfl) ?_
      refine r_iload hV dX10_play_152 rfl ?_
      refine q_iv1v hV dX10_play_154 mv_X10_33 (m_siteOf I J P d hD (e : Int) he (by omega) (j : Int) (by unfold z_rg; omega) W hW) (by first | decide | omega) (by first | rfl | assumption) (by omega) (Nat.le_refl _) (Nat.le_of_ble_eq_true rfl) ?_
      rw [if_pos (by omega)]
      have hwb := hWb (j : Int) (by omega) (by omega)
      refine r_istore hV dX10_play_157 (Nat.le_of_ble_eq_true rfl) (z_st1_16_12 rfl) ?_
      refine r_iload hV dX10_play_159 rfl ?_
      refine r_aload_n hV dX10_play_161 rfl rfl ?_
      refine r_getR hV dX10_play_162 fl_X10_9 (by first | decide | omega) (by first | rfl | assumption) (by first | assumption | rfl) ?_
      refine r_iload hV dX10_play_165 rfl ?_
      refine r_iload hV dX10_play_167 rfl ?_
      refine q_iv2v hV dX10_play_169 mv_X10_15 (m_between I J P d hD (n : Int) hn (by omega) her (by unfold z_rg; omega) (W (j : Int)) (by unfold z_rg; omega) D hDl) (by first | decide | omega) (by first | rfl | assumption) (by omega) (Nat.le_refl _) (Nat.le_of_ble_eq_true rfl) ?_
      rw [if_pos (by omega)]
      have hdb := hDb (her * 6 + W (j : Int)) (by omega) (by omega)
      refine s_isub hV dX10_play_172 ?_
      refine r_istore hV dX10_play_173 (Nat.le_of_ble_eq_true rfl) (z_st1_16_13 rfl) ?_
      refine r_aload_n hV dX10_play_175 rfl rfl ?_
      refine r_iload hV dX10_play_176 rfl ?_
      refine q_iv1v hV dX10_play_178 mv_X10_21 (m_homeward I J P d hP hD n hn hnb D hDl (W (j : Int)) (Or.inr (by omega))) (by first | decide | omega) (by first | rfl | assumption) (by omega) (Nat.le_refl _) (Nat.le_of_ble_eq_true rfl) ?_
      rw [show (if (W (j : Int)) = -1 then (0 : Int) else D ((W (j : Int)) * 6)) = f_hw D (W (j : Int)) from rfl]
      refine r_aload_n hV dX10_play_181 rfl rfl ?_
      refine r_iload hV dX10_play_182 rfl ?_
      refine q_iv1v hV dX10_play_184 mv_X10_21 (m_homeward I J P d hP hD n hn hnb D hDl him (Or.inr hhim)) (by first | decide | omega) (by first | rfl | assumption) (by omega) (Nat.le_refl _) (Nat.le_of_ble_eq_true rfl) ?_
      rw [show (if him = -1 then (0 : Int) else D (him * 6)) = f_hw D him from rfl]
      have hws := f_hw_b (a := W (j : Int)) hDb hnb.2 (Or.inr (by omega))
      refine s_iadd hV dX10_play_187 ?_
      refine r_iload hV dX10_play_188 rfl ?_
      refine s_icmp_gt hV 298 dX10_play_190 (by decide) (by unfold z_rg; first | omega | (split <;> omega)) (by unfold z_rg; first | omega | (split <;> omega)) (fun c190 => ?_) (fun c190 => ?_)
      · refine s_iinc hV dX10_play_298 rfl rfl ?_
        refine r_goto hV 118 dX10_play_301 (by decide) ?_
        refine r_kill hV 12 z_stk_16_12 ?_
        refine r_kill hV 13 z_stk_16_13 ?_
        refine r_kill hV 14 z_stk_16_14 ?_
        refine r_kill hV 15 z_stk_16_15 ?_
        first
          | (rw [if_neg (fun h => hbt h.1)] at hgo; exact hgo)
          | (rw [if_neg (fun h => hcd (by have := h.2.1; omega))] at hgo; exact hgo)
          | (rw [if_neg (fun h => by have h1 := h.2.2.1; have h2 := h.2.2.2; omega)] at hgo; exact hgo)
          | (rw [if_pos ⟨hbt, by omega, by omega, by omega⟩] at hgo; exact hgo)
      · refine r_iload_n hV dX10_play_193 rfl ?_
        refine s_iconst hV dX10_play_194 (1) (by decide) ?_
        refine r_iload hV dX10_play_195 rfl ?_
        refine s_ishl hV dX10_play_197 (zb_shl (by omega)) ?_
        refine s_iconst hV dX10_play_198 (-1) (by decide) ?_
        refine s_ixor hV dX10_play_199 (zb_not (z_pw (by omega))) ?_
        refine s_iand hV dX10_play_200 (zb_df' h64 (z_pw (by omega))) ?_
        refine r_istore hV dX10_play_201 (Nat.le_of_ble_eq_true rfl) (z_st1_16_14 rfl) ?_
        refine r_iload_n hV dX10_play_203 rfl ?_
        refine s_if_ne hV 227 dX10_play_204 (by decide) (by unfold z_rg; first | omega | (split <;> omega)) (fun c204 => absurd c204 (by decide)) (fun _ => ?_)
        refine r_aload_n hV dX10_play_207 rfl rfl ?_
        refine r_iload_n hV dX10_play_208 rfl ?_
        refine s_iconst hV dX10_play_209 (1) (by decide) ?_
        refine s_iadd hV dX10_play_210 ?_
        refine r_iload hV dX10_play_211 rfl ?_
        refine r_iload hV dX10_play_213 rfl ?_
        refine r_iload hV dX10_play_215 rfl ?_
        refine r_iload hV dX10_play_217 rfl ?_
        refine r_iload hV dX10_play_219 rfl ?_
        refine q_is7v hV dX10_play_221 ms_X10_25 (rec 1 (zdf opn (2 ^ j)) (W (j : Int)) him (left - D (her * 6 + W (j : Int))) ((6 - (k : Int)) + 1) (by omega) (by omega) (z_df_lt h64) (Or.inr (by omega)) (Or.inr hhim) (by omega) (by omega) (by omega) (by omega)) (by omega) (Nat.le_refl _) (Nat.le_of_ble_eq_true rfl) ?_
        have hrb := f_play_b (D := D) (W := W) (U := U) (K := K) (e := e) hUb k 1 (zdf opn (2 ^ j)) (W (j : Int)) him (left - D (her * 6 + W (j : Int)))
        generalize hrc : f_play D W U K e k 1 (zdf opn (2 ^ j)) (W (j : Int)) him (left - D (her * 6 + W (j : Int))) = r at hrb hgo ⊢
        have hub := hUb (j : Int) (by omega) (by omega)
        refine r_goto hV 244 dX10_play_224 (by decide) ?_
        refine r_istore hV dX10_play_244 (Nat.le_of_ble_eq_true rfl) (z_st1_16_15 rfl) ?_
        refine r_iload hV dX10_play_246 rfl ?_
        refine r_iload_n hV dX10_play_248 rfl ?_
        refine s_if_ne hV 267 dX10_play_249 (by decide) (by unfold z_rg; first | omega | (split <;> omega)) (fun c249 => absurd c249 (by decide)) (fun _ => ?_)
        refine r_aload_n hV dX10_play_252 rfl rfl ?_
        refine r_getR hV dX10_play_253 fl_X10_9 (by first | decide | omega) (by first | rfl | assumption) (by first | assumption | rfl) ?_
        refine r_iload hV dX10_play_256 rfl ?_
        refine q_iv1v hV dX10_play_258 mv_X10_36 (m_worthOf I J P d hD (e : Int) he (by omega) (j : Int) (by unfold z_rg; omega) U hU) (by first | decide | omega) (by first | rfl | assumption) (by omega) (Nat.le_refl _) (Nat.le_of_ble_eq_true rfl) ?_
        rw [if_pos (by omega)]
        refine s_bipush hV dX10_play_261 (8) (by decide) ?_
        refine s_ishl hV dX10_play_263 (zb_sh8 hub.1 hub.2) ?_
        refine r_goto hV 276 dX10_play_264 (by decide) ?_
        refine s_iadd hV dX10_play_276 ?_
        rw [show ((r.1 : Nat) : Int) * 256 + ((r.2 : Nat) : Int) + U (j : Int) * 256 = ((r.1 + (U (j : Int)).toNat : Nat) : Int) * 256 + ((r.2 : Nat) : Int) by omega]
        refine r_istore hV dX10_play_277 (Nat.le_of_ble_eq_true rfl) (z_st1_16_15 rfl) ?_
        refine r_iload hV dX10_play_279 rfl ?_
        refine r_iload_n hV dX10_play_281 rfl ?_
        refine q_is2v hV dX10_play_282 ms_X10_39 (m_share I J P (r.1 + (U (j : Int)).toNat) (r.2) (by omega) (by omega) 0 (by omega)) (by omega) (Nat.le_refl _) (Nat.le_of_ble_eq_true rfl) ?_
        rw [if_pos rfl]
        refine r_iload hV dX10_play_285 rfl ?_
        refine r_iload_n hV dX10_play_287 rfl ?_
        refine q_is2v hV dX10_play_288 ms_X10_39 (m_share I J P b.1 b.2 (by omega) (by omega) 0 (by omega)) (by omega) (Nat.le_refl _) (Nat.le_of_ble_eq_true rfl) ?_
        rw [if_pos rfl]
        refine s_icmp_le hV 298 dX10_play_291 (by decide) (by unfold z_rg; first | omega | (split <;> omega)) (by unfold z_rg; first | omega | (split <;> omega)) (fun c291 => ?_) (fun c291 => ?_)
        · refine s_iinc hV dX10_play_298 rfl rfl ?_
          refine r_goto hV 118 dX10_play_301 (by decide) ?_
          refine r_kill hV 12 z_stk_16_12 ?_
          refine r_kill hV 13 z_stk_16_13 ?_
          refine r_kill hV 14 z_stk_16_14 ?_
          refine r_kill hV 15 z_stk_16_15 ?_
          first
            | (rw [if_neg (fun h => hbt h.1)] at hgo; exact hgo)
            | (rw [if_neg (fun h => hcd (by have := h.2.1; omega))] at hgo; exact hgo)
            | (rw [if_neg (fun h => by have h1 := h.2.2.1; have h2 := h.2.2.2; omega)] at hgo; exact hgo)
            | (rw [if_pos ⟨hbt, by omega, by omega, by omega⟩] at hgo; exact hgo)
        · refine r_iload hV dX10_play_294 rfl ?_
          refine r_istore hV dX10_play_296 (Nat.le_of_ble_eq_true rfl) (z_st1_16_10 rfl) ?_
          refine s_iinc hV dX10_play_298 rfl rfl ?_
          refine r_goto hV 118 dX10_play_301 (by decide) ?_
          refine r_kill hV 12 z_stk_16_12 ?_
          refine r_kill hV 13 z_stk_16_13 ?_
          refine r_kill hV 14 z_stk_16_14 ?_
          refine r_kill hV 15 z_stk_16_15 ?_
          first
            | (rw [if_neg (fun h => hbt h.1)] at hgo; exact hgo)
            | (rw [if_neg (fun h => hcd (by have := h.2.1; omega))] at hgo; exact hgo)
            | (rw [if_neg (fun h => by have h1 := h.2.2.1; have h2 := h.2.2.2; omega)] at hgo; exact hgo)
            | (rw [if_pos ⟨hbt, by omega, by omega, by omega⟩] at hgo; exact hgo)

set_option maxRecDepth 20000 in
theorem m_play0n (I : zI) (J : zJ) (P : zP) (d : Nat) (hP : P 58 0 = some d) (hD : zDay P d) (n : Nat) (hn : I d 0 = iI (n : Int)) (hnb : 1 ≤ n ∧ n ≤ 6) (e : Nat) (he : I d 3 = iI (e : Int)) (he6 : e ≤ 6) (D W U K : Int → Int) (hDl : z_ar I (d + 2) 36 D) (hDb : z_bd D 36 0 1000000) (hW : z_ar I (d + 3) 6 W) (hWb : z_bd W e 0 (n - 1)) (hU : z_ar I (d + 4) 6 U) (hUb : z_bd U 6 0 9) (hK : z_ar I (d + 5) 6 K) (hKb : z_bd K 6 0 2) (k : Nat) (hk : k < 7) (rec : ∀ (on opn : Nat) (her him left T : Int), T = 7 - (k : Int) → on ≤ 1 → opn < 64 → (her = -1 ∨ (0 ≤ her ∧ her < (n : Int))) → (him = -1 ∨ (0 ≤ him ∧ him < (n : Int))) → (on = 0 → her ≠ -1) → (on = 1 → him ≠ -1) → f_hw D her + f_hw D him ≤ left → left ≤ 100000 → z_Fn (k + 2) yX10_play cX10_play 16 (some .int) 108 108 I J P [.ref 58, .int (iI T), .int (iI (on : Int)), .int (iI (opn : Int)), .int (iI her), .int (iI him), .int (iI left)] (some (.int (iI ((((f_play D W U K e k (on) opn her him left).1 : Nat) : Int) * 256 + (((f_play D W U K e k (on) opn her him left).2 : Nat) : Int))))) I J P) (opn : Nat) (h64 : opn < 64) (her him left : Int) (hher : 0 ≤ her ∧ her < (n : Int)) (hhim : 0 ≤ him ∧ him < (n : Int)) (hleft : f_hw D her + f_hw D him ≤ left ∧ left ≤ 100000) : z_Fn (k + 3) yX10_play cX10_play 16 (some .int) 108 108 I J P [.ref 58, .int (iI (6 - (k : Int))), .int (iI 0), .int (iI (opn : Int)), .int (iI her), .int (iI him), .int (iI left)] (some (.int (iI ((((f_play D W U K e (k + 1) 0 opn her him left).1 : Nat) : Int) * 256 + (((f_play D W U K e (k + 1) 0 opn her him left).2 : Nat) : Int))))) (I) (J) (P) := by
  obtain ⟨hd, p4, p5, p6, p7, p8⟩ := id hD
  obtain ⟨hlt, s0, s1, s2, s3, s4, s5⟩ := zDay_s hD
  have hmb := f_hw_b (a := her) hDb hnb.2 (Or.inr hher)
  have hob := f_hw_b (a := him) hDb hnb.2 (Or.inr hhim)
  have hfp : f_play D W U K e (k + 1) 0 opn her him left = zit (f_ps0 D W U K e (f_play D W U K e k) 1 opn her him left) 6 (f_play D W U K e k 1 opn (-1) him (left - f_hw D her)) := by
    simp [f_play, show ¬ him = -1 by omega]
  refine z_met false (by decide +kernel) (fun h => by cases h) (Nat.le_of_ble_eq_true rfl) (by first | decide | omega) (fun V hV => ?_)
  show V 108 I J P 0 [.ref 58, .int (iI (6 - (k : Int))), .int (iI 0), .int (iI (opn : Int)), .int (iI her), .int (iI him), .int (iI left), .null, .null, .null, .null, .null, .null, .null, .null, .null] []
  refine r_iload_n hV dX10_play_0 rfl ?_
  refine s_bipush hV dX10_play_1 (7) (by decide) ?_
  refine s_icmp_ge hV 13 dX10_play_3 (by decide) (by unfold z_rg; first | omega | (split <;> omega)) (by unfold z_rg; first | omega | (split <;> omega)) (fun c3 => absurd c3 (by omega)) (fun _ => ?_)
  refine r_aload_n hV dX10_play_6 rfl rfl ?_
  refine r_getR hV dX10_play_7 fl_X10_9 (by first | decide | omega) (by first | rfl | assumption) (by first | assumption | rfl) ?_
  refine r_ifnonnull hV 15 dX10_play_10 rfl (by decide) ?_
  refine r_iload_n hV dX10_play_15 rfl ?_
  refine s_if_ne hV 24 dX10_play_16 (by decide) (by unfold z_rg; first | omega | (split <;> omega)) (fun c16 => absurd c16 (by decide)) (fun _ => ?_)
  refine r_iload hV dX10_play_19 rfl ?_
  refine r_goto hV 26 dX10_play_21 (by decide) ?_
  refine r_istore hV dX10_play_26 (Nat.le_of_ble_eq_true rfl) (z_st1_16_7 rfl) ?_
  refine r_iload_n hV dX10_play_28 rfl ?_
  refine s_if_ne hV 37 dX10_play_29 (by decide) (by unfold z_rg; first | omega | (split <;> omega)) (fun c29 => absurd c29 (by decide)) (fun _ => ?_)
  refine r_iload hV dX10_play_32 rfl ?_
  refine r_goto hV 39 dX10_play_34 (by decide) ?_
  refine r_istore hV dX10_play_39 (Nat.le_of_ble_eq_true rfl) (z_st1_16_8 rfl) ?_
  refine r_iload hV dX10_play_41 rfl ?_
  refine s_iconst hV dX10_play_43 (-1) (by decide) ?_
  refine s_icmp_ne hV 51 dX10_play_44 (by decide) (by unfold z_rg; first | omega | (split <;> omega)) (by unfold z_rg; first | omega | (split <;> omega)) (fun _ => ?_) (fun c44 => absurd c44 (by omega))
  refine s_iconst hV dX10_play_51 (1) (by decide) ?_
  refine r_iload_n hV dX10_play_52 rfl ?_
  refine s_isub hV dX10_play_53 ?_
  refine r_istore hV dX10_play_54 (Nat.le_of_ble_eq_true rfl) (z_st1_16_9 rfl) ?_
  refine s_iconst hV dX10_play_56 (0) (by decide) ?_
  refine r_istore hV dX10_play_57 (Nat.le_of_ble_eq_true rfl) (z_st1_16_10 rfl) ?_
  refine r_iload hV dX10_play_59 rfl ?_
  refine s_iconst hV dX10_play_61 (-1) (by decide) ?_
  refine s_icmp_eq hV 115 dX10_play_62 (by decide) (by unfold z_rg; first | omega | (split <;> omega)) (by unfold z_rg; first | omega | (split <;> omega)) (fun c62 => absurd c62 (by omega)) (fun _ => ?_)
  refine r_iload hV dX10_play_65 rfl ?_
  refine r_aload_n hV dX10_play_67 rfl rfl ?_
  refine r_iload hV dX10_play_68 rfl ?_
  refine q_iv1v hV dX10_play_70 mv_X10_21 (m_homeward I J P d hP hD n hn hnb D hDl her (Or.inr hher)) (by first | decide | omega) (by first | rfl | assumption) (by omega) (Nat.le_refl _) (Nat.le_of_ble_eq_true rfl) ?_
  rw [show (if her = -1 then (0 : Int) else D (her * 6)) = f_hw D her from rfl]
  refine s_isub hV dX10_play_73 ?_
  refine r_istore hV dX10_play_74 (Nat.le_of_ble_eq_true rfl) (z_st1_16_11 rfl) ?_
  refine r_iload_n hV dX10_play_76 rfl ?_
  refine s_if_ne hV 98 dX10_play_77 (by decide) (by unfold z_rg; first | omega | (split <;> omega)) (fun c77 => absurd c77 (by decide)) (fun _ => ?_)
  refine r_aload_n hV dX10_play_80 rfl rfl ?_
  refine r_iload_n hV dX10_play_81 rfl ?_
  refine s_iconst hV dX10_play_82 (1) (by decide) ?_
  refine s_iadd hV dX10_play_83 ?_
  refine r_iload hV dX10_play_84 rfl ?_
  refine r_iload_n hV dX10_play_86 rfl ?_
  refine s_iconst hV dX10_play_87 (-1) (by decide) ?_
  refine r_iload hV dX10_play_88 rfl ?_
  refine r_iload hV dX10_play_90 rfl ?_
  refine q_is7v hV dX10_play_92 ms_X10_25 (rec 1 opn (-1) him (left - f_hw D her) ((6 - (k : Int)) + 1) (by omega) (by omega) h64 (Or.inl rfl) (Or.inr hhim) (by omega) (by omega) (by have : f_hw D (-1) = 0 := rfl; omega) (by omega)) (by omega) (Nat.le_refl _) (Nat.le_of_ble_eq_true rfl) ?_
  have hgb := f_play_b (D := D) (W := W) (U := U) (K := K) (e := e) hUb k 1 opn (-1) him (left - f_hw D her)
  refine r_goto hV 113 dX10_play_95 (by decide) ?_
  refine r_istore hV dX10_play_113 (Nat.le_of_ble_eq_true rfl) (z_st1_16_10 rfl) ?_
  refine s_iconst hV dX10_play_115 (0) (by decide) ?_
  refine r_istore hV dX10_play_116 (Nat.le_of_ble_eq_true rfl) (z_st1_16_11 rfl) ?_
  have L118 : ∀ (k118 j : Nat) (b : Nat × Nat), 6 - j < k118 → j ≤ 6 → (b = zit (f_ps0 D W U K e (f_play D W U K e k) 1 opn her him left) j (f_play D W U K e k 1 opn (-1) him (left - f_hw D her))) → (b.1 ≤ 9 * (k + 1) ∧ b.2 ≤ 9 * (k + 1)) → V 108 I J P 118 [.ref 58, .int (iI (6 - (k : Int))), .int (iI 0), .int (iI (opn : Int)), .int (iI her), .int (iI him), .int (iI left), .int (iI her), .int (iI him), .int (iI 1), .int (iI ((b.1 : Int) * 256 + (b.2 : Int))), .int (iI (j : Int)), .null, .null, .null, .null] [] := by
    intro k118
    induction k118 with
    | zero => intro j b  hk1 hk2; omega
    | succ k118 ih118 =>
      intro j b  hk118 hl118 hB hb
      refine r_iload hV dX10_play_118 rfl ?_
      refine s_bipush hV dX10_play_120 (6) (by decide) ?_
      refine s_icmp_ge hV 304 dX10_play_122 (by decide) (by unfold z_rg; first | omega | (split <;> omega)) (by unfold z_rg; first | omega | (split <;> omega)) (fun c122 => ?_) (fun c122 => ?_)
      · refine r_iload hV dX10_play_304 rfl ?_
        refine r_iret hV dX10_play_306 rfl rfl ?_
        have hj : j = 6 := by omega
        subst hj
        rw [hB]
        exact ⟨by rw [hfp], rfl, rfl, rfl⟩
      · exact m_play0n_S I J P d hP hD n hn hnb e he he6 D W U K hDl hDb hW hWb hU hUb hK hKb k hk rec opn h64 her him left hher hhim hleft j (by omega) b hb hV (ih118 (j + 1) _ (by omega) (by omega) (by rw [zit, ← hB]) (f_ps0_b hUb hb))
  exact L118 7 0 _ (by omega) (by omega) rfl (by omega)

set_option maxRecDepth 20000 in
theorem m_play0g_S {V : Nat → zI → zJ → zP → Nat → List Value → List Value → Prop} {ini : Bool} {ret : Option FieldType} {post : Option Value → zI → zJ → zP → Prop} (I : zI) (J : zJ) (P : zP) (d : Nat) (hP : P 58 0 = some d) (hD : zDay P d) (n : Nat) (hn : I d 0 = iI (n : Int)) (hnb : 1 ≤ n ∧ n ≤ 6) (e : Nat) (he : I d 3 = iI (e : Int)) (he6 : e ≤ 6) (D W U K : Int → Int) (hDl : z_ar I (d + 2) 36 D) (hDb : z_bd D 36 0 1000000) (hW : z_ar I (d + 3) 6 W) (hWb : z_bd W e 0 (n - 1)) (hU : z_ar I (d + 4) 6 U) (hUb : z_bd U 6 0 9) (hK : z_ar I (d + 5) 6 K) (hKb : z_bd K 6 0 2) (k : Nat) (hk : k < 7) (rec : ∀ (on opn : Nat) (her him left T : Int), T = 7 - (k : Int) → on ≤ 1 → opn < 64 → (her = -1 ∨ (0 ≤ her ∧ her < (n : Int))) → (him = -1 ∨ (0 ≤ him ∧ him < (n : Int))) → (on = 0 → her ≠ -1) → (on = 1 → him ≠ -1) → f_hw D her + f_hw D him ≤ left → left ≤ 100000 → z_Fn (k + 2) yX10_play cX10_play 16 (some .int) 108 108 I J P [.ref 58, .int (iI T), .int (iI (on : Int)), .int (iI (opn : Int)), .int (iI her), .int (iI him), .int (iI left)] (some (.int (iI ((((f_play D W U K e k (on) opn her him left).1 : Nat) : Int) * 256 + (((f_play D W U K e k (on) opn her him left).2 : Nat) : Int))))) I J P) (opn : Nat) (h64 : opn < 64) (her left : Int) (hher : 0 ≤ her ∧ her < (n : Int)) (hleft : f_hw D her + f_hw D (-1) ≤ left ∧ left ≤ 100000) (j : Nat) (hj6 : j < 6) (b : Nat × Nat) (hb : b.1 ≤ 9 * (k + 1) ∧ b.2 ≤ 9 * (k + 1)) (hV : z_Cl yX10_play.cls cX10_play (k + 3) 108 ini none ret post V) (hgo : V 108 I J P 118 [.ref 58, .int (iI (6 - (k : Int))), .int (iI 0), .int (iI (opn : Int)), .int (iI her), .int (iI (-1)), .int (iI left), .int (iI her), .int (iI (-1)), .int (iI 0), .int (iI (((f_ps0 D W U K e (f_play D W U K e k) 0 opn her (-1) left j b).1 : Int) * 256 + ((f_ps0 D W U K e (f_play D W U K e k) 0 opn her (-1) left j b).2 : Int))), .int (iI (((j + 1 : Nat)) : Int)), .null, .null, .null, .null] []) : V 108 I J P 125 [.ref 58, .int (iI (6 - (k : Int))), .int (iI 0), .int (iI (opn : Int)), .int (iI her), .int (iI (-1)), .int (iI left), .int (iI her), .int (iI (-1)), .int (iI 0), .int (iI ((b.1 : Int) * 256 + (b.2 : Int))), .int (iI (j : Int)), .null, .null, .null, .null] [] := by
  obtain ⟨hd, p4, p5, p6, p7, p8⟩ := id hD
  obtain ⟨hlt, s0, s1, s2, s3, s4, s5⟩ := zDay_s hD
  have hmb := f_hw_b (a := her) hDb hnb.2 (Or.inr hher)
  have hob := f_hw_b (a := (-1)) hDb hnb.2 (Or.inl rfl)
  unfold f_ps0 at hgo
  refine r_iload_n hV dX10_play_125 rfl ?_
  refine r_iload hV dX10_play_126 rfl ?_
  refine s_ishr hV dX10_play_128 (zb_shr (by omega) (by omega)) ?_
  refine s_iconst hV dX10_play_129 (1) (by decide) ?_
  refine s_iand hV dX10_play_130 (by first | exact zb_one (by omega) (by omega) | exact zb_and (by omega) (by omega) | exact zb_df' (by omega) (by omega)) ?_
  refine s_iconst hV dX10_play_131 (1) (by decide) ?_
  refine s_icmp_ne hV 298 dX10_play_132 (by decide) (by unfold z_rg; first | omega | (split <;> omega)) (by unfold z_rg; first | omega | (split <;> omega)) (fun c132 => ?_) (fun c132 => ?_)
  · have hbt := z_bt0 c132
    refine s_iinc hV dX10_play_298 rfl rfl ?_
    refine r_goto hV 118 dX10_play_301 (by decide) ?_
    refine r_kill hV 12 z_stk_16_12 ?_
    refine r_kill hV 13 z_stk_16_13 ?_
    refine r_kill hV 14 z_stk_16_14 ?_
    refine r_kill hV 15 z_stk_16_15 ?_
    first
      | (rw [if_neg (fun h => hbt h.1)] at hgo; exact hgo)
      | (rw [if_neg (fun h => hcd (by have := h.2.1; omega))] at hgo; exact hgo)
      | (rw [if_neg (fun h => by have h1 := h.2.2.1; have h2 := h.2.2.2; omega)] at hgo; exact hgo)
      | (rw [if_pos ⟨hbt, by omega, by omega, by omega⟩] at hgo; exact hgo)
  · have hbt := z_bt1 c132
    refine r_aload_n hV dX10_play_135 rfl rfl ?_
    refine r_getR hV dX10_play_136 fl_X10_9 (by first | decide | omega) (by first | rfl | assumption) (by first | assumption | rfl) ?_
    refine r_iload_n hV dX10_play_139 rfl ?_
    refine r_iload hV dX10_play_140 rfl ?_
    refine q_iv2v hV dX10_play_142 mv_X10_29 (m_canDo I J P d hD (e : Int) he (by omega) 0 (by unfold z_rg; omega) (j : Int) (by unfold z_rg; omega) K hK hKb) (by first | decide | omega) (by first | rfl | assumption) (by omega) (Nat.le_refl _) (Nat.le_of_ble_eq_true rfl) ?_
    refine s_if_eq hV 298 dX10_play_145 (by decide) (by unfold z_rg; first | omega | (split <;> omega)) (fun c145 => ?_) (fun c145 => ?_)
    · have hcd := z_ite0 c145
      refine s_iinc hV dX10_play_298 rfl rfl ?_
      refine r_goto hV 118 dX10_play_301 (by decide) ?_
      refine r_kill hV 12 z_stk_16_12 ?_
      refine r_kill hV 13 z_stk_16_13 ?_
      refine r_kill hV 14 z_stk_16_14 ?_
      refine r_kill hV 15 z_stk_16_15 ?_
      first
        | (rw [if_neg (fun h => hbt h.1)] at hgo; exact hgo)
        | (rw [if_neg (fun h => hcd (by have := h.2.1; omega))] at hgo; exact hgo)
        | (rw [if_neg (fun h => by have h1 := h.2.2.1; have h2 := h.2.2.2; omega)] at hgo; exact hgo)
        | (rw [if_pos ⟨hbt, by omega, by omega, by omega⟩] at hgo; exact hgo)
    · have hcd := z_ite1 c145
      refine r_aload_n hV dX10_play_148 rfl rfl ?_
      refine r_getR hV dX10_play_149 fl_X10_9 (by first | decide | omega) (by first | rfl | assumption) (by first | assumption | rfl) ?_
      refine r_iload hV dX10_play_152 rfl ?_
      refine q_iv1v hV dX10_play_154 mv_X10_33 (m_siteOf I J P d hD (e : Int) he (by omega) (j : Int) (by unfold z_rg; omega) W hW) (by first | decide | omega) (by first | rfl | assumption) (by omega) (Nat.le_refl _) (Nat.le_of_ble_eq_true rfl) ?_
      rw [if_pos (by omega)]
      have hwb := hWb (j : Int) (by omega) (by omega)
      refine r_istore hV dX10_play_157 (Nat.le_of_ble_eq_true rfl) (z_st1_16_12 rfl) ?_
      refine r_iload hV dX10_play_159 rfl ?_
      refine r_aload_n hV dX10_play_161 rfl rfl ?_
      refine r_getR hV dX10_play_162 fl_X10_9 (by first | decide | omega) (by first | rfl | assumption) (by first | assumption | rfl) ?_
      refine r_iload hV dX10_play_165 rfl ?_
      refine r_iload hV dX10_play_167 rfl ?_
      refine q_iv2v hV dX10_play_169 mv_X10_15 (m_between I J P d hD (n : Int) hn (by omega) her (by unfold z_rg; omega) (W (j : Int)) (by unfold z_rg; omega) D hDl) (by first | decide | omega) (by first | rfl | assumption) (by omega) (Nat.le_refl _) (Nat.le_of_ble_eq_true rfl) ?_
      rw [if_pos (by omega)]
      have hdb := hDb (her * 6 + W (j : Int)) (by omega) (by omega)
      refine s_isub hV dX10_play_172 ?_
      refine r_istore hV dX10_play_173 (Nat.le_of_ble_eq_true rfl) (z_st1_16_13 rfl) ?_
      refine r_aload_n hV dX10_play_175 rfl rfl ?_
      refine r_iload hV dX10_play_176 rfl ?_
      refine q_iv1v hV dX10_play_178 mv_X10_21 (m_homeward I J P d hP hD n hn hnb D hDl (W (j : Int)) (Or.inr (by omega))) (by first | decide | omega) (by first | rfl | assumption) (by omega) (Nat.le_refl _) (Nat.le_of_ble_eq_true rfl) ?_
      rw [show (if (W (j : Int)) = -1 then (0 : Int) else D ((W (j : Int)) * 6)) = f_hw D (W (j : Int)) from rfl]
      refine r_aload_n hV dX10_play_181 rfl rfl ?_
      refine r_iload hV dX10_play_182 rfl ?_
      refine q_iv1v hV dX10_play_184 mv_X10_21 (m_homeward I J P d hP hD n hn hnb D hDl (-1) (Or.inl rfl)) (by first | decide | omega) (by first | rfl | assumption) (by omega) (Nat.le_refl _) (Nat.le_of_ble_eq_true rfl) ?_
      rw [show (if (-1) = -1 then (0 : Int) else D ((-1) * 6)) = f_hw D (-1) from rfl]
      have hws := f_hw_b (a := W (j : Int)) hDb hnb.2 (Or.inr (by omega))
      refine s_iadd hV dX10_play_187 ?_
      refine r_iload hV dX10_play_188 rfl ?_
      refine s_icmp_gt hV 298 dX10_play_190 (by decide) (by unfold z_rg; first | omega | (split <;> omega)) (by unfold z_rg; first | omega | (split <;> omega)) (fun c190 => ?_) (fun c190 => ?_)
      · refine s_iinc hV dX10_play_298 rfl rfl ?_
        refine r_goto hV 118 dX10_play_301 (by decide) ?_
        refine r_kill hV 12 z_stk_16_12 ?_
        refine r_kill hV 13 z_stk_16_13 ?_
        refine r_kill hV 14 z_stk_16_14 ?_
        refine r_kill hV 15 z_stk_16_15 ?_
        first
          | (rw [if_neg (fun h => hbt h.1)] at hgo; exact hgo)
          | (rw [if_neg (fun h => hcd (by have := h.2.1; omega))] at hgo; exact hgo)
          | (rw [if_neg (fun h => by have h1 := h.2.2.1; have h2 := h.2.2.2; omega)] at hgo; exact hgo)
          | (rw [if_pos ⟨hbt, by omega, by omega, by omega⟩] at hgo; exact hgo)
      · refine r_iload_n hV dX10_play_193 rfl ?_
        refine s_iconst hV dX10_play_194 (1) (by decide) ?_
        refine r_iload hV dX10_play_195 rfl ?_
        refine s_ishl hV dX10_play_197 (zb_shl (by omega)) ?_
        refine s_iconst hV dX10_play_198 (-1) (by decide) ?_
        refine s_ixor hV dX10_play_199 (zb_not (z_pw (by omega))) ?_
        refine s_iand hV dX10_play_200 (zb_df' h64 (z_pw (by omega))) ?_
        refine r_istore hV dX10_play_201 (Nat.le_of_ble_eq_true rfl) (z_st1_16_14 rfl) ?_
        refine r_iload_n hV dX10_play_203 rfl ?_
        refine s_if_ne hV 227 dX10_play_204 (by decide) (by unfold z_rg; first | omega | (split <;> omega)) (fun c204 => absurd c204 (by decide)) (fun _ => ?_)
        refine r_aload_n hV dX10_play_207 rfl rfl ?_
        refine r_iload_n hV dX10_play_208 rfl ?_
        refine s_iconst hV dX10_play_209 (1) (by decide) ?_
        refine s_iadd hV dX10_play_210 ?_
        refine r_iload hV dX10_play_211 rfl ?_
        refine r_iload hV dX10_play_213 rfl ?_
        refine r_iload hV dX10_play_215 rfl ?_
        refine r_iload hV dX10_play_217 rfl ?_
        refine r_iload hV dX10_play_219 rfl ?_
        refine q_is7v hV dX10_play_221 ms_X10_25 (rec 0 (zdf opn (2 ^ j)) (W (j : Int)) (-1) (left - D (her * 6 + W (j : Int))) ((6 - (k : Int)) + 1) (by omega) (by omega) (z_df_lt h64) (Or.inr (by omega)) (Or.inl rfl) (by omega) (by omega) (by omega) (by omega)) (by omega) (Nat.le_refl _) (Nat.le_of_ble_eq_true rfl) ?_
        have hrb := f_play_b (D := D) (W := W) (U := U) (K := K) (e := e) hUb k 0 (zdf opn (2 ^ j)) (W (j : Int)) (-1) (left - D (her * 6 + W (j : Int)))
        generalize hrc : f_play D W U K e k 0 (zdf opn (2 ^ j)) (W (j : Int)) (-1) (left - D (her * 6 + W (j : Int))) = r at hrb hgo ⊢
        have hub := hUb (j : Int) (by omega) (by omega)
        refine r_goto hV 244 dX10_play_224 (by decide) ?_
        refine r_istore hV dX10_play_244 (Nat.le_of_ble_eq_true rfl) (z_st1_16_15 rfl) ?_
        refine r_iload hV dX10_play_246 rfl ?_
        refine r_iload_n hV dX10_play_248 rfl ?_
        refine s_if_ne hV 267 dX10_play_249 (by decide) (by unfold z_rg; first | omega | (split <;> omega)) (fun c249 => absurd c249 (by decide)) (fun _ => ?_)
        refine r_aload_n hV dX10_play_252 rfl rfl ?_
        refine r_getR hV dX10_play_253 fl_X10_9 (by first | decide | omega) (by first | rfl | assumption) (by first | assumption | rfl) ?_
        refine r_iload hV dX10_play_256 rfl ?_
        refine q_iv1v hV dX10_play_258 mv_X10_36 (m_worthOf I J P d hD (e : Int) he (by omega) (j : Int) (by unfold z_rg; omega) U hU) (by first | decide | omega) (by first | rfl | assumption) (by omega) (Nat.le_refl _) (Nat.le_of_ble_eq_true rfl) ?_
        rw [if_pos (by omega)]
        refine s_bipush hV dX10_play_261 (8) (by decide) ?_
        refine s_ishl hV dX10_play_263 (zb_sh8 hub.1 hub.2) ?_
        refine r_goto hV 276 dX10_play_264 (by decide) ?_
        refine s_iadd hV dX10_play_276 ?_
        rw [show ((r.1 : Nat) : Int) * 256 + ((r.2 : Nat) : Int) + U (j : Int) * 256 = ((r.1 + (U (j : Int)).toNat : Nat) : Int) * 256 + ((r.2 : Nat) : Int) by omega]
        refine r_istore hV dX10_play_277 (Nat.le_of_ble_eq_true rfl) (z_st1_16_15 rfl) ?_
        refine r_iload hV dX10_play_279 rfl ?_
        refine r_iload_n hV dX10_play_281 rfl ?_
        refine q_is2v hV dX10_play_282 ms_X10_39 (m_share I J P (r.1 + (U (j : Int)).toNat) (r.2) (by omega) (by omega) 0 (by omega)) (by omega) (Nat.le_refl _) (Nat.le_of_ble_eq_true rfl) ?_
        rw [if_pos rfl]
        refine r_iload hV dX10_play_285 rfl ?_
        refine r_iload_n hV dX10_play_287 rfl ?_
        refine q_is2v hV dX10_play_288 ms_X10_39 (m_share I J P b.1 b.2 (by omega) (by omega) 0 (by omega)) (by omega) (Nat.le_refl _) (Nat.le_of_ble_eq_true rfl) ?_
        rw [if_pos rfl]
        refine s_icmp_le hV 298 dX10_play_291 (by decide) (by unfold z_rg; first | omega | (split <;> omega)) (by unfold z_rg; first | omega | (split <;> omega)) (fun c291 => ?_) (fun c291 => ?_)
        · refine s_iinc hV dX10_play_298 rfl rfl ?_
          refine r_goto hV 118 dX10_play_301 (by decide) ?_
          refine r_kill hV 12 z_stk_16_12 ?_
          refine r_kill hV 13 z_stk_16_13 ?_
          refine r_kill hV 14 z_stk_16_14 ?_
          refine r_kill hV 15 z_stk_16_15 ?_
          first
            | (rw [if_neg (fun h => hbt h.1)] at hgo; exact hgo)
            | (rw [if_neg (fun h => hcd (by have := h.2.1; omega))] at hgo; exact hgo)
            | (rw [if_neg (fun h => by have h1 := h.2.2.1; have h2 := h.2.2.2; omega)] at hgo; exact hgo)
            | (rw [if_pos ⟨hbt, by omega, by omega, by omega⟩] at hgo; exact hgo)
        · refine r_iload hV dX10_play_294 rfl ?_
          refine r_istore hV dX10_play_296 (Nat.le_of_ble_eq_true rfl) (z_st1_16_10 rfl) ?_
          refine s_iinc hV dX10_play_298 rfl rfl ?_
          refine r_goto hV 118 dX10_play_301 (by decide) ?_
          refine r_kill hV 12 z_stk_16_12 ?_
          refine r_kill hV 13 z_stk_16_13 ?_
          refine r_kill hV 14 z_stk_16_14 ?_
          refine r_kill hV 15 z_stk_16_15 ?_
          first
            | (rw [if_neg (fun h => hbt h.1)] at hgo; exact hgo)
            | (rw [if_neg (fun h => hcd (by have := h.2.1; omega))] at hgo; exact hgo)
            | (rw [if_neg (fun h => by have h1 := h.2.2.1; have h2 := h.2.2.2; omega)] at hgo; exact hgo)
            | (rw [if_pos ⟨hbt, by omega, by omega, by omega⟩] at hgo; exact hgo)

set_option maxRecDepth 20000 in
theorem m_play0g (I : zI) (J : zJ) (P : zP) (d : Nat) (hP : P 58 0 = some d) (hD : zDay P d) (n : Nat) (hn : I d 0 = iI (n : Int)) (hnb : 1 ≤ n ∧ n ≤ 6) (e : Nat) (he : I d 3 = iI (e : Int)) (he6 : e ≤ 6) (D W U K : Int → Int) (hDl : z_ar I (d + 2) 36 D) (hDb : z_bd D 36 0 1000000) (hW : z_ar I (d + 3) 6 W) (hWb : z_bd W e 0 (n - 1)) (hU : z_ar I (d + 4) 6 U) (hUb : z_bd U 6 0 9) (hK : z_ar I (d + 5) 6 K) (hKb : z_bd K 6 0 2) (k : Nat) (hk : k < 7) (rec : ∀ (on opn : Nat) (her him left T : Int), T = 7 - (k : Int) → on ≤ 1 → opn < 64 → (her = -1 ∨ (0 ≤ her ∧ her < (n : Int))) → (him = -1 ∨ (0 ≤ him ∧ him < (n : Int))) → (on = 0 → her ≠ -1) → (on = 1 → him ≠ -1) → f_hw D her + f_hw D him ≤ left → left ≤ 100000 → z_Fn (k + 2) yX10_play cX10_play 16 (some .int) 108 108 I J P [.ref 58, .int (iI T), .int (iI (on : Int)), .int (iI (opn : Int)), .int (iI her), .int (iI him), .int (iI left)] (some (.int (iI ((((f_play D W U K e k (on) opn her him left).1 : Nat) : Int) * 256 + (((f_play D W U K e k (on) opn her him left).2 : Nat) : Int))))) I J P) (opn : Nat) (h64 : opn < 64) (her left : Int) (hher : 0 ≤ her ∧ her < (n : Int)) (hleft : f_hw D her + f_hw D (-1) ≤ left ∧ left ≤ 100000) : z_Fn (k + 3) yX10_play cX10_play 16 (some .int) 108 108 I J P [.ref 58, .int (iI (6 - (k : Int))), .int (iI 0), .int (iI (opn : Int)), .int (iI her), .int (iI (-1)), .int (iI left)] (some (.int (iI ((((f_play D W U K e (k + 1) 0 opn her (-1) left).1 : Nat) : Int) * 256 + (((f_play D W U K e (k + 1) 0 opn her (-1) left).2 : Nat) : Int))))) (I) (J) (P) := by
  obtain ⟨hd, p4, p5, p6, p7, p8⟩ := id hD
  obtain ⟨hlt, s0, s1, s2, s3, s4, s5⟩ := zDay_s hD
  have hmb := f_hw_b (a := her) hDb hnb.2 (Or.inr hher)
  have hob := f_hw_b (a := (-1)) hDb hnb.2 (Or.inl rfl)
  have hfp : f_play D W U K e (k + 1) 0 opn her (-1) left = zit (f_ps0 D W U K e (f_play D W U K e k) 0 opn her (-1) left) 6 ((0 : Nat), (0 : Nat)) := by
    simp [f_play]
  refine z_met false (by decide +kernel) (fun h => by cases h) (Nat.le_of_ble_eq_true rfl) (by first | decide | omega) (fun V hV => ?_)
  show V 108 I J P 0 [.ref 58, .int (iI (6 - (k : Int))), .int (iI 0), .int (iI (opn : Int)), .int (iI her), .int (iI (-1)), .int (iI left), .null, .null, .null, .null, .null, .null, .null, .null, .null] []
  refine r_iload_n hV dX10_play_0 rfl ?_
  refine s_bipush hV dX10_play_1 (7) (by decide) ?_
  refine s_icmp_ge hV 13 dX10_play_3 (by decide) (by unfold z_rg; first | omega | (split <;> omega)) (by unfold z_rg; first | omega | (split <;> omega)) (fun c3 => absurd c3 (by omega)) (fun _ => ?_)
  refine r_aload_n hV dX10_play_6 rfl rfl ?_
  refine r_getR hV dX10_play_7 fl_X10_9 (by first | decide | omega) (by first | rfl | assumption) (by first | assumption | rfl) ?_
  refine r_ifnonnull hV 15 dX10_play_10 rfl (by decide) ?_
  refine r_iload_n hV dX10_play_15 rfl ?_
  refine s_if_ne hV 24 dX10_play_16 (by decide) (by unfold z_rg; first | omega | (split <;> omega)) (fun c16 => absurd c16 (by decide)) (fun _ => ?_)
  refine r_iload hV dX10_play_19 rfl ?_
  refine r_goto hV 26 dX10_play_21 (by decide) ?_
  refine r_istore hV dX10_play_26 (Nat.le_of_ble_eq_true rfl) (z_st1_16_7 rfl) ?_
  refine r_iload_n hV dX10_play_28 rfl ?_
  refine s_if_ne hV 37 dX10_play_29 (by decide) (by unfold z_rg; first | omega | (split <;> omega)) (fun c29 => absurd c29 (by decide)) (fun _ => ?_)
  refine r_iload hV dX10_play_32 rfl ?_
  refine r_goto hV 39 dX10_play_34 (by decide) ?_
  refine r_istore hV dX10_play_39 (Nat.le_of_ble_eq_true rfl) (z_st1_16_8 rfl) ?_
  refine r_iload hV dX10_play_41 rfl ?_
  refine s_iconst hV dX10_play_43 (-1) (by decide) ?_
  refine s_icmp_ne hV 51 dX10_play_44 (by decide) (by unfold z_rg; first | omega | (split <;> omega)) (by unfold z_rg; first | omega | (split <;> omega)) (fun c44 => absurd c44 (by decide)) (fun _ => ?_)
  refine r_iload_n hV dX10_play_47 rfl ?_
  refine r_goto hV 54 dX10_play_48 (by decide) ?_
  refine r_istore hV dX10_play_54 (Nat.le_of_ble_eq_true rfl) (z_st1_16_9 rfl) ?_
  refine s_iconst hV dX10_play_56 (0) (by decide) ?_
  refine r_istore hV dX10_play_57 (Nat.le_of_ble_eq_true rfl) (z_st1_16_10 rfl) ?_
  refine r_iload hV dX10_play_59 rfl ?_
  refine s_iconst hV dX10_play_61 (-1) (by decide) ?_
  refine s_icmp_eq hV 115 dX10_play_62 (by decide) (by unfold z_rg; first | omega | (split <;> omega)) (by unfold z_rg; first | omega | (split <;> omega)) (fun _ => ?_) (fun c62 => absurd (by decide) c62)
  refine s_iconst hV dX10_play_115 (0) (by decide) ?_
  refine r_istore hV dX10_play_116 (Nat.le_of_ble_eq_true rfl) (z_st1_16_11 rfl) ?_
  have L118 : ∀ (k118 j : Nat) (b : Nat × Nat), 6 - j < k118 → j ≤ 6 → (b = zit (f_ps0 D W U K e (f_play D W U K e k) 0 opn her (-1) left) j ((0 : Nat), (0 : Nat))) → (b.1 ≤ 9 * (k + 1) ∧ b.2 ≤ 9 * (k + 1)) → V 108 I J P 118 [.ref 58, .int (iI (6 - (k : Int))), .int (iI 0), .int (iI (opn : Int)), .int (iI her), .int (iI (-1)), .int (iI left), .int (iI her), .int (iI (-1)), .int (iI 0), .int (iI ((b.1 : Int) * 256 + (b.2 : Int))), .int (iI (j : Int)), .null, .null, .null, .null] [] := by
    intro k118
    induction k118 with
    | zero => intro j b  hk1 hk2; omega
    | succ k118 ih118 =>
      intro j b  hk118 hl118 hB hb
      refine r_iload hV dX10_play_118 rfl ?_
      refine s_bipush hV dX10_play_120 (6) (by decide) ?_
      refine s_icmp_ge hV 304 dX10_play_122 (by decide) (by unfold z_rg; first | omega | (split <;> omega)) (by unfold z_rg; first | omega | (split <;> omega)) (fun c122 => ?_) (fun c122 => ?_)
      · refine r_iload hV dX10_play_304 rfl ?_
        refine r_iret hV dX10_play_306 rfl rfl ?_
        have hj : j = 6 := by omega
        subst hj
        rw [hB]
        exact ⟨by rw [hfp], rfl, rfl, rfl⟩
      · exact m_play0g_S I J P d hP hD n hn hnb e he he6 D W U K hDl hDb hW hWb hU hUb hK hKb k hk rec opn h64 her left hher hleft j (by omega) b hb hV (ih118 (j + 1) _ (by omega) (by omega) (by rw [zit, ← hB]) (f_ps0_b hUb hb))
  exact L118 7 0 _ (by omega) (by omega) rfl ⟨Nat.zero_le _, Nat.zero_le _⟩

set_option maxRecDepth 20000 in
theorem m_play1n_S {V : Nat → zI → zJ → zP → Nat → List Value → List Value → Prop} {ini : Bool} {ret : Option FieldType} {post : Option Value → zI → zJ → zP → Prop} (I : zI) (J : zJ) (P : zP) (d : Nat) (hP : P 58 0 = some d) (hD : zDay P d) (n : Nat) (hn : I d 0 = iI (n : Int)) (hnb : 1 ≤ n ∧ n ≤ 6) (e : Nat) (he : I d 3 = iI (e : Int)) (he6 : e ≤ 6) (D W U K : Int → Int) (hDl : z_ar I (d + 2) 36 D) (hDb : z_bd D 36 0 1000000) (hW : z_ar I (d + 3) 6 W) (hWb : z_bd W e 0 (n - 1)) (hU : z_ar I (d + 4) 6 U) (hUb : z_bd U 6 0 9) (hK : z_ar I (d + 5) 6 K) (hKb : z_bd K 6 0 2) (k : Nat) (hk : k < 7) (rec : ∀ (on opn : Nat) (her him left T : Int), T = 7 - (k : Int) → on ≤ 1 → opn < 64 → (her = -1 ∨ (0 ≤ her ∧ her < (n : Int))) → (him = -1 ∨ (0 ≤ him ∧ him < (n : Int))) → (on = 0 → her ≠ -1) → (on = 1 → him ≠ -1) → f_hw D her + f_hw D him ≤ left → left ≤ 100000 → z_Fn (k + 2) yX10_play cX10_play 16 (some .int) 108 108 I J P [.ref 58, .int (iI T), .int (iI (on : Int)), .int (iI (opn : Int)), .int (iI her), .int (iI him), .int (iI left)] (some (.int (iI ((((f_play D W U K e k (on) opn her him left).1 : Nat) : Int) * 256 + (((f_play D W U K e k (on) opn her him left).2 : Nat) : Int))))) I J P) (opn : Nat) (h64 : opn < 64) (her him left : Int) (hhim : 0 ≤ him ∧ him < (n : Int)) (hher : 0 ≤ her ∧ her < (n : Int)) (hleft : f_hw D her + f_hw D him ≤ left ∧ left ≤ 100000) (j : Nat) (hj6 : j < 6) (b : Nat × Nat) (hb : b.1 ≤ 9 * (k + 1) ∧ b.2 ≤ 9 * (k + 1)) (hV : z_Cl yX10_play.cls cX10_play (k + 3) 108 ini none ret post V) (hgo : V 108 I J P 118 [.ref 58, .int (iI (6 - (k : Int))), .int (iI 1), .int (iI (opn : Int)), .int (iI her), .int (iI him), .int (iI left), .int (iI him), .int (iI her), .int (iI 0), .int (iI (((f_ps1 D W U K e (f_play D W U K e k) 0 opn her him left j b).1 : Int) * 256 + ((f_ps1 D W U K e (f_play D W U K e k) 0 opn her him left j b).2 : Int))), .int (iI (((j + 1 : Nat)) : Int)), .null, .null, .null, .null] []) : V 108 I J P 125 [.ref 58, .int (iI (6 - (k : Int))), .int (iI 1), .int (iI (opn : Int)), .int (iI her), .int (iI him), .int (iI left), .int (iI him), .int (iI her), .int (iI 0), .int (iI ((b.1 : Int) * 256 + (b.2 : Int))), .int (iI (j : Int)), .null, .null, .null, .null] [] := by
  obtain ⟨hd, p4, p5, p6, p7, p8⟩ := id hD
  obtain ⟨hlt, s0, s1, s2, s3, s4, s5⟩ := zDay_s hD
  have hmb := f_hw_b (a := him) hDb hnb.2 (Or.inr hhim)
  have hob := f_hw_b (a := her) hDb hnb.2 (Or.inr hher)
  unfold f_ps1 at hgo
  refine r_iload_n hV dX10_play_125 rfl ?_
  refine r_iload hV dX10_play_126 rfl ?_
  refine s_ishr hV dX10_play_128 (zb_shr (by omega) (by omega)) ?_
  refine s_iconst hV dX10_play_129 (1) (by decide) ?_
  refine s_iand hV dX10_play_130 (by first | exact zb_one (by omega) (by omega) | exact zb_and (by omega) (by omega) | exact zb_df' (by omega) (by omega)) ?_
  refine s_iconst hV dX10_play_131 (1) (by decide) ?_
  refine s_icmp_ne hV 298 dX10_play_132 (by decide) (by unfold z_rg; first | omega | (split <;> omega)) (by unfold z_rg; first | omega | (split <;> omega)) (fun c132 => ?_) (fun c132 => ?_)
  · have hbt := z_bt0 c132
    refine s_iinc hV dX10_play_298 rfl rfl ?_
    refine r_goto hV 118 dX10_play_301 (by decide) ?_
    refine r_kill hV 12 z_stk_16_12 ?_
    refine r_kill hV 13 z_stk_16_13 ?_
    refine r_kill hV 14 z_stk_16_14 ?_
    refine r_kill hV 15 z_stk_16_15 ?_
    first
      | (rw [if_neg (fun h => hbt h.1)] at hgo; exact hgo)
      | (rw [if_neg (fun h => hcd (by have := h.2.1; omega))] at hgo; exact hgo)
      | (rw [if_neg (fun h => by have h1 := h.2.2.1; have h2 := h.2.2.2; omega)] at hgo; exact hgo)
      | (rw [if_pos ⟨hbt, by omega, by omega, by omega⟩] at hgo; exact hgo)
  · have hbt := z_bt1 c132
    refine r_aload_n hV dX10_play_135 rfl rfl ?_
    refine r_getR hV dX10_play_136 fl_X10_9 (by first | decide | omega) (by first | rfl | assumption) (by first | assumption | rfl) ?_
    refine r_iload_n hV dX10_play_139 rfl ?_
    refine r_iload hV dX10_play_140 rfl ?_
    refine q_iv2v hV dX10_play_142 mv_X10_29 (m_canDo I J P d hD (e : Int) he (by omega) 1 (by unfold z_rg; omega) (j : Int) (by unfold z_rg; omega) K hK hKb) (by first | decide | omega) (by first | rfl | assumption) (by omega) (Nat.le_refl _) (Nat.le_of_ble_eq_true rfl) ?_
    refine s_if_eq hV 298 dX10_play_145 (by decide) (by unfold z_rg; first | omega | (split <;> omega)) (fun c145 => ?_) (fun c145 => ?_)
    · have hcd := z_ite0 c145
      refine s_iinc hV dX10_play_298 rfl rfl ?_
      refine r_goto hV 118 dX10_play_301 (by decide) ?_
      refine r_kill hV 12 z_stk_16_12 ?_
      refine r_kill hV 13 z_stk_16_13 ?_
      refine r_kill hV 14 z_stk_16_14 ?_
      refine r_kill hV 15 z_stk_16_15 ?_
      first
        | (rw [if_neg (fun h => hbt h.1)] at hgo; exact hgo)
        | (rw [if_neg (fun h => hcd (by have := h.2.1; omega))] at hgo; exact hgo)
        | (rw [if_neg (fun h => by have h1 := h.2.2.1; have h2 := h.2.2.2; omega)] at hgo; exact hgo)
        | (rw [if_pos ⟨hbt, by omega, by omega, by omega⟩] at hgo; exact hgo)
    · have hcd := z_ite1 c145
      refine r_aload_n hV dX10_play_148 rfl rfl ?_
      refine r_getR hV dX10_play_149 fl_X10_9 (by first | decide | omega) (by first | rfl | assumption) (by first | assumption | rfl) ?_
      refine r_iload hV dX10_play_152 rfl ?_
      refine q_iv1v hV dX10_play_154 mv_X10_33 (m_siteOf I J P d hD (e : Int) he (by omega) (j : Int) (by unfold z_rg; omega) W hW) (by first | decide | omega) (by first | rfl | assumption) (by omega) (Nat.le_refl _) (Nat.le_of_ble_eq_true rfl) ?_
      rw [if_pos (by omega)]
      have hwb := hWb (j : Int) (by omega) (by omega)
      refine r_istore hV dX10_play_157 (Nat.le_of_ble_eq_true rfl) (z_st1_16_12 rfl) ?_
      refine r_iload hV dX10_play_159 rfl ?_
      refine r_aload_n hV dX10_play_161 rfl rfl ?_
      refine r_getR hV dX10_play_162 fl_X10_9 (by first | decide | omega) (by first | rfl | assumption) (by first | assumption | rfl) ?_
      refine r_iload hV dX10_play_165 rfl ?_
      refine r_iload hV dX10_play_167 rfl ?_
      refine q_iv2v hV dX10_play_169 mv_X10_15 (m_between I J P d hD (n : Int) hn (by omega) him (by unfold z_rg; omega) (W (j : Int)) (by unfold z_rg; omega) D hDl) (by first | decide | omega) (by first | rfl | assumption) (by omega) (Nat.le_refl _) (Nat.le_of_ble_eq_true rfl) ?_
      rw [if_pos (by omega)]
      have hdb := hDb (him * 6 + W (j : Int)) (by omega) (by omega)
      refine s_isub hV dX10_play_172 ?_
      refine r_istore hV dX10_play_173 (Nat.le_of_ble_eq_true rfl) (z_st1_16_13 rfl) ?_
      refine r_aload_n hV dX10_play_175 rfl rfl ?_
      refine r_iload hV dX10_play_176 rfl ?_
      refine q_iv1v hV dX10_play_178 mv_X10_21 (m_homeward I J P d hP hD n hn hnb D hDl (W (j : Int)) (Or.inr (by omega))) (by first | decide | omega) (by first | rfl | assumption) (by omega) (Nat.le_refl _) (Nat.le_of_ble_eq_true rfl) ?_
      rw [show (if (W (j : Int)) = -1 then (0 : Int) else D ((W (j : Int)) * 6)) = f_hw D (W (j : Int)) from rfl]
      refine r_aload_n hV dX10_play_181 rfl rfl ?_
      refine r_iload hV dX10_play_182 rfl ?_
      refine q_iv1v hV dX10_play_184 mv_X10_21 (m_homeward I J P d hP hD n hn hnb D hDl her (Or.inr hher)) (by first | decide | omega) (by first | rfl | assumption) (by omega) (Nat.le_refl _) (Nat.le_of_ble_eq_true rfl) ?_
      rw [show (if her = -1 then (0 : Int) else D (her * 6)) = f_hw D her from rfl]
      have hws := f_hw_b (a := W (j : Int)) hDb hnb.2 (Or.inr (by omega))
      refine s_iadd hV dX10_play_187 ?_
      refine r_iload hV dX10_play_188 rfl ?_
      refine s_icmp_gt hV 298 dX10_play_190 (by decide) (by unfold z_rg; first | omega | (split <;> omega)) (by unfold z_rg; first | omega | (split <;> omega)) (fun c190 => ?_) (fun c190 => ?_)
      · refine s_iinc hV dX10_play_298 rfl rfl ?_
        refine r_goto hV 118 dX10_play_301 (by decide) ?_
        refine r_kill hV 12 z_stk_16_12 ?_
        refine r_kill hV 13 z_stk_16_13 ?_
        refine r_kill hV 14 z_stk_16_14 ?_
        refine r_kill hV 15 z_stk_16_15 ?_
        first
          | (rw [if_neg (fun h => hbt h.1)] at hgo; exact hgo)
          | (rw [if_neg (fun h => hcd (by have := h.2.1; omega))] at hgo; exact hgo)
          | (rw [if_neg (fun h => by have h1 := h.2.2.1; have h2 := h.2.2.2; omega)] at hgo; exact hgo)
          | (rw [if_pos ⟨hbt, by omega, by omega, by omega⟩] at hgo; exact hgo)
      · refine r_iload_n hV dX10_play_193 rfl ?_
        refine s_iconst hV dX10_play_194 (1) (by decide) ?_
        refine r_iload hV dX10_play_195 rfl ?_
        refine s_ishl hV dX10_play_197 (zb_shl (by omega)) ?_
        refine s_iconst hV dX10_play_198 (-1) (by decide) ?_
        refine s_ixor hV dX10_play_199 (zb_not (z_pw (by omega))) ?_
        refine s_iand hV dX10_play_200 (zb_df' h64 (z_pw (by omega))) ?_
        refine r_istore hV dX10_play_201 (Nat.le_of_ble_eq_true rfl) (z_st1_16_14 rfl) ?_
        refine r_iload_n hV dX10_play_203 rfl ?_
        refine s_if_ne hV 227 dX10_play_204 (by decide) (by unfold z_rg; first | omega | (split <;> omega)) (fun _ => ?_) (fun c204 => absurd c204 (by decide))
        refine r_aload_n hV dX10_play_227 rfl rfl ?_
        refine r_iload_n hV dX10_play_228 rfl ?_
        refine s_iconst hV dX10_play_229 (1) (by decide) ?_
        refine s_iadd hV dX10_play_230 ?_
        refine r_iload hV dX10_play_231 rfl ?_
        refine r_iload hV dX10_play_233 rfl ?_
        refine r_iload hV dX10_play_235 rfl ?_
        refine r_iload hV dX10_play_237 rfl ?_
        refine r_iload hV dX10_play_239 rfl ?_
        refine q_is7v hV dX10_play_241 ms_X10_25 (rec 0 (zdf opn (2 ^ j)) her (W (j : Int)) (left - D (him * 6 + W (j : Int))) ((6 - (k : Int)) + 1) (by omega) (by omega) (z_df_lt h64) (Or.inr hher) (Or.inr (by omega)) (by omega) (by omega) (by omega) (by omega)) (by omega) (Nat.le_refl _) (Nat.le_of_ble_eq_true rfl) ?_
        have hrb := f_play_b (D := D) (W := W) (U := U) (K := K) (e := e) hUb k 0 (zdf opn (2 ^ j)) her (W (j : Int)) (left - D (him * 6 + W (j : Int)))
        generalize hrc : f_play D W U K e k 0 (zdf opn (2 ^ j)) her (W (j : Int)) (left - D (him * 6 + W (j : Int))) = r at hrb hgo ⊢
        have hub := hUb (j : Int) (by omega) (by omega)
        refine r_istore hV dX10_play_244 (Nat.le_of_ble_eq_true rfl) (z_st1_16_15 rfl) ?_
        refine r_iload hV dX10_play_246 rfl ?_
        refine r_iload_n hV dX10_play_248 rfl ?_
        refine s_if_ne hV 267 dX10_play_249 (by decide) (by unfold z_rg; first | omega | (split <;> omega)) (fun _ => ?_) (fun c249 => absurd c249 (by decide))
        refine r_aload_n hV dX10_play_267 rfl rfl ?_
        refine r_getR hV dX10_play_268 fl_X10_9 (by first | decide | omega) (by first | rfl | assumption) (by first | assumption | rfl) ?_
        refine r_iload hV dX10_play_271 rfl ?_
        refine q_iv1v hV dX10_play_273 mv_X10_36 (m_worthOf I J P d hD (e : Int) he (by omega) (j : Int) (by unfold z_rg; omega) U hU) (by first | decide | omega) (by first | rfl | assumption) (by omega) (Nat.le_refl _) (Nat.le_of_ble_eq_true rfl) ?_
        rw [if_pos (by omega)]
        refine s_iadd hV dX10_play_276 ?_
        rw [show ((r.1 : Nat) : Int) * 256 + ((r.2 : Nat) : Int) + U (j : Int) = ((r.1 : Nat) : Int) * 256 + ((r.2 + (U (j : Int)).toNat : Nat) : Int) by omega]
        refine r_istore hV dX10_play_277 (Nat.le_of_ble_eq_true rfl) (z_st1_16_15 rfl) ?_
        refine r_iload hV dX10_play_279 rfl ?_
        refine r_iload_n hV dX10_play_281 rfl ?_
        refine q_is2v hV dX10_play_282 ms_X10_39 (m_share I J P (r.1) (r.2 + (U (j : Int)).toNat) (by omega) (by omega) 1 (by omega)) (by omega) (Nat.le_refl _) (Nat.le_of_ble_eq_true rfl) ?_
        rw [if_neg (by decide)]
        refine r_iload hV dX10_play_285 rfl ?_
        refine r_iload_n hV dX10_play_287 rfl ?_
        refine q_is2v hV dX10_play_288 ms_X10_39 (m_share I J P b.1 b.2 (by omega) (by omega) 1 (by omega)) (by omega) (Nat.le_refl _) (Nat.le_of_ble_eq_true rfl) ?_
        rw [if_neg (by decide)]
        refine s_icmp_le hV 298 dX10_play_291 (by decide) (by unfold z_rg; first | omega | (split <;> omega)) (by unfold z_rg; first | omega | (split <;> omega)) (fun c291 => ?_) (fun c291 => ?_)
        · refine s_iinc hV dX10_play_298 rfl rfl ?_
          refine r_goto hV 118 dX10_play_301 (by decide) ?_
          refine r_kill hV 12 z_stk_16_12 ?_
          refine r_kill hV 13 z_stk_16_13 ?_
          refine r_kill hV 14 z_stk_16_14 ?_
          refine r_kill hV 15 z_stk_16_15 ?_
          first
            | (rw [if_neg (fun h => hbt h.1)] at hgo; exact hgo)
            | (rw [if_neg (fun h => hcd (by have := h.2.1; omega))] at hgo; exact hgo)
            | (rw [if_neg (fun h => by have h1 := h.2.2.1; have h2 := h.2.2.2; omega)] at hgo; exact hgo)
            | (rw [if_pos ⟨hbt, by omega, by omega, by omega⟩] at hgo; exact hgo)
        · refine r_iload hV dX10_play_294 rfl ?_
          refine r_istore hV dX10_play_296 (Nat.le_of_ble_eq_true rfl) (z_st1_16_10 rfl) ?_
          refine s_iinc hV dX10_play_298 rfl rfl ?_
          refine r_goto hV 118 dX10_play_301 (by decide) ?_
          refine r_kill hV 12 z_stk_16_12 ?_
          refine r_kill hV 13 z_stk_16_13 ?_
          refine r_kill hV 14 z_stk_16_14 ?_
          refine r_kill hV 15 z_stk_16_15 ?_
          first
            | (rw [if_neg (fun h => hbt h.1)] at hgo; exact hgo)
            | (rw [if_neg (fun h => hcd (by have := h.2.1; omega))] at hgo; exact hgo)
            | (rw [if_neg (fun h => by have h1 := h.2.2.1; have h2 := h.2.2.2; omega)] at hgo; exact hgo)
            | (rw [if_pos ⟨hbt, by omega, by omega, by omega⟩] at hgo; exact hgo)

set_option maxRecDepth 20000 in
theorem m_play1n (I : zI) (J : zJ) (P : zP) (d : Nat) (hP : P 58 0 = some d) (hD : zDay P d) (n : Nat) (hn : I d 0 = iI (n : Int)) (hnb : 1 ≤ n ∧ n ≤ 6) (e : Nat) (he : I d 3 = iI (e : Int)) (he6 : e ≤ 6) (D W U K : Int → Int) (hDl : z_ar I (d + 2) 36 D) (hDb : z_bd D 36 0 1000000) (hW : z_ar I (d + 3) 6 W) (hWb : z_bd W e 0 (n - 1)) (hU : z_ar I (d + 4) 6 U) (hUb : z_bd U 6 0 9) (hK : z_ar I (d + 5) 6 K) (hKb : z_bd K 6 0 2) (k : Nat) (hk : k < 7) (rec : ∀ (on opn : Nat) (her him left T : Int), T = 7 - (k : Int) → on ≤ 1 → opn < 64 → (her = -1 ∨ (0 ≤ her ∧ her < (n : Int))) → (him = -1 ∨ (0 ≤ him ∧ him < (n : Int))) → (on = 0 → her ≠ -1) → (on = 1 → him ≠ -1) → f_hw D her + f_hw D him ≤ left → left ≤ 100000 → z_Fn (k + 2) yX10_play cX10_play 16 (some .int) 108 108 I J P [.ref 58, .int (iI T), .int (iI (on : Int)), .int (iI (opn : Int)), .int (iI her), .int (iI him), .int (iI left)] (some (.int (iI ((((f_play D W U K e k (on) opn her him left).1 : Nat) : Int) * 256 + (((f_play D W U K e k (on) opn her him left).2 : Nat) : Int))))) I J P) (opn : Nat) (h64 : opn < 64) (her him left : Int) (hhim : 0 ≤ him ∧ him < (n : Int)) (hher : 0 ≤ her ∧ her < (n : Int)) (hleft : f_hw D her + f_hw D him ≤ left ∧ left ≤ 100000) : z_Fn (k + 3) yX10_play cX10_play 16 (some .int) 108 108 I J P [.ref 58, .int (iI (6 - (k : Int))), .int (iI 1), .int (iI (opn : Int)), .int (iI her), .int (iI him), .int (iI left)] (some (.int (iI ((((f_play D W U K e (k + 1) 1 opn her him left).1 : Nat) : Int) * 256 + (((f_play D W U K e (k + 1) 1 opn her him left).2 : Nat) : Int))))) (I) (J) (P) := by
  obtain ⟨hd, p4, p5, p6, p7, p8⟩ := id hD
  obtain ⟨hlt, s0, s1, s2, s3, s4, s5⟩ := zDay_s hD
  have hmb := f_hw_b (a := him) hDb hnb.2 (Or.inr hhim)
  have hob := f_hw_b (a := her) hDb hnb.2 (Or.inr hher)
  have hfp : f_play D W U K e (k + 1) 1 opn her him left = zit (f_ps1 D W U K e (f_play D W U K e k) 0 opn her him left) 6 (f_play D W U K e k 0 opn her (-1) (left - f_hw D him)) := by
    simp [f_play, show ¬ her = -1 by omega]
  refine z_met false (by decide +kernel) (fun h => by cases h) (Nat.le_of_ble_eq_true rfl) (by first | decide | omega) (fun V hV => ?_)
  show V 108 I J P 0 [.ref 58, .int (iI (6 - (k : Int))), .int (iI 1), .int (iI (opn : Int)), .int (iI her), .int (iI him), .int (iI left), .null, .null, .null, .null, .null, .null, .null, .null, .null] []
  refine r_iload_n hV dX10_play_0 rfl ?_
  refine s_bipush hV dX10_play_1 (7) (by decide) ?_
  refine s_icmp_ge hV 13 dX10_play_3 (by decide) (by unfold z_rg; first | omega | (split <;> omega)) (by unfold z_rg; first | omega | (split <;> omega)) (fun c3 => absurd c3 (by omega)) (fun _ => ?_)
  refine r_aload_n hV dX10_play_6 rfl rfl ?_
  refine r_getR hV dX10_play_7 fl_X10_9 (by first | decide | omega) (by first | rfl | assumption) (by first | assumption | rfl) ?_
  refine r_ifnonnull hV 15 dX10_play_10 rfl (by decide) ?_
  refine r_iload_n hV dX10_play_15 rfl ?_
  refine s_if_ne hV 24 dX10_play_16 (by decide) (by unfold z_rg; first | omega | (split <;> omega)) (fun _ => ?_) (fun c16 => absurd c16 (by decide))
  refine r_iload hV dX10_play_24 rfl ?_
  refine r_istore hV dX10_play_26 (Nat.le_of_ble_eq_true rfl) (z_st1_16_7 rfl) ?_
  refine r_iload_n hV dX10_play_28 rfl ?_
  refine s_if_ne hV 37 dX10_play_29 (by decide) (by unfold z_rg; first | omega | (split <;> omega)) (fun _ => ?_) (fun c29 => absurd c29 (by decide))
  refine r_iload hV dX10_play_37 rfl ?_
  refine r_istore hV dX10_play_39 (Nat.le_of_ble_eq_true rfl) (z_st1_16_8 rfl) ?_
  refine r_iload hV dX10_play_41 rfl ?_
  refine s_iconst hV dX10_play_43 (-1) (by decide) ?_
  refine s_icmp_ne hV 51 dX10_play_44 (by decide) (by unfold z_rg; first | omega | (split <;> omega)) (by unfold z_rg; first | omega | (split <;> omega)) (fun _ => ?_) (fun c44 => absurd c44 (by omega))
  refine s_iconst hV dX10_play_51 (1) (by decide) ?_
  refine r_iload_n hV dX10_play_52 rfl ?_
  refine s_isub hV dX10_play_53 ?_
  refine r_istore hV dX10_play_54 (Nat.le_of_ble_eq_true rfl) (z_st1_16_9 rfl) ?_
  refine s_iconst hV dX10_play_56 (0) (by decide) ?_
  refine r_istore hV dX10_play_57 (Nat.le_of_ble_eq_true rfl) (z_st1_16_10 rfl) ?_
  refine r_iload hV dX10_play_59 rfl ?_
  refine s_iconst hV dX10_play_61 (-1) (by decide) ?_
  refine s_icmp_eq hV 115 dX10_play_62 (by decide) (by unfold z_rg; first | omega | (split <;> omega)) (by unfold z_rg; first | omega | (split <;> omega)) (fun c62 => absurd c62 (by omega)) (fun _ => ?_)
  refine r_iload hV dX10_play_65 rfl ?_
  refine r_aload_n hV dX10_play_67 rfl rfl ?_
  refine r_iload hV dX10_play_68 rfl ?_
  refine q_iv1v hV dX10_play_70 mv_X10_21 (m_homeward I J P d hP hD n hn hnb D hDl him (Or.inr hhim)) (by first | decide | omega) (by first | rfl | assumption) (by omega) (Nat.le_refl _) (Nat.le_of_ble_eq_true rfl) ?_
  rw [show (if him = -1 then (0 : Int) else D (him * 6)) = f_hw D him from rfl]
  refine s_isub hV dX10_play_73 ?_
  refine r_istore hV dX10_play_74 (Nat.le_of_ble_eq_true rfl) (z_st1_16_11 rfl) ?_
  refine r_iload_n hV dX10_play_76 rfl ?_
  refine s_if_ne hV 98 dX10_play_77 (by decide) (by unfold z_rg; first | omega | (split <;> omega)) (fun _ => ?_) (fun c77 => absurd c77 (by decide))
  refine r_aload_n hV dX10_play_98 rfl rfl ?_
  refine r_iload_n hV dX10_play_99 rfl ?_
  refine s_iconst hV dX10_play_100 (1) (by decide) ?_
  refine s_iadd hV dX10_play_101 ?_
  refine r_iload hV dX10_play_102 rfl ?_
  refine r_iload_n hV dX10_play_104 rfl ?_
  refine r_iload hV dX10_play_105 rfl ?_
  refine s_iconst hV dX10_play_107 (-1) (by decide) ?_
  refine r_iload hV dX10_play_108 rfl ?_
  refine q_is7v hV dX10_play_110 ms_X10_25 (rec 0 opn her (-1) (left - f_hw D him) ((6 - (k : Int)) + 1) (by omega) (by omega) h64 (Or.inr hher) (Or.inl rfl) (by omega) (by omega) (by have : f_hw D (-1) = 0 := rfl; omega) (by omega)) (by omega) (Nat.le_refl _) (Nat.le_of_ble_eq_true rfl) ?_
  have hgb := f_play_b (D := D) (W := W) (U := U) (K := K) (e := e) hUb k 0 opn her (-1) (left - f_hw D him)
  refine r_istore hV dX10_play_113 (Nat.le_of_ble_eq_true rfl) (z_st1_16_10 rfl) ?_
  refine s_iconst hV dX10_play_115 (0) (by decide) ?_
  refine r_istore hV dX10_play_116 (Nat.le_of_ble_eq_true rfl) (z_st1_16_11 rfl) ?_
  have L118 : ∀ (k118 j : Nat) (b : Nat × Nat), 6 - j < k118 → j ≤ 6 → (b = zit (f_ps1 D W U K e (f_play D W U K e k) 0 opn her him left) j (f_play D W U K e k 0 opn her (-1) (left - f_hw D him))) → (b.1 ≤ 9 * (k + 1) ∧ b.2 ≤ 9 * (k + 1)) → V 108 I J P 118 [.ref 58, .int (iI (6 - (k : Int))), .int (iI 1), .int (iI (opn : Int)), .int (iI her), .int (iI him), .int (iI left), .int (iI him), .int (iI her), .int (iI 0), .int (iI ((b.1 : Int) * 256 + (b.2 : Int))), .int (iI (j : Int)), .null, .null, .null, .null] [] := by
    intro k118
    induction k118 with
    | zero => intro j b  hk1 hk2; omega
    | succ k118 ih118 =>
      intro j b  hk118 hl118 hB hb
      refine r_iload hV dX10_play_118 rfl ?_
      refine s_bipush hV dX10_play_120 (6) (by decide) ?_
      refine s_icmp_ge hV 304 dX10_play_122 (by decide) (by unfold z_rg; first | omega | (split <;> omega)) (by unfold z_rg; first | omega | (split <;> omega)) (fun c122 => ?_) (fun c122 => ?_)
      · refine r_iload hV dX10_play_304 rfl ?_
        refine r_iret hV dX10_play_306 rfl rfl ?_
        have hj : j = 6 := by omega
        subst hj
        rw [hB]
        exact ⟨by rw [hfp], rfl, rfl, rfl⟩
      · exact m_play1n_S I J P d hP hD n hn hnb e he he6 D W U K hDl hDb hW hWb hU hUb hK hKb k hk rec opn h64 her him left hhim hher hleft j (by omega) b hb hV (ih118 (j + 1) _ (by omega) (by omega) (by rw [zit, ← hB]) (f_ps1_b hUb hb))
  exact L118 7 0 _ (by omega) (by omega) rfl (by omega)

set_option maxRecDepth 20000 in
theorem m_play1g_S {V : Nat → zI → zJ → zP → Nat → List Value → List Value → Prop} {ini : Bool} {ret : Option FieldType} {post : Option Value → zI → zJ → zP → Prop} (I : zI) (J : zJ) (P : zP) (d : Nat) (hP : P 58 0 = some d) (hD : zDay P d) (n : Nat) (hn : I d 0 = iI (n : Int)) (hnb : 1 ≤ n ∧ n ≤ 6) (e : Nat) (he : I d 3 = iI (e : Int)) (he6 : e ≤ 6) (D W U K : Int → Int) (hDl : z_ar I (d + 2) 36 D) (hDb : z_bd D 36 0 1000000) (hW : z_ar I (d + 3) 6 W) (hWb : z_bd W e 0 (n - 1)) (hU : z_ar I (d + 4) 6 U) (hUb : z_bd U 6 0 9) (hK : z_ar I (d + 5) 6 K) (hKb : z_bd K 6 0 2) (k : Nat) (hk : k < 7) (rec : ∀ (on opn : Nat) (her him left T : Int), T = 7 - (k : Int) → on ≤ 1 → opn < 64 → (her = -1 ∨ (0 ≤ her ∧ her < (n : Int))) → (him = -1 ∨ (0 ≤ him ∧ him < (n : Int))) → (on = 0 → her ≠ -1) → (on = 1 → him ≠ -1) → f_hw D her + f_hw D him ≤ left → left ≤ 100000 → z_Fn (k + 2) yX10_play cX10_play 16 (some .int) 108 108 I J P [.ref 58, .int (iI T), .int (iI (on : Int)), .int (iI (opn : Int)), .int (iI her), .int (iI him), .int (iI left)] (some (.int (iI ((((f_play D W U K e k (on) opn her him left).1 : Nat) : Int) * 256 + (((f_play D W U K e k (on) opn her him left).2 : Nat) : Int))))) I J P) (opn : Nat) (h64 : opn < 64) (him left : Int) (hhim : 0 ≤ him ∧ him < (n : Int)) (hleft : f_hw D (-1) + f_hw D him ≤ left ∧ left ≤ 100000) (j : Nat) (hj6 : j < 6) (b : Nat × Nat) (hb : b.1 ≤ 9 * (k + 1) ∧ b.2 ≤ 9 * (k + 1)) (hV : z_Cl yX10_play.cls cX10_play (k + 3) 108 ini none ret post V) (hgo : V 108 I J P 118 [.ref 58, .int (iI (6 - (k : Int))), .int (iI 1), .int (iI (opn : Int)), .int (iI (-1)), .int (iI him), .int (iI left), .int (iI him), .int (iI (-1)), .int (iI 1), .int (iI (((f_ps1 D W U K e (f_play D W U K e k) 1 opn (-1) him left j b).1 : Int) * 256 + ((f_ps1 D W U K e (f_play D W U K e k) 1 opn (-1) him left j b).2 : Int))), .int (iI (((j + 1 : Nat)) : Int)), .null, .null, .null, .null] []) : V 108 I J P 125 [.ref 58, .int (iI (6 - (k : Int))), .int (iI 1), .int (iI (opn : Int)), .int (iI (-1)), .int (iI him), .int (iI left), .int (iI him), .int (iI (-1)), .int (iI 1), .int (iI ((b.1 : Int) * 256 + (b.2 : Int))), .int (iI (j : Int)), .null, .null, .null, .null] [] := by
  obtain ⟨hd, p4, p5, p6, p7, p8⟩ := id hD
  obtain ⟨hlt, s0, s1, s2, s3, s4, s5⟩ := zDay_s hD
  have hmb := f_hw_b (a := him) hDb hnb.2 (Or.inr hhim)
  have hob := f_hw_b (a := (-1)) hDb hnb.2 (Or.inl rfl)
  unfold f_ps1 at hgo
  refine r_iload_n hV dX10_play_125 rfl ?_
  refine r_iload hV dX10_play_126 rfl ?_
  refine s_ishr hV dX10_play_128 (zb_shr (by omega) (by omega)) ?_
  refine s_iconst hV dX10_play_129 (1) (by decide) ?_
  refine s_iand hV dX10_play_130 (by first | exact zb_one (by omega) (by omega) | exact zb_and (by omega) (by omega) | exact zb_df' (by omega) (by omega)) ?_
  refine s_iconst hV dX10_play_131 (1) (by decide) ?_
  refine s_icmp_ne hV 298 dX10_play_132 (by decide) (by unfold z_rg; first | omega | (split <;> omega)) (by unfold z_rg; first | omega | (split <;> omega)) (fun c132 => ?_) (fun c132 => ?_)
  · have hbt := z_bt0 c132
    refine s_iinc hV dX10_play_298 rfl rfl ?_
    refine r_goto hV 118 dX10_play_301 (by decide) ?_
    refine r_kill hV 12 z_stk_16_12 ?_
    refine r_kill hV 13 z_stk_16_13 ?_
    refine r_kill hV 14 z_stk_16_14 ?_
    refine r_kill hV 15 z_stk_16_15 ?_
    first
      | (rw [if_neg (fun h => hbt h.1)] at hgo; exact hgo)
      | (rw [if_neg (fun h => hcd (by have := h.2.1; omega))] at hgo; exact hgo)
      | (rw [if_neg (fun h => by have h1 := h.2.2.1; have h2 := h.2.2.2; omega)] at hgo; exact hgo)
      | (rw [if_pos ⟨hbt, by omega, by omega, by omega⟩] at hgo; exact hgo)
  · have hbt := z_bt1 c132
    refine r_aload_n hV dX10_play_135 rfl rfl ?_
    refine r_getR hV dX10_play_136 fl_X10_9 (by first | decide | omega) (by first | rfl | assumption) (by first | assumption | rfl) ?_
    refine r_iload_n hV dX10_play_139 rfl ?_
    refine r_iload hV dX10_play_140 rfl ?_
    refine q_iv2v hV dX10_play_142 mv_X10_29 (m_canDo I J P d hD (e : Int) he (by omega) 1 (by unfold z_rg; omega) (j : Int) (by unfold z_rg; omega) K hK hKb) (by first | decide | omega) (by first | rfl | assumption) (by omega) (Nat.le_refl _) (Nat.le_of_ble_eq_true rfl) ?_
    refine s_if_eq hV 298 dX10_play_145 (by decide) (by unfold z_rg; first | omega | (split <;> omega)) (fun c145 => ?_) (fun c145 => ?_)
    · have hcd := z_ite0 c145
      refine s_iinc hV dX10_play_298 rfl rfl ?_
      refine r_goto hV 118 dX10_play_301 (by decide) ?_
      refine r_kill hV 12 z_stk_16_12 ?_
      refine r_kill hV 13 z_stk_16_13 ?_
      refine r_kill hV 14 z_stk_16_14 ?_
      refine r_kill hV 15 z_stk_16_15 ?_
      first
        | (rw [if_neg (fun h => hbt h.1)] at hgo; exact hgo)
        | (rw [if_neg (fun h => hcd (by have := h.2.1; omega))] at hgo; exact hgo)
        | (rw [if_neg (fun h => by have h1 := h.2.2.1; have h2 := h.2.2.2; omega)] at hgo; exact hgo)
        | (rw [if_pos ⟨hbt, by omega, by omega, by omega⟩] at hgo; exact hgo)
    · have hcd := z_ite1 c145
      refine r_aload_n hV dX10_play_148 rfl rfl ?_
      refine r_getR hV dX10_play_149 fl_X10_9 (by first | decide | omega) (by first | rfl | assumption) (by first | assumption | rfl) ?_
      refine r_iload hV dX10_play_152 rfl ?_
      refine q_iv1v hV dX10_play_154 mv_X10_33 (m_siteOf I J P d hD (e : Int) he (by omega) (j : Int) (by unfold z_rg; omega) W hW) (by first | decide | omega) (by first | rfl | assumption) (by omega) (Nat.le_refl _) (Nat.le_of_ble_eq_true rfl) ?_
      rw [if_pos (by omega)]
      have hwb := hWb (j : Int) (by omega) (by omega)
      refine r_istore hV dX10_play_157 (Nat.le_of_ble_eq_true rfl) (z_st1_16_12 rfl) ?_
      refine r_iload hV dX10_play_159 rfl ?_
      refine r_aload_n hV dX10_play_161 rfl rfl ?_
      refine r_getR hV dX10_play_162 fl_X10_9 (by first | decide | omega) (by first | rfl | assumption) (by first | assumption | rfl) ?_
      refine r_iload hV dX10_play_165 rfl ?_
      refine r_iload hV dX10_play_167 rfl ?_
      refine q_iv2v hV dX10_play_169 mv_X10_15 (m_between I J P d hD (n : Int) hn (by omega) him (by unfold z_rg; omega) (W (j : Int)) (by unfold z_rg; omega) D hDl) (by first | decide | omega) (by first | rfl | assumption) (by omega) (Nat.le_refl _) (Nat.le_of_ble_eq_true rfl) ?_
      rw [if_pos (by omega)]
      have hdb := hDb (him * 6 + W (j : Int)) (by omega) (by omega)
      refine s_isub hV dX10_play_172 ?_
      refine r_istore hV dX10_play_173 (Nat.le_of_ble_eq_true rfl) (z_st1_16_13 rfl) ?_
      refine r_aload_n hV dX10_play_175 rfl rfl ?_
      refine r_iload hV dX10_play_176 rfl ?_
      refine q_iv1v hV dX10_play_178 mv_X10_21 (m_homeward I J P d hP hD n hn hnb D hDl (W (j : Int)) (Or.inr (by omega))) (by first | decide | omega) (by first | rfl | assumption) (by omega) (Nat.le_refl _) (Nat.le_of_ble_eq_true rfl) ?_
      rw [show (if (W (j : Int)) = -1 then (0 : Int) else D ((W (j : Int)) * 6)) = f_hw D (W (j : Int)) from rfl]
      refine r_aload_n hV dX10_play_181 rfl rfl ?_
      refine r_iload hV dX10_play_182 rfl ?_
      refine q_iv1v hV dX10_play_184 mv_X10_21 (m_homeward I J P d hP hD n hn hnb D hDl (-1) (Or.inl rfl)) (by first | decide | omega) (by first | rfl | assumption) (by omega) (Nat.le_refl _) (Nat.le_of_ble_eq_true rfl) ?_
      rw [show (if (-1) = -1 then (0 : Int) else D ((-1) * 6)) = f_hw D (-1) from rfl]
      have hws := f_hw_b (a := W (j : Int)) hDb hnb.2 (Or.inr (by omega))
      refine s_iadd hV dX10_play_187 ?_
      refine r_iload hV dX10_play_188 rfl ?_
      refine s_icmp_gt hV 298 dX10_play_190 (by decide) (by unfold z_rg; first | omega | (split <;> omega)) (by unfold z_rg; first | omega | (split <;> omega)) (fun c190 => ?_) (fun c190 => ?_)
      · refine s_iinc hV dX10_play_298 rfl rfl ?_
        refine r_goto hV 118 dX10_play_301 (by decide) ?_
        refine r_kill hV 12 z_stk_16_12 ?_
        refine r_kill hV 13 z_stk_16_13 ?_
        refine r_kill hV 14 z_stk_16_14 ?_
        refine r_kill hV 15 z_stk_16_15 ?_
        first
          | (rw [if_neg (fun h => hbt h.1)] at hgo; exact hgo)
          | (rw [if_neg (fun h => hcd (by have := h.2.1; omega))] at hgo; exact hgo)
          | (rw [if_neg (fun h => by have h1 := h.2.2.1; have h2 := h.2.2.2; omega)] at hgo; exact hgo)
          | (rw [if_pos ⟨hbt, by omega, by omega, by omega⟩] at hgo; exact hgo)
      · refine r_iload_n hV dX10_play_193 rfl ?_
        refine s_iconst hV dX10_play_194 (1) (by decide) ?_
        refine r_iload hV dX10_play_195 rfl ?_
        refine s_ishl hV dX10_play_197 (zb_shl (by omega)) ?_
        refine s_iconst hV dX10_play_198 (-1) (by decide) ?_
        refine s_ixor hV dX10_play_199 (zb_not (z_pw (by omega))) ?_
        refine s_iand hV dX10_play_200 (zb_df' h64 (z_pw (by omega))) ?_
        refine r_istore hV dX10_play_201 (Nat.le_of_ble_eq_true rfl) (z_st1_16_14 rfl) ?_
        refine r_iload_n hV dX10_play_203 rfl ?_
        refine s_if_ne hV 227 dX10_play_204 (by decide) (by unfold z_rg; first | omega | (split <;> omega)) (fun _ => ?_) (fun c204 => absurd c204 (by decide))
        refine r_aload_n hV dX10_play_227 rfl rfl ?_
        refine r_iload_n hV dX10_play_228 rfl ?_
        refine s_iconst hV dX10_play_229 (1) (by decide) ?_
        refine s_iadd hV dX10_play_230 ?_
        refine r_iload hV dX10_play_231 rfl ?_
        refine r_iload hV dX10_play_233 rfl ?_
        refine r_iload hV dX10_play_235 rfl ?_
        refine r_iload hV dX10_play_237 rfl ?_
        refine r_iload hV dX10_play_239 rfl ?_
        refine q_is7v hV dX10_play_241 ms_X10_25 (rec 1 (zdf opn (2 ^ j)) (-1) (W (j : Int)) (left - D (him * 6 + W (j : Int))) ((6 - (k : Int)) + 1) (by omega) (by omega) (z_df_lt h64) (Or.inl rfl) (Or.inr (by omega)) (by omega) (by omega) (by omega) (by omega)) (by omega) (Nat.le_refl _) (Nat.le_of_ble_eq_true rfl) ?_
        have hrb := f_play_b (D := D) (W := W) (U := U) (K := K) (e := e) hUb k 1 (zdf opn (2 ^ j)) (-1) (W (j : Int)) (left - D (him * 6 + W (j : Int)))
        generalize hrc : f_play D W U K e k 1 (zdf opn (2 ^ j)) (-1) (W (j : Int)) (left - D (him * 6 + W (j : Int))) = r at hrb hgo ⊢
        have hub := hUb (j : Int) (by omega) (by omega)
        refine r_istore hV dX10_play_244 (Nat.le_of_ble_eq_true rfl) (z_st1_16_15 rfl) ?_
        refine r_iload hV dX10_play_246 rfl ?_
        refine r_iload_n hV dX10_play_248 rfl ?_
        refine s_if_ne hV 267 dX10_play_249 (by decide) (by unfold z_rg; first | omega | (split <;> omega)) (fun _ => ?_) (fun c249 => absurd c249 (by decide))
        refine r_aload_n hV dX10_play_267 rfl rfl ?_
        refine r_getR hV dX10_play_268 fl_X10_9 (by first | decide | omega) (by first | rfl | assumption) (by first | assumption | rfl) ?_
        refine r_iload hV dX10_play_271 rfl ?_
        refine q_iv1v hV dX10_play_273 mv_X10_36 (m_worthOf I J P d hD (e : Int) he (by omega) (j : Int) (by unfold z_rg; omega) U hU) (by first | decide | omega) (by first | rfl | assumption) (by omega) (Nat.le_refl _) (Nat.le_of_ble_eq_true rfl) ?_
        rw [if_pos (by omega)]
        refine s_iadd hV dX10_play_276 ?_
        rw [show ((r.1 : Nat) : Int) * 256 + ((r.2 : Nat) : Int) + U (j : Int) = ((r.1 : Nat) : Int) * 256 + ((r.2 + (U (j : Int)).toNat : Nat) : Int) by omega]
        refine r_istore hV dX10_play_277 (Nat.le_of_ble_eq_true rfl) (z_st1_16_15 rfl) ?_
        refine r_iload hV dX10_play_279 rfl ?_
        refine r_iload_n hV dX10_play_281 rfl ?_
        refine q_is2v hV dX10_play_282 ms_X10_39 (m_share I J P (r.1) (r.2 + (U (j : Int)).toNat) (by omega) (by omega) 1 (by omega)) (by omega) (Nat.le_refl _) (Nat.le_of_ble_eq_true rfl) ?_
        rw [if_neg (by decide)]
        refine r_iload hV dX10_play_285 rfl ?_
        refine r_iload_n hV dX10_play_287 rfl ?_
        refine q_is2v hV dX10_play_288 ms_X10_39 (m_share I J P b.1 b.2 (by omega) (by omega) 1 (by omega)) (by omega) (Nat.le_refl _) (Nat.le_of_ble_eq_true rfl) ?_
        rw [if_neg (by decide)]
        refine s_icmp_le hV 298 dX10_play_291 (by decide) (by unfold z_rg; first | omega | (split <;> omega)) (by unfold z_rg; first | omega | (split <;> omega)) (fun c291 => ?_) (fun c291 => ?_)
        · refine s_iinc hV dX10_play_298 rfl rfl ?_
          refine r_goto hV 118 dX10_play_301 (by decide) ?_
          refine r_kill hV 12 z_stk_16_12 ?_
          refine r_kill hV 13 z_stk_16_13 ?_
          refine r_kill hV 14 z_stk_16_14 ?_
          refine r_kill hV 15 z_stk_16_15 ?_
          first
            | (rw [if_neg (fun h => hbt h.1)] at hgo; exact hgo)
            | (rw [if_neg (fun h => hcd (by have := h.2.1; omega))] at hgo; exact hgo)
            | (rw [if_neg (fun h => by have h1 := h.2.2.1; have h2 := h.2.2.2; omega)] at hgo; exact hgo)
            | (rw [if_pos ⟨hbt, by omega, by omega, by omega⟩] at hgo; exact hgo)
        · refine r_iload hV dX10_play_294 rfl ?_
          refine r_istore hV dX10_play_296 (Nat.le_of_ble_eq_true rfl) (z_st1_16_10 rfl) ?_
          refine s_iinc hV dX10_play_298 rfl rfl ?_
          refine r_goto hV 118 dX10_play_301 (by decide) ?_
          refine r_kill hV 12 z_stk_16_12 ?_
          refine r_kill hV 13 z_stk_16_13 ?_
          refine r_kill hV 14 z_stk_16_14 ?_
          refine r_kill hV 15 z_stk_16_15 ?_
          first
            | (rw [if_neg (fun h => hbt h.1)] at hgo; exact hgo)
            | (rw [if_neg (fun h => hcd (by have := h.2.1; omega))] at hgo; exact hgo)
            | (rw [if_neg (fun h => by have h1 := h.2.2.1; have h2 := h.2.2.2; omega)] at hgo; exact hgo)
            | (rw [if_pos ⟨hbt, by omega, by omega, by omega⟩] at hgo; exact hgo)

set_option maxRecDepth 20000 in
theorem m_play1g (I : zI) (J : zJ) (P : zP) (d : Nat) (hP : P 58 0 = some d) (hD : zDay P d) (n : Nat) (hn : I d 0 = iI (n : Int)) (hnb : 1 ≤ n ∧ n ≤ 6) (e : Nat) (he : I d 3 = iI (e : Int)) (he6 : e ≤ 6) (D W U K : Int → Int) (hDl : z_ar I (d + 2) 36 D) (hDb : z_bd D 36 0 1000000) (hW : z_ar I (d + 3) 6 W) (hWb : z_bd W e 0 (n - 1)) (hU : z_ar I (d + 4) 6 U) (hUb : z_bd U 6 0 9) (hK : z_ar I (d + 5) 6 K) (hKb : z_bd K 6 0 2) (k : Nat) (hk : k < 7) (rec : ∀ (on opn : Nat) (her him left T : Int), T = 7 - (k : Int) → on ≤ 1 → opn < 64 → (her = -1 ∨ (0 ≤ her ∧ her < (n : Int))) → (him = -1 ∨ (0 ≤ him ∧ him < (n : Int))) → (on = 0 → her ≠ -1) → (on = 1 → him ≠ -1) → f_hw D her + f_hw D him ≤ left → left ≤ 100000 → z_Fn (k + 2) yX10_play cX10_play 16 (some .int) 108 108 I J P [.ref 58, .int (iI T), .int (iI (on : Int)), .int (iI (opn : Int)), .int (iI her), .int (iI him), .int (iI left)] (some (.int (iI ((((f_play D W U K e k (on) opn her him left).1 : Nat) : Int) * 256 + (((f_play D W U K e k (on) opn her him left).2 : Nat) : Int))))) I J P) (opn : Nat) (h64 : opn < 64) (him left : Int) (hhim : 0 ≤ him ∧ him < (n : Int)) (hleft : f_hw D (-1) + f_hw D him ≤ left ∧ left ≤ 100000) : z_Fn (k + 3) yX10_play cX10_play 16 (some .int) 108 108 I J P [.ref 58, .int (iI (6 - (k : Int))), .int (iI 1), .int (iI (opn : Int)), .int (iI (-1)), .int (iI him), .int (iI left)] (some (.int (iI ((((f_play D W U K e (k + 1) 1 opn (-1) him left).1 : Nat) : Int) * 256 + (((f_play D W U K e (k + 1) 1 opn (-1) him left).2 : Nat) : Int))))) (I) (J) (P) := by
  obtain ⟨hd, p4, p5, p6, p7, p8⟩ := id hD
  obtain ⟨hlt, s0, s1, s2, s3, s4, s5⟩ := zDay_s hD
  have hmb := f_hw_b (a := him) hDb hnb.2 (Or.inr hhim)
  have hob := f_hw_b (a := (-1)) hDb hnb.2 (Or.inl rfl)
  have hfp : f_play D W U K e (k + 1) 1 opn (-1) him left = zit (f_ps1 D W U K e (f_play D W U K e k) 1 opn (-1) him left) 6 ((0 : Nat), (0 : Nat)) := by
    simp [f_play]
  refine z_met false (by decide +kernel) (fun h => by cases h) (Nat.le_of_ble_eq_true rfl) (by first | decide | omega) (fun V hV => ?_)
  show V 108 I J P 0 [.ref 58, .int (iI (6 - (k : Int))), .int (iI 1), .int (iI (opn : Int)), .int (iI (-1)), .int (iI him), .int (iI left), .null, .null, .null, .null, .null, .null, .null, .null, .null] []
  refine r_iload_n hV dX10_play_0 rfl ?_
  refine s_bipush hV dX10_play_1 (7) (by decide) ?_
  refine s_icmp_ge hV 13 dX10_play_3 (by decide) (by unfold z_rg; first | omega | (split <;> omega)) (by unfold z_rg; first | omega | (split <;> omega)) (fun c3 => absurd c3 (by omega)) (fun _ => ?_)
  refine r_aload_n hV dX10_play_6 rfl rfl ?_
  refine r_getR hV dX10_play_7 fl_X10_9 (by first | decide | omega) (by first | rfl | assumption) (by first | assumption | rfl) ?_
  refine r_ifnonnull hV 15 dX10_play_10 rfl (by decide) ?_
  refine r_iload_n hV dX10_play_15 rfl ?_
  refine s_if_ne hV 24 dX10_play_16 (by decide) (by unfold z_rg; first | omega | (split <;> omega)) (fun _ => ?_) (fun c16 => absurd c16 (by decide))
  refine r_iload hV dX10_play_24 rfl ?_
  refine r_istore hV dX10_play_26 (Nat.le_of_ble_eq_true rfl) (z_st1_16_7 rfl) ?_
  refine r_iload_n hV dX10_play_28 rfl ?_
  refine s_if_ne hV 37 dX10_play_29 (by decide) (by unfold z_rg; first | omega | (split <;> omega)) (fun _ => ?_) (fun c29 => absurd c29 (by decide))
  refine r_iload hV dX10_play_37 rfl ?_
  refine r_istore hV dX10_play_39 (Nat.le_of_ble_eq_true rfl) (z_st1_16_8 rfl) ?_
  refine r_iload hV dX10_play_41 rfl ?_
  refine s_iconst hV dX10_play_43 (-1) (by decide) ?_
  refine s_icmp_ne hV 51 dX10_play_44 (by decide) (by unfold z_rg; first | omega | (split <;> omega)) (by unfold z_rg; first | omega | (split <;> omega)) (fun c44 => absurd c44 (by decide)) (fun _ => ?_)
  refine r_iload_n hV dX10_play_47 rfl ?_
  refine r_goto hV 54 dX10_play_48 (by decide) ?_
  refine r_istore hV dX10_play_54 (Nat.le_of_ble_eq_true rfl) (z_st1_16_9 rfl) ?_
  refine s_iconst hV dX10_play_56 (0) (by decide) ?_
  refine r_istore hV dX10_play_57 (Nat.le_of_ble_eq_true rfl) (z_st1_16_10 rfl) ?_
  refine r_iload hV dX10_play_59 rfl ?_
  refine s_iconst hV dX10_play_61 (-1) (by decide) ?_
  refine s_icmp_eq hV 115 dX10_play_62 (by decide) (by unfold z_rg; first | omega | (split <;> omega)) (by unfold z_rg; first | omega | (split <;> omega)) (fun _ => ?_) (fun c62 => absurd (by decide) c62)
  refine s_iconst hV dX10_play_115 (0) (by decide) ?_
  refine r_istore hV dX10_play_116 (Nat.le_of_ble_eq_true rfl) (z_st1_16_11 rfl) ?_
  have L118 : ∀ (k118 j : Nat) (b : Nat × Nat), 6 - j < k118 → j ≤ 6 → (b = zit (f_ps1 D W U K e (f_play D W U K e k) 1 opn (-1) him left) j ((0 : Nat), (0 : Nat))) → (b.1 ≤ 9 * (k + 1) ∧ b.2 ≤ 9 * (k + 1)) → V 108 I J P 118 [.ref 58, .int (iI (6 - (k : Int))), .int (iI 1), .int (iI (opn : Int)), .int (iI (-1)), .int (iI him), .int (iI left), .int (iI him), .int (iI (-1)), .int (iI 1), .int (iI ((b.1 : Int) * 256 + (b.2 : Int))), .int (iI (j : Int)), .null, .null, .null, .null] [] := by
    intro k118
    induction k118 with
    | zero => intro j b  hk1 hk2; omega
    | succ k118 ih118 =>
      intro j b  hk118 hl118 hB hb
      refine r_iload hV dX10_play_118 rfl ?_
      refine s_bipush hV dX10_play_120 (6) (by decide) ?_
      refine s_icmp_ge hV 304 dX10_play_122 (by decide) (by unfold z_rg; first | omega | (split <;> omega)) (by unfold z_rg; first | omega | (split <;> omega)) (fun c122 => ?_) (fun c122 => ?_)
      · refine r_iload hV dX10_play_304 rfl ?_
        refine r_iret hV dX10_play_306 rfl rfl ?_
        have hj : j = 6 := by omega
        subst hj
        rw [hB]
        exact ⟨by rw [hfp], rfl, rfl, rfl⟩
      · exact m_play1g_S I J P d hP hD n hn hnb e he he6 D W U K hDl hDb hW hWb hU hUb hK hKb k hk rec opn h64 him left hhim hleft j (by omega) b hb hV (ih118 (j + 1) _ (by omega) (by omega) (by rw [zit, ← hB]) (f_ps1_b hUb hb))
  exact L118 7 0 _ (by omega) (by omega) rfl ⟨Nat.zero_le _, Nat.zero_le _⟩

set_option maxRecDepth 20000 in
theorem m_play_0 (I : zI) (J : zJ) (P : zP) (D W U K : Int → Int) (e on opn : Nat) (her him left : Int) : z_Fn 2 yX10_play cX10_play 16 (some .int) 108 108 I J P [.ref 58, .int (iI (7 - ((0 : Nat) : Int))), .int (iI (on : Int)), .int (iI (opn : Int)), .int (iI her), .int (iI him), .int (iI left)] (some (.int (iI ((((f_play D W U K e 0 on opn her him left).1 : Nat) : Int) * 256 + (((f_play D W U K e 0 on opn her him left).2 : Nat) : Int))))) (I) (J) (P) := by
  refine z_met false (by decide +kernel) (fun h => by cases h) (Nat.le_of_ble_eq_true rfl) (by first | decide | omega) (fun V hV => ?_)
  show V 108 I J P 0 [.ref 58, .int (iI (7 - ((0 : Nat) : Int))), .int (iI (on : Int)), .int (iI (opn : Int)), .int (iI her), .int (iI him), .int (iI left), .null, .null, .null, .null, .null, .null, .null, .null, .null] []
  refine r_iload_n hV dX10_play_0 rfl ?_
  refine s_bipush hV dX10_play_1 (7) (by decide) ?_
  refine s_icmp_ge hV 13 dX10_play_3 (by decide) (by unfold z_rg; first | omega | (split <;> omega)) (by unfold z_rg; first | omega | (split <;> omega)) (fun _ => ?_) (fun c3 => absurd (by omega) c3)
  refine s_iconst hV dX10_play_13 (0) (by decide) ?_
  refine r_iret hV dX10_play_14 rfl rfl ?_
  exact ⟨rfl, rfl, rfl, rfl⟩

theorem m_play_all (I : zI) (J : zJ) (P : zP) (d : Nat) (hP : P 58 0 = some d) (hD : zDay P d) (n : Nat) (hn : I d 0 = iI (n : Int)) (hnb : 1 ≤ n ∧ n ≤ 6) (e : Nat) (he : I d 3 = iI (e : Int)) (he6 : e ≤ 6) (D W U K : Int → Int) (hDl : z_ar I (d + 2) 36 D) (hDb : z_bd D 36 0 1000000) (hW : z_ar I (d + 3) 6 W) (hWb : z_bd W e 0 (n - 1)) (hU : z_ar I (d + 4) 6 U) (hUb : z_bd U 6 0 9) (hK : z_ar I (d + 5) 6 K) (hKb : z_bd K 6 0 2) : ∀ (k : Nat), k ≤ 7 → ∀ (on opn : Nat) (her him left T : Int), T = 7 - (k : Int) → on ≤ 1 → opn < 64 → (her = -1 ∨ (0 ≤ her ∧ her < (n : Int))) → (him = -1 ∨ (0 ≤ him ∧ him < (n : Int))) → (on = 0 → her ≠ -1) → (on = 1 → him ≠ -1) → f_hw D her + f_hw D him ≤ left → left ≤ 100000 → z_Fn (k + 2) yX10_play cX10_play 16 (some .int) 108 108 I J P [.ref 58, .int (iI T), .int (iI (on : Int)), .int (iI (opn : Int)), .int (iI her), .int (iI him), .int (iI left)] (some (.int (iI ((((f_play D W U K e k (on) opn her him left).1 : Nat) : Int) * 256 + (((f_play D W U K e k (on) opn her him left).2 : Nat) : Int))))) I J P := by
  intro k
  induction k with
  | zero => intro _ on opn her him left T hT _ _ _ _ _ _ _ _; subst hT; exact m_play_0 I J P D W U K e on opn her him left
  | succ k ih =>
    intro hk on opn her him left T hT hon h64 hr hi h0 h1 hl hl2
    have hT' : T = 6 - (k : Int) := by omega
    subst hT'
    by_cases h : on = 0
    · subst h
      have hher : 0 ≤ her ∧ her < (n : Int) := by have := h0 rfl; omega
      by_cases hg : him = -1
      · subst hg
        exact m_play0g I J P d hP hD n hn hnb e he he6 D W U K hDl hDb hW hWb hU hUb hK hKb k (by omega) (ih (by omega)) opn h64 her left hher ⟨hl, hl2⟩
      · have hhim : 0 ≤ him ∧ him < (n : Int) := by omega
        exact m_play0n I J P d hP hD n hn hnb e he he6 D W U K hDl hDb hW hWb hU hUb hK hKb k (by omega) (ih (by omega)) opn h64 her him left hher hhim ⟨hl, hl2⟩
    · have h' : on = 1 := by omega
      subst h'
      have hhim : 0 ≤ him ∧ him < (n : Int) := by have := h1 rfl; omega
      by_cases hg : her = -1
      · subst hg
        exact m_play1g I J P d hP hD n hn hnb e he he6 D W U K hDl hDb hW hWb hU hUb hK hKb k (by omega) (ih (by omega)) opn h64 him left hhim ⟨hl, hl2⟩
      · have hher : 0 ≤ her ∧ her < (n : Int) := by omega
        exact m_play1n I J P d hP hD n hn hnb e he he6 D W U K hDl hDb hW hWb hU hUb hK hKb k (by omega) (ih (by omega)) opn h64 her him left hhim hher ⟨hl, hl2⟩
