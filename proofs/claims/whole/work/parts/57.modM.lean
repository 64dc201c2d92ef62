/-- the other one's tours: least so far by the errand x last, over the errands ahead of it -/
def f_lb (M W leg : Int → Int) (ah x b : Nat) (v : Int) : Int := if ah.testBit b = true then (if leg (6 * (ah : Int) + b) + M (6 * W b + W x) < v then leg (6 * (ah : Int) + b) + M (6 * W b + W x) else v) else v
def f_lu (M W leg : Int → Int) (fr : Int) (e ah x : Nat) : Int := zit (f_lb M W leg ah x) e (if ah = 0 then M (6 * fr + W x) else 99999)
def f_lev (M W K leg : Int → Int) (w fr : Int) (e set x : Nat) : Int := if set.testBit x = true ∧ (K x = 2 ∨ K x = w) then (if 99999 < f_lu M W leg fr e (zdf set (2 ^ x)) x then 99999 else f_lu M W leg fr e (zdf set (2 ^ x)) x) else 99999
def f_lxs (M W K : Int → Int) (w fr to : Int) (e set x : Nat) (S : Int × (Int → Int)) : Int × (Int → Int) := (if set.testBit x = true ∧ (K x = 2 ∨ K x = w) then (if f_lev M W K S.2 w fr e set x + M (6 * W x + to) < S.1 then f_lev M W K S.2 w fr e set x + M (6 * W x + to) else S.1) else S.1, zup S.2 (6 * (set : Int) + x) (f_lev M W K S.2 w fr e set x))
def f_lsr (M W K : Int → Int) (w fr to : Int) (e set : Nat) (leg : Int → Int) (x : Nat) : Int × (Int → Int) := zit (f_lxs M W K w fr to e set) x (if set = 0 then M (6 * fr + to) else 99999, leg)
def f_lss (M W K : Int → Int) (w fr to : Int) (e : Nat) (set : Nat) (S : (Int → Int) × (Int → Int)) : (Int → Int) × (Int → Int) := ((f_lsr M W K w fr to e set S.1 e).2, zup S.2 (64 * w + set) (if 99999 < (f_lsr M W K w fr to e set S.1 e).1 then 99999 else (f_lsr M W K w fr to e set S.1 e).1))
def f_lts (M W K : Int → Int) (w fr to : Int) (e m : Nat) (leg tr : Int → Int) : (Int → Int) × (Int → Int) := zit (f_lss M W K w fr to e) m (leg, tr)
/-- legs laid for all sets below m, and of m below x -/
def zlg (leg : Int → Int) (e m x : Nat) : Prop := ∀ s b : Nat, b < e → (s < m ∨ (s = m ∧ b < x)) → 0 ≤ leg (6 * (s : Int) + b) ∧ leg (6 * (s : Int) + b) ≤ 99999
theorem f_lb_b {M W leg : Int → Int} {e n ah x b : Nat} {v : Int} (hM : z_bd M 36 0 99999) (hW : z_bd W e 0 (n - 1)) (hn : n ≤ 6) (hl : ∀ b : Nat, b < e → 0 ≤ leg (6 * (ah : Int) + b) ∧ leg (6 * (ah : Int) + b) ≤ 99999) (hb : b < e) (hx : x < e) (hv : 0 ≤ v ∧ v ≤ 99999) : 0 ≤ f_lb M W leg ah x b v ∧ f_lb M W leg ah x b v ≤ 99999 := by
  have h1 := hl b hb
  have w1 := hW (b : Int) (by omega) (by omega)
  have w2 := hW (x : Int) (by omega) (by omega)
  have h2 := hM (6 * W b + W x) (by omega) (by omega)
  unfold f_lb
  (repeat' split) <;> omega
theorem zdf_lt {set x : Nat} (hx : x < 6) (h : set.testBit x = true) : zdf set (2 ^ x) < set := by
  have hle : zdf set (2 ^ x) ≤ set := Nat.and_le_left
  rcases Nat.lt_or_ge (zdf set (2 ^ x)) set with q | q
  · exact q
  · exfalso
    have e : zdf set (2 ^ x) = set := by omega
    have h2 := z_df_bit (a := set) (b := 2 ^ x) hx
    rw [e, h, Nat.testBit_two_pow_self] at h2
    cases h2
theorem f_lu_b {M W leg : Int → Int} {fr : Int} {e n ah x : Nat} (hM : z_bd M 36 0 99999) (hW : z_bd W e 0 (n - 1)) (hn : n ≤ 6) (hfr : 0 ≤ fr ∧ fr < n) (hl : ∀ b : Nat, b < e → 0 ≤ leg (6 * (ah : Int) + b) ∧ leg (6 * (ah : Int) + b) ≤ 99999) (hx : x < e) : ∀ j, j ≤ e → 0 ≤ zit (f_lb M W leg ah x) j (if ah = 0 then M (6 * fr + W x) else 99999) ∧ zit (f_lb M W leg ah x) j (if ah = 0 then M (6 * fr + W x) else 99999) ≤ 99999 := by
  intro j hj
  have w2 := hW (x : Int) (by omega) (by omega)
  have h2 := hM (6 * fr + W x) (by omega) (by omega)
  exact zit_ind (p := fun v : Int => 0 ≤ v ∧ v ≤ 99999) (n := e) (fun k v hk hv => f_lb_b hM hW hn hl hk hx hv) j hj _ (by split <;> omega)
theorem f_lev_b {M W K leg : Int → Int} {w fr : Int} {e n set x : Nat} (hM : z_bd M 36 0 99999) (hW : z_bd W e 0 (n - 1)) (hn : n ≤ 6) (he : e ≤ 6) (hfr : 0 ≤ fr ∧ fr < n) (hx : x < e) (hl : zlg leg e set x) : 0 ≤ f_lev M W K leg w fr e set x ∧ f_lev M W K leg w fr e set x ≤ 99999 := by
  unfold f_lev
  split
  · next q =>
    have hlt := zdf_lt (show x < 6 by omega) q.1
    have := f_lu_b hM hW hn hfr (fun b hb => hl (zdf set (2 ^ x)) b hb (Or.inl hlt)) hx e (Nat.le_refl _)
    have h3 : 0 ≤ f_lu M W leg fr e (zdf set (2 ^ x)) x ∧ f_lu M W leg fr e (zdf set (2 ^ x)) x ≤ 99999 := this
    split <;> omega
  · omega
theorem zlg_s {M W K leg : Int → Int} {w fr : Int} {e n set x : Nat} (hM : z_bd M 36 0 99999) (hW : z_bd W e 0 (n - 1)) (hn : n ≤ 6) (he : e ≤ 6) (hfr : 0 ≤ fr ∧ fr < n) (hx : x < e) (hl : zlg leg e set x) : zlg (zup leg (6 * (set : Int) + x) (f_lev M W K leg w fr e set x)) e set (x + 1) := by
  intro s b hb hs
  unfold zup
  split
  · exact f_lev_b hM hW hn he hfr hx hl
  · exact hl s b hb (by omega)
theorem zlg_n {leg : Int → Int} {e m : Nat} (h : zlg leg e m e) : zlg leg e (m + 1) 0 := fun s b hb hs => h s b hb (by omega)
def q_lts (I : zI) (J : zJ) (P : zP) (A B : Int → Int) (v : Option Value) (I1 : zI) (J1 : zJ) (P1 : zP) : Prop := v = none ∧ J1 = J ∧ P1 = P ∧ z_ar I1 94 384 A ∧ z_ar I1 93 128 B ∧ ∀ q, q ≠ 93 → q ≠ 94 → I1 q = I q
theorem zst_leg {I5 : zI} {leg : Int → Int} {i x : Int} (zl : z_ar I5 94 384 leg) (hi : 0 ≤ i) : ∃ I6, zu I5 94 (zu (I5 94) i.toNat (iI x)) = I6 ∧ z_ar I6 94 384 (zup leg i x) ∧ ∀ q, q ≠ 94 → I6 q = I5 q :=
  ⟨_, rfl, z_ar_set zl hi x, fun q h => zu_n _ _ h⟩
set_option maxRecDepth 20000 in
theorem n_ltS {V : Nat → zI → zJ → zP → Nat → List Value → List Value → Prop} {ini : Bool} {ret : Option FieldType} {post : Option Value → zI → zJ → zP → Prop} (I : zI) (J : zJ) (P : zP) (hM0 : mK P) (M W K : Int → Int) (zM : z_ar I 80 36 M) (hM : z_bd M 36 0 99999) (n e : Nat) (h8 : I 78 8 = iI (e : Int)) (he6 : e ≤ 6) (hnb : n ≤ 6) (zW : z_ar I 81 e W) (hWb : z_bd W e 0 (n - 1)) (zK : z_ar I 83 e K) (hKb6 : z_bd K 6 0 2) (w fr to : Int) (hw : w = 0 ∨ w = 1) (hfr : 0 ≤ fr ∧ fr < n) (hto : 0 ≤ to ∧ to < n) (set x : Nat) (hset : set < 64) (hx : x < e) (I5 : zI) (f5 : ∀ q, q ≠ 93 → q ≠ 94 → I5 q = I q) (S : Int × (Int → Int)) (zl : z_ar I5 94 384 S.2) (hlg : zlg S.2 e set x) (hS1 : 0 ≤ S.1 ∧ S.1 ≤ 99999) (hV : z_Cl yX12_layTours.cls cX12_layTours 2 108 ini none ret post V) (hgo : ∀ I6 : zI, (∀ q, q ≠ 94 → I6 q = I5 q) → z_ar I6 94 384 (f_lxs M W K w fr to e set x S).2 → V 108 I6 J P 36 [.ref 78, .int (iI w), .int (iI fr), .int (iI to), .int (iI (set : Int)), .int (iI (f_lxs M W K w fr to e set x S).1), .int (iI ((x : Int) + 1)), .null, .null, .null, .null] []) : V 108 I5 J P 45 [.ref 78, .int (iI w), .int (iI fr), .int (iI to), .int (iI (set : Int)), .int (iI S.1), .int (iI (x : Int)), .null, .null, .null, .null] [] := by
  obtain ⟨o1, o7, o9, o10, o11, o16, o17, o18, o19, o20, o25, o26, o28, o29, o30, o31, o36, o37, o38, o39, o40, o41, o42, o43, o44, o45, o46, o47, o48⟩ := id hM0
  obtain ⟨ah, hah⟩ : ∃ ah, ah = zdf set (2 ^ x) := ⟨_, rfl⟩
  refine s_ldc hV dX12_layTours_45 ct_X12_103 (99999) (by decide) ?_
  refine r_istore hV dX12_layTours_47 (Nat.le_of_ble_eq_true rfl) (z_st1_11_7 rfl) ?_
  refine r_iload hV dX12_layTours_49 rfl ?_
  refine r_iload hV dX12_layTours_51 rfl ?_
  refine q_is2v hV dX12_layTours_53 ms_X12_180 (n_has I5 J P set x hset (by omega)) (by decide) (Nat.le_refl _) (Nat.le_of_ble_eq_true rfl) ?_
  refine s_if_eq hV 246 dX12_layTours_56 (by decide) (by unfold z_rg; first | omega | (split <;> omega)) (fun c56 => ?_) (fun c56 => ?_)
  · have hb56 := z_ite0 c56
    have hlev : f_lev M W K S.2 w fr e set x = 99999 := by unfold f_lev; rw [if_neg (fun hh => hb56 hh.1)]
    obtain ⟨lv, hlv⟩ : ∃ lv : Int, lv = 99999 := ⟨_, rfl⟩
    refine r_aload_n hV dX12_layTours_246 rfl rfl ?_
    refine r_getR hV dX12_layTours_247 fl_X12_60 (by first | decide | omega) (by first | rfl | assumption) o31 ?_
    refine s_bipush hV dX12_layTours_250 (6) (by decide) ?_
    refine r_iload hV dX12_layTours_252 rfl ?_
    refine s_imul hV dX12_layTours_254 ?_
    refine r_iload hV dX12_layTours_255 rfl ?_
    refine s_iadd hV dX12_layTours_257 ?_
    refine r_iload hV dX12_layTours_258 rfl ?_
    refine s_iastore hV dX12_layTours_260 (by first | decide | omega) (by first | rfl | assumption) (by decide) (by omega) (by omega) ?_
    obtain ⟨I6, hI6, hz6, hfI6⟩ := zst_leg (x := lv) zl (show 0 ≤ 6 * (set : Int) + (x : Int) by omega)
    rw [hlv] at hI6 hz6
    rw [hI6]
    refine s_iinc hV dX12_layTours_261 rfl (z_st1_11_6 rfl) ?_
    refine r_goto hV 36 dX12_layTours_264 (by decide) ?_
    refine r_kill hV 7 z_stk_11_7 ?_
    refine r_kill hV 8 z_stk_11_8 ?_
    refine r_kill hV 9 z_stk_11_9 ?_
    refine r_kill hV 10 z_stk_11_10 ?_
    first
      | (have e0 : f_lxs M W K w fr to e set x S = (u + M (6 * W (x : Int) + to), zup S.2 (6 * (set : Int) + (x : Int)) u) := by unfold f_lxs; rw [hlev]; rw [if_pos ⟨hb56, hc66⟩, if_pos (by omega)]
         rw [e0] at hgo
         exact hgo I6 hfI6 hz6)
      | (have e0 : f_lxs M W K w fr to e set x S = (S.1, zup S.2 (6 * (set : Int) + (x : Int)) u) := by unfold f_lxs; rw [hlev]; rw [if_pos ⟨hb56, hc66⟩, if_neg (by omega)]
         rw [e0] at hgo
         exact hgo I6 hfI6 hz6)
      | (have e0 : f_lxs M W K w fr to e set x S = (S.1, zup S.2 (6 * (set : Int) + (x : Int)) 99999) := by unfold f_lxs; rw [hlev]; rw [if_neg (fun hh => hb56 hh.1)]
         rw [e0] at hgo
         exact hgo I6 hfI6 hz6)
      | (have e0 : f_lxs M W K w fr to e set x S = (S.1, zup S.2 (6 * (set : Int) + (x : Int)) 99999) := by unfold f_lxs; rw [hlev]; rw [if_neg (fun hh => hc66 hh.2)]
         rw [e0] at hgo
         exact hgo I6 hfI6 hz6)
  · have hb56 := z_ite1 c56
    refine r_aload_n hV dX12_layTours_59 rfl rfl ?_
    refine r_iload_n hV dX12_layTours_60 rfl ?_
    refine r_iload hV dX12_layTours_61 rfl ?_
    refine q_iv2v hV dX12_layTours_63 mv_X12_211 (n_canDo I5 J P hM0 e K (z_ar_fr zK (f5 83 (by omega) (by omega))) he6 hKb6 w (x : Int) (by unfold z_rg; omega) (by omega)) (by first | decide | omega) (by first | rfl | assumption) (by decide) (Nat.le_refl _) (Nat.le_of_ble_eq_true rfl) ?_
    refine s_if_eq hV 246 dX12_layTours_66 (by decide) (by unfold z_rg; first | omega | (split <;> omega)) (fun c66 => ?_) (fun c66 => ?_)
    · have hc66 := z_ite0 c66
      have hlev : f_lev M W K S.2 w fr e set x = 99999 := by unfold f_lev; rw [if_neg (fun hh => hc66 hh.2)]
      obtain ⟨lv, hlv⟩ : ∃ lv : Int, lv = 99999 := ⟨_, rfl⟩
      refine r_aload_n hV dX12_layTours_246 rfl rfl ?_
      refine r_getR hV dX12_layTours_247 fl_X12_60 (by first | decide | omega) (by first | rfl | assumption) o31 ?_
      refine s_bipush hV dX12_layTours_250 (6) (by decide) ?_
      refine r_iload hV dX12_layTours_252 rfl ?_
      refine s_imul hV dX12_layTours_254 ?_
      refine r_iload hV dX12_layTours_255 rfl ?_
      refine s_iadd hV dX12_layTours_257 ?_
      refine r_iload hV dX12_layTours_258 rfl ?_
      refine s_iastore hV dX12_layTours_260 (by first | decide | omega) (by first | rfl | assumption) (by decide) (by omega) (by omega) ?_
      obtain ⟨I6, hI6, hz6, hfI6⟩ := zst_leg (x := lv) zl (show 0 ≤ 6 * (set : Int) + (x : Int) by omega)
      rw [hlv] at hI6 hz6
      rw [hI6]
      refine s_iinc hV dX12_layTours_261 rfl (z_st1_11_6 rfl) ?_
      refine r_goto hV 36 dX12_layTours_264 (by decide) ?_
      refine r_kill hV 7 z_stk_11_7 ?_
      refine r_kill hV 8 z_stk_11_8 ?_
      refine r_kill hV 9 z_stk_11_9 ?_
      refine r_kill hV 10 z_stk_11_10 ?_
      first
        | (have e0 : f_lxs M W K w fr to e set x S = (u + M (6 * W (x : Int) + to), zup S.2 (6 * (set : Int) + (x : Int)) u) := by unfold f_lxs; rw [hlev]; rw [if_pos ⟨hb56, hc66⟩, if_pos (by omega)]
           rw [e0] at hgo
           exact hgo I6 hfI6 hz6)
        | (have e0 : f_lxs M W K w fr to e set x S = (S.1, zup S.2 (6 * (set : Int) + (x : Int)) u) := by unfold f_lxs; rw [hlev]; rw [if_pos ⟨hb56, hc66⟩, if_neg (by omega)]
           rw [e0] at hgo
           exact hgo I6 hfI6 hz6)
        | (have e0 : f_lxs M W K w fr to e set x S = (S.1, zup S.2 (6 * (set : Int) + (x : Int)) 99999) := by unfold f_lxs; rw [hlev]; rw [if_neg (fun hh => hb56 hh.1)]
           rw [e0] at hgo
           exact hgo I6 hfI6 hz6)
        | (have e0 : f_lxs M W K w fr to e set x S = (S.1, zup S.2 (6 * (set : Int) + (x : Int)) 99999) := by unfold f_lxs; rw [hlev]; rw [if_neg (fun hh => hc66 hh.2)]
           rw [e0] at hgo
           exact hgo I6 hfI6 hz6)
    · have hc66 := z_ite1 c66
      refine r_iload hV dX12_layTours_69 rfl ?_
      refine s_iconst hV dX12_layTours_71 (1) (by decide) ?_
      refine r_iload hV dX12_layTours_72 rfl ?_
      refine s_ishl hV dX12_layTours_74 (zb_shl (by omega)) ?_
      refine s_iconst hV dX12_layTours_75 (-1) (by decide) ?_
      refine s_ixor hV dX12_layTours_76 (zb_not (z_pw (by omega))) ?_
      refine s_iand hV dX12_layTours_77 (zb_df' hset (z_pw (by omega))) ?_
      rw [← hah]
      refine r_istore hV dX12_layTours_78 (Nat.le_of_ble_eq_true rfl) (z_st1_11_8 rfl) ?_
      have hahl : ah < set := by rw [hah]; exact zdf_lt (by omega) hb56
      have hlah : ∀ b : Nat, b < e → 0 ≤ S.2 (6 * (ah : Int) + b) ∧ S.2 (6 * (ah : Int) + b) ≤ 99999 := fun b hb => hlg ah b hb (Or.inl hahl)
      have hwx := hWb (x : Int) (by omega) (by omega)
      have J107 : V 108 I5 J P 107 [.ref 78, .int (iI w), .int (iI fr), .int (iI to), .int (iI (set : Int)), .int (iI S.1), .int (iI (x : Int)), .int (iI 99999), .int (iI (ah : Int)), .null, .null] [.int (iI (if ah = 0 then M (6 * fr + W (x : Int)) else 99999))] := by
        skip
        refine r_istore hV dX12_layTours_107 (Nat.le_of_ble_eq_true rfl) (z_st1_11_7 rfl) ?_
        refine s_iconst hV dX12_layTours_109 (0) (by decide) ?_
        refine r_istore hV dX12_layTours_110 (Nat.le_of_ble_eq_true rfl) (z_st1_11_9 rfl) ?_
        have L112 : ∀ (k112 b : Nat), e - b < k112 → b ≤ e → V 108 I5 J P 112 [.ref 78, .int (iI w), .int (iI fr), .int (iI to), .int (iI (set : Int)), .int (iI S.1), .int (iI (x : Int)), .int (iI (zit (f_lb M W S.2 ah x) b (if ah = 0 then M (6 * fr + W (x : Int)) else 99999))), .int (iI (ah : Int)), .int (iI (b : Int)), .null] [] := by
          intro k112
          induction k112 with
          | zero => intro b  hk1 hk2; omega
          | succ k112 ih112 =>
            intro b  hk112 hl112 
            have hub := f_lu_b (M := M) (W := W) (leg := S.2) (ah := ah) hM hWb hnb hfr hlah hx b (by omega)
            have hnx : ∀ s2 : Int, zit (f_lb M W S.2 ah x) (b + 1) (if ah = 0 then M (6 * fr + W (x : Int)) else 99999) = s2 → b < e → V 108 I5 J P 112 [.ref 78, .int (iI w), .int (iI fr), .int (iI to), .int (iI (set : Int)), .int (iI S.1), .int (iI (x : Int)), .int (iI s2), .int (iI (ah : Int)), .int (iI ((b : Int) + 1)), .null] [] := fun s2 hs hj => by subst hs; exact ih112 (b + 1) (by omega) (by omega)
            generalize hgu : zit (f_lb M W S.2 ah x) b (if ah = 0 then M (6 * fr + W (x : Int)) else 99999) = u at hub hnx ⊢
            refine r_iload hV dX12_layTours_112 rfl ?_
            refine r_aload_n hV dX12_layTours_114 rfl rfl ?_
            refine r_getI hV dX12_layTours_115 fl_X12_111 (by first | decide | omega) (by first | rfl | assumption) ((congrFun (f5 78 (by omega) (by omega)) 8).trans h8) ?_
            refine s_icmp_ge hV 192 dX12_layTours_118 (by decide) (by unfold z_rg; first | omega | (split <;> omega)) (by unfold z_rg; first | omega | (split <;> omega)) (fun c118 => ?_) (fun c118 => ?_)
            · have hbe : b = e := by omega
              rw [hbe] at hgu
              have hlev : f_lev M W K S.2 w fr e set x = u := by
                unfold f_lev f_lu
                rw [if_pos ⟨hb56, hc66⟩, ← hah, hgu, if_neg (by omega)]
              obtain ⟨lv, hlv⟩ : ∃ lv : Int, lv = u := ⟨_, rfl⟩
              have hmt := hM (6 * W (x : Int) + to) (by omega) (by omega)
              refine r_iload hV dX12_layTours_192 rfl ?_
              refine s_ldc hV dX12_layTours_194 ct_X12_103 (99999) (by decide) ?_
              refine s_icmp_le hV 204 dX12_layTours_196 (by decide) (by unfold z_rg; first | omega | (split <;> omega)) (by unfold z_rg; first | omega | (split <;> omega)) (fun _ => ?_) (fun c196 => absurd (by omega) c196)
              refine r_iload hV dX12_layTours_204 rfl ?_
              refine r_istore hV dX12_layTours_206 (Nat.le_of_ble_eq_true rfl) (z_st1_11_7 rfl) ?_
              refine r_iload hV dX12_layTours_208 rfl ?_
              refine r_aload_n hV dX12_layTours_210 rfl rfl ?_
              refine r_getR hV dX12_layTours_211 fl_X12_17 (by first | decide | omega) (by first | rfl | assumption) o7 ?_
              refine s_bipush hV dX12_layTours_214 (6) (by decide) ?_
              refine r_aload_n hV dX12_layTours_216 rfl rfl ?_
              refine r_getR hV dX12_layTours_217 fl_X12_20 (by first | decide | omega) (by first | rfl | assumption) o9 ?_
              refine r_iload hV dX12_layTours_220 rfl ?_
              refine s_iaload hV dX12_layTours_222 (by first | decide | omega) (by first | rfl | assumption) (by decide) (by omega) (by omega) ((congrFun (f5 81 (by omega) (by omega)) _).trans (zW (x : Int) (by omega) (by omega))) ?_
              refine s_imul hV dX12_layTours_223 ?_
              refine r_iload_n hV dX12_layTours_224 rfl ?_
              refine s_iadd hV dX12_layTours_225 ?_
              refine s_iaload hV dX12_layTours_226 (by first | decide | omega) (by first | rfl | assumption) (by decide) (by omega) (by omega) ((congrFun (f5 80 (by omega) (by omega)) _).trans (zM (6 * W (x : Int) + to) (by omega) (by omega))) ?_
              refine s_iadd hV dX12_layTours_227 ?_
              refine r_istore hV dX12_layTours_228 (Nat.le_of_ble_eq_true rfl) (z_st1_11_9 rfl) ?_
              refine r_iload hV dX12_layTours_230 rfl ?_
              refine r_iload hV dX12_layTours_232 rfl ?_
              refine s_icmp_ge hV 242 dX12_layTours_234 (by decide) (by unfold z_rg; first | omega | (split <;> omega)) (by unfold z_rg; first | omega | (split <;> omega)) (fun c234 => ?_) (fun c234 => ?_)
              · refine r_iload hV dX12_layTours_242 rfl ?_
                refine r_istore hV dX12_layTours_244 (Nat.le_of_ble_eq_true rfl) (z_st1_11_5 rfl) ?_
                refine r_aload_n hV dX12_layTours_246 rfl rfl ?_
                refine r_getR hV dX12_layTours_247 fl_X12_60 (by first | decide | omega) (by first | rfl | assumption) o31 ?_
                refine s_bipush hV dX12_layTours_250 (6) (by decide) ?_
                refine r_iload hV dX12_layTours_252 rfl ?_
                refine s_imul hV dX12_layTours_254 ?_
                refine r_iload hV dX12_layTours_255 rfl ?_
                refine s_iadd hV dX12_layTours_257 ?_
                refine r_iload hV dX12_layTours_258 rfl ?_
                refine s_iastore hV dX12_layTours_260 (by first | decide | omega) (by first | rfl | assumption) (by decide) (by omega) (by omega) ?_
                obtain ⟨I6, hI6, hz6, hfI6⟩ := zst_leg (x := lv) zl (show 0 ≤ 6 * (set : Int) + (x : Int) by omega)
                rw [hlv] at hI6 hz6
                rw [hI6]
                refine s_iinc hV dX12_layTours_261 rfl (z_st1_11_6 rfl) ?_
                refine r_goto hV 36 dX12_layTours_264 (by decide) ?_
                refine r_kill hV 7 z_stk_11_7 ?_
                refine r_kill hV 8 z_stk_11_8 ?_
                refine r_kill hV 9 z_stk_11_9 ?_
                refine r_kill hV 10 z_stk_11_10 ?_
                first
                  | (have e0 : f_lxs M W K w fr to e set x S = (u + M (6 * W (x : Int) + to), zup S.2 (6 * (set : Int) + (x : Int)) u) := by unfold f_lxs; rw [hlev]; rw [if_pos ⟨hb56, hc66⟩, if_pos (by omega)]
                     rw [e0] at hgo
                     exact hgo I6 hfI6 hz6)
                  | (have e0 : f_lxs M W K w fr to e set x S = (S.1, zup S.2 (6 * (set : Int) + (x : Int)) u) := by unfold f_lxs; rw [hlev]; rw [if_pos ⟨hb56, hc66⟩, if_neg (by omega)]
                     rw [e0] at hgo
                     exact hgo I6 hfI6 hz6)
                  | (have e0 : f_lxs M W K w fr to e set x S = (S.1, zup S.2 (6 * (set : Int) + (x : Int)) 99999) := by unfold f_lxs; rw [hlev]; rw [if_neg (fun hh => hb56 hh.1)]
                     rw [e0] at hgo
                     exact hgo I6 hfI6 hz6)
                  | (have e0 : f_lxs M W K w fr to e set x S = (S.1, zup S.2 (6 * (set : Int) + (x : Int)) 99999) := by unfold f_lxs; rw [hlev]; rw [if_neg (fun hh => hc66 hh.2)]
                     rw [e0] at hgo
                     exact hgo I6 hfI6 hz6)
              · refine r_iload hV dX12_layTours_237 rfl ?_
                refine r_goto hV 244 dX12_layTours_239 (by decide) ?_
                refine r_istore hV dX12_layTours_244 (Nat.le_of_ble_eq_true rfl) (z_st1_11_5 rfl) ?_
                refine r_aload_n hV dX12_layTours_246 rfl rfl ?_
                refine r_getR hV dX12_layTours_247 fl_X12_60 (by first | decide | omega) (by first | rfl | assumption) o31 ?_
                refine s_bipush hV dX12_layTours_250 (6) (by decide) ?_
                refine r_iload hV dX12_layTours_252 rfl ?_
                refine s_imul hV dX12_layTours_254 ?_
                refine r_iload hV dX12_layTours_255 rfl ?_
                refine s_iadd hV dX12_layTours_257 ?_
                refine r_iload hV dX12_layTours_258 rfl ?_
                refine s_iastore hV dX12_layTours_260 (by first | decide | omega) (by first | rfl | assumption) (by decide) (by omega) (by omega) ?_
                obtain ⟨I6, hI6, hz6, hfI6⟩ := zst_leg (x := lv) zl (show 0 ≤ 6 * (set : Int) + (x : Int) by omega)
                rw [hlv] at hI6 hz6
                rw [hI6]
                refine s_iinc hV dX12_layTours_261 rfl (z_st1_11_6 rfl) ?_
                refine r_goto hV 36 dX12_layTours_264 (by decide) ?_
                refine r_kill hV 7 z_stk_11_7 ?_
                refine r_kill hV 8 z_stk_11_8 ?_
                refine r_kill hV 9 z_stk_11_9 ?_
                refine r_kill hV 10 z_stk_11_10 ?_
                first
                  | (have e0 : f_lxs M W K w fr to e set x S = (u + M (6 * W (x : Int) + to), zup S.2 (6 * (set : Int) + (x : Int)) u) := by unfold f_lxs; rw [hlev]; rw [if_pos ⟨hb56, hc66⟩, if_pos (by omega)]
                     rw [e0] at hgo
                     exact hgo I6 hfI6 hz6)
                  | (have e0 : f_lxs M W K w fr to e set x S = (S.1, zup S.2 (6 * (set : Int) + (x : Int)) u) := by unfold f_lxs; rw [hlev]; rw [if_pos ⟨hb56, hc66⟩, if_neg (by omega)]
                     rw [e0] at hgo
                     exact hgo I6 hfI6 hz6)
                  | (have e0 : f_lxs M W K w fr to e set x S = (S.1, zup S.2 (6 * (set : Int) + (x : Int)) 99999) := by unfold f_lxs; rw [hlev]; rw [if_neg (fun hh => hb56 hh.1)]
                     rw [e0] at hgo
                     exact hgo I6 hfI6 hz6)
                  | (have e0 : f_lxs M W K w fr to e set x S = (S.1, zup S.2 (6 * (set : Int) + (x : Int)) 99999) := by unfold f_lxs; rw [hlev]; rw [if_neg (fun hh => hc66 hh.2)]
                     rw [e0] at hgo
                     exact hgo I6 hfI6 hz6)
            · refine r_iload hV dX12_layTours_121 rfl ?_
              refine r_iload hV dX12_layTours_123 rfl ?_
              refine q_is2v hV dX12_layTours_125 ms_X12_180 (n_has I5 J P ah b (by omega) (by omega)) (by decide) (Nat.le_refl _) (Nat.le_of_ble_eq_true rfl) ?_
              refine s_if_eq hV 186 dX12_layTours_128 (by decide) (by unfold z_rg; first | omega | (split <;> omega)) (fun c128 => ?_) (fun c128 => ?_)
              · have hb128 := z_ite0 c128
                refine s_iinc hV dX12_layTours_186 rfl (z_st1_11_9 rfl) ?_
                refine r_goto hV 112 dX12_layTours_189 (by decide) ?_
                refine r_kill hV 10 z_stk_11_10 ?_
                refine hnx _ (by rw [zit, hgu, f_lb]; first | rw [if_neg hb128] | rw [if_pos hb128, if_pos (by omega)] | rw [if_pos hb128, if_neg (by omega)]) (by omega)
              · have hb128 := z_ite1 c128
                have hwb := hWb (b : Int) (by omega) (by omega)
                have hmb := hM (6 * W (b : Int) + W (x : Int)) (by omega) (by omega)
                have hlb := hlah b (by omega)
                refine r_aload_n hV dX12_layTours_131 rfl rfl ?_
                refine r_getR hV dX12_layTours_132 fl_X12_60 (by first | decide | omega) (by first | rfl | assumption) o31 ?_
                refine s_bipush hV dX12_layTours_135 (6) (by decide) ?_
                refine r_iload hV dX12_layTours_137 rfl ?_
                refine s_imul hV dX12_layTours_139 ?_
                refine r_iload hV dX12_layTours_140 rfl ?_
                refine s_iadd hV dX12_layTours_142 ?_
                refine s_iaload hV dX12_layTours_143 (by first | decide | omega) (by first | rfl | assumption) (by decide) (by omega) (by omega) (zl (6 * (ah : Int) + (b : Int)) (by omega) (by omega)) ?_
                refine r_aload_n hV dX12_layTours_144 rfl rfl ?_
                refine r_getR hV dX12_layTours_145 fl_X12_17 (by first | decide | omega) (by first | rfl | assumption) o7 ?_
                refine s_bipush hV dX12_layTours_148 (6) (by decide) ?_
                refine r_aload_n hV dX12_layTours_150 rfl rfl ?_
                refine r_getR hV dX12_layTours_151 fl_X12_20 (by first | decide | omega) (by first | rfl | assumption) o9 ?_
                refine r_iload hV dX12_layTours_154 rfl ?_
                refine s_iaload hV dX12_layTours_156 (by first | decide | omega) (by first | rfl | assumption) (by decide) (by omega) (by omega) ((congrFun (f5 81 (by omega) (by omega)) _).trans (zW (b : Int) (by omega) (by omega))) ?_
                refine s_imul hV dX12_layTours_157 ?_
                refine r_aload_n hV dX12_layTours_158 rfl rfl ?_
                refine r_getR hV dX12_layTours_159 fl_X12_20 (by first | decide | omega) (by first | rfl | assumption) o9 ?_
                refine r_iload hV dX12_layTours_162 rfl ?_
                refine s_iaload hV dX12_layTours_164 (by first | decide | omega) (by first | rfl | assumption) (by decide) (by omega) (by omega) ((congrFun (f5 81 (by omega) (by omega)) _).trans (zW (x : Int) (by omega) (by omega))) ?_
                refine s_iadd hV dX12_layTours_165 ?_
                refine s_iaload hV dX12_layTours_166 (by first | decide | omega) (by first | rfl | assumption) (by decide) (by omega) (by omega) ((congrFun (f5 80 (by omega) (by omega)) _).trans (zM (6 * W (b : Int) + W (x : Int)) (by omega) (by omega))) ?_
                refine s_iadd hV dX12_layTours_167 ?_
                refine r_istore hV dX12_layTours_168 (Nat.le_of_ble_eq_true rfl) (z_st1_11_10 rfl) ?_
                refine r_iload hV dX12_layTours_170 rfl ?_
                refine r_iload hV dX12_layTours_172 rfl ?_
                refine s_icmp_ge hV 182 dX12_layTours_174 (by decide) (by unfold z_rg; first | omega | (split <;> omega)) (by unfold z_rg; first | omega | (split <;> omega)) (fun c174 => ?_) (fun c174 => ?_)
                · refine r_iload hV dX12_layTours_182 rfl ?_
                  refine r_istore hV dX12_layTours_184 (Nat.le_of_ble_eq_true rfl) (z_st1_11_7 rfl) ?_
                  refine s_iinc hV dX12_layTours_186 rfl (z_st1_11_9 rfl) ?_
                  refine r_goto hV 112 dX12_layTours_189 (by decide) ?_
                  refine r_kill hV 10 z_stk_11_10 ?_
                  refine hnx _ (by rw [zit, hgu, f_lb]; first | rw [if_neg hb128] | rw [if_pos hb128, if_pos (by omega)] | rw [if_pos hb128, if_neg (by omega)]) (by omega)
                · refine r_iload hV dX12_layTours_177 rfl ?_
                  refine r_goto hV 184 dX12_layTours_179 (by decide) ?_
                  refine r_istore hV dX12_layTours_184 (Nat.le_of_ble_eq_true rfl) (z_st1_11_7 rfl) ?_
                  refine s_iinc hV dX12_layTours_186 rfl (z_st1_11_9 rfl) ?_
                  refine r_goto hV 112 dX12_layTours_189 (by decide) ?_
                  refine r_kill hV 10 z_stk_11_10 ?_
                  refine hnx _ (by rw [zit, hgu, f_lb]; first | rw [if_neg hb128] | rw [if_pos hb128, if_pos (by omega)] | rw [if_pos hb128, if_neg (by omega)]) (by omega)
        exact L112 (e + 1) 0 (by omega) (by omega)
      refine r_iload hV dX12_layTours_80 rfl ?_
      refine s_if_ne hV 105 dX12_layTours_82 (by decide) (by unfold z_rg; first | omega | (split <;> omega)) (fun c82 => ?_) (fun c82 => ?_)
      · refine s_ldc hV dX12_layTours_105 ct_X12_103 (99999) (by decide) ?_
        first
          | (rw [if_pos (by omega)] at J107; exact J107)
          | (rw [if_neg (by omega)] at J107; exact J107)
      · refine r_aload_n hV dX12_layTours_85 rfl rfl ?_
        refine r_getR hV dX12_layTours_86 fl_X12_17 (by first | decide | omega) (by first | rfl | assumption) o7 ?_
        refine s_bipush hV dX12_layTours_89 (6) (by decide) ?_
        refine r_iload_n hV dX12_layTours_91 rfl ?_
        refine s_imul hV dX12_layTours_92 ?_
        refine r_aload_n hV dX12_layTours_93 rfl rfl ?_
        refine r_getR hV dX12_layTours_94 fl_X12_20 (by first | decide | omega) (by first | rfl | assumption) o9 ?_
        refine r_iload hV dX12_layTours_97 rfl ?_
        refine s_iaload hV dX12_layTours_99 (by first | decide | omega) (by first | rfl | assumption) (by decide) (by omega) (by omega) ((congrFun (f5 81 (by omega) (by omega)) _).trans (zW (x : Int) (by omega) (by omega))) ?_
        refine s_iadd hV dX12_layTours_100 ?_
        refine s_iaload hV dX12_layTours_101 (by first | decide | omega) (by first | rfl | assumption) (by decide) (by omega) (by omega) ((congrFun (f5 80 (by omega) (by omega)) _).trans (zM (6 * fr + W (x : Int)) (by omega) (by omega))) ?_
        refine r_goto hV 107 dX12_layTours_102 (by decide) ?_
        first
          | (rw [if_pos (by omega)] at J107; exact J107)
          | (rw [if_neg (by omega)] at J107; exact J107)

theorem f_lsr_b {M W K leg : Int → Int} {w fr to : Int} {e n set : Nat} (hM : z_bd M 36 0 99999) (hW : z_bd W e 0 (n - 1)) (hn : n ≤ 6) (he : e ≤ 6) (hfr : 0 ≤ fr ∧ fr < n) (hto : 0 ≤ to ∧ to < n) (hl : zlg leg e set 0) : ∀ x, x ≤ e → zlg (f_lsr M W K w fr to e set leg x).2 e set x ∧ 0 ≤ (f_lsr M W K w fr to e set leg x).1 ∧ (f_lsr M W K w fr to e set leg x).1 ≤ 99999 := by
  intro x
  induction x with
  | zero =>
    intro _
    have h1 := hM (6 * fr + to) (by omega) (by omega)
    refine ⟨hl, ?_⟩
    show 0 ≤ (if set = 0 then M (6 * fr + to) else 99999) ∧ (if set = 0 then M (6 * fr + to) else 99999) ≤ 99999
    split <;> omega
  | succ x ih =>
    intro hx
    obtain ⟨i1, i2, i3⟩ := ih (by omega)
    have hb := f_lev_b (K := K) (w := w) hM hW hn he hfr (show x < e by omega) i1
    have hm := hM (6 * W x + to) (by have := hW x (by omega) (by omega); omega) (by have := hW x (by omega) (by omega); omega)
    show zlg (f_lxs M W K w fr to e set x (f_lsr M W K w fr to e set leg x)).2 e set (x + 1) ∧ 0 ≤ (f_lxs M W K w fr to e set x (f_lsr M W K w fr to e set leg x)).1 ∧ (f_lxs M W K w fr to e set x (f_lsr M W K w fr to e set leg x)).1 ≤ 99999
    generalize f_lsr M W K w fr to e set leg x = S at i1 i2 i3 hb
    refine ⟨zlg_s hM hW hn he hfr (by omega) i1, ?_⟩
    unfold f_lxs
    simp only
    (repeat' split) <;> omega
theorem f_lts_s {M W K : Int → Int} {w fr to : Int} {e m : Nat} {A B : Int → Int} : f_lts M W K w fr to e (m + 1) A B = f_lss M W K w fr to e m (f_lts M W K w fr to e m A B) := rfl
theorem f_lts_b {M W K A B : Int → Int} {w fr to : Int} {e n : Nat} (hM : z_bd M 36 0 99999) (hW : z_bd W e 0 (n - 1)) (hn : n ≤ 6) (he : e ≤ 6) (hfr : 0 ≤ fr ∧ fr < n) (hto : 0 ≤ to ∧ to < n) : ∀ m, zlg (f_lts M W K w fr to e m A B).1 e m 0 := by
  intro m
  induction m with
  | zero => intro s b hb hs; omega
  | succ m ih =>
    rw [f_lts_s]
    exact zlg_n (f_lsr_b hM hW hn he hfr hto ih e (Nat.le_refl _)).1
set_option maxRecDepth 20000 in
theorem n_layTours (I : zI) (J : zJ) (P : zP) (hM0 : mK P) (M W K : Int → Int) (zM : z_ar I 80 36 M) (hM : z_bd M 36 0 99999) (n e : Nat) (h8 : I 78 8 = iI (e : Int)) (he6 : e ≤ 6) (hnb : n ≤ 6) (zW : z_ar I 81 e W) (hWb : z_bd W e 0 (n - 1)) (zK : z_ar I 83 e K) (hKb6 : z_bd K 6 0 2) (w fr to : Int) (hw : w = 0 ∨ w = 1) (hfr : 0 ≤ fr ∧ fr < n) (hto : 0 ≤ to ∧ to < n) : z_Sp 2 yX12_layTours cX12_layTours 11 none 108 108 I J P [.ref 78, .int (iI w), .int (iI fr), .int (iI to)] (q_lts I J P (f_lts M W K w fr to e 64 (f_w0 I 94) (f_w0 I 93)).1 (f_lts M W K w fr to e 64 (f_w0 I 94) (f_w0 I 93)).2) := by
  obtain ⟨o1, o7, o9, o10, o11, o16, o17, o18, o19, o20, o25, o26, o28, o29, o30, o31, o36, o37, o38, o39, o40, o41, o42, o43, o44, o45, o46, o47, o48⟩ := id hM0
  refine z_met false (by decide +kernel) (fun h => by cases h) (Nat.le_of_ble_eq_true rfl) (by first | decide | omega) (fun V hV => ?_)
  show V 108 I J P 0 [.ref 78, .int (iI w), .int (iI fr), .int (iI to), .null, .null, .null, .null, .null, .null, .null] []
  refine s_iconst hV dX12_layTours_0 (0) (by decide) ?_
  refine r_istore hV dX12_layTours_1 (Nat.le_of_ble_eq_true rfl) (z_st1_11_4 rfl) ?_
  have L3 : ∀ (k3 set : Nat) (I1 : zI), 64 - set < k3 → set ≤ 64 → (z_ar I1 94 384 (f_lts M W K w fr to e set (f_w0 I 94) (f_w0 I 93)).1) → (z_ar I1 93 128 (f_lts M W K w fr to e set (f_w0 I 94) (f_w0 I 93)).2) → (∀ q, q ≠ 93 → q ≠ 94 → I1 q = I q) → V 108 I1 J P 3 [.ref 78, .int (iI w), .int (iI fr), .int (iI to), .int (iI (set : Int)), .null, .null, .null, .null, .null, .null] [] := by
    intro k3
    induction k3 with
    | zero => intro set I1  hk1 hk2; omega
    | succ k3 ih3 =>
      intro set I1  hk3 hl3 hzA hzB hfr1
      have hlg0 := f_lts_b (K := K) (w := w) (A := f_w0 I 94) (B := f_w0 I 93) hM hWb hnb he6 hfr hto set
      have hst := f_lts_s (M := M) (W := W) (K := K) (w := w) (fr := fr) (to := to) (e := e) (m := set) (A := f_w0 I 94) (B := f_w0 I 93)
      generalize hAB : f_lts M W K w fr to e set (f_w0 I 94) (f_w0 I 93) = AB at hzA hzB hlg0 hst
      obtain ⟨A0, B0⟩ := AB
      simp only at hzA hzB hlg0
      refine r_iload hV dX12_layTours_3 rfl ?_
      refine s_bipush hV dX12_layTours_5 (64) (by decide) ?_
      refine s_icmp_ge hV 299 dX12_layTours_7 (by decide) (by unfold z_rg; first | omega | (split <;> omega)) (by unfold z_rg; first | omega | (split <;> omega)) (fun c7 => ?_) (fun c7 => ?_)
      · refine r_vret hV dX12_layTours_299 rfl rfl ?_
        have hs : set = 64 := by omega
        subst hs
        rw [hAB]
        exact ⟨rfl, rfl, rfl, hzA, hzB, hfr1⟩
      · refine r_iload hV dX12_layTours_10 rfl ?_
        have J31 : V 108 I1 J P 31 [.ref 78, .int (iI w), .int (iI fr), .int (iI to), .int (iI (set : Int)), .null, .null, .null, .null, .null, .null] [.int (iI (if set = 0 then M (6 * fr + to) else 99999))] := by
          skip
          refine r_istore hV dX12_layTours_31 (Nat.le_of_ble_eq_true rfl) (z_st1_11_5 rfl) ?_
          rw [show (if set = 0 then M (6 * fr + to) else 99999) = (f_lsr M W K w fr to e set A0 0).1 from rfl]
          refine s_iconst hV dX12_layTours_33 (0) (by decide) ?_
          refine r_istore hV dX12_layTours_34 (Nat.le_of_ble_eq_true rfl) (z_st1_11_6 rfl) ?_
          have L36 : ∀ (k36 x : Nat) (I5 : zI), e - x < k36 → x ≤ e → (∀ q, q ≠ 94 → I5 q = I1 q) → (z_ar I5 94 384 (f_lsr M W K w fr to e set A0 x).2) → V 108 I5 J P 36 [.ref 78, .int (iI w), .int (iI fr), .int (iI to), .int (iI (set : Int)), .int (iI (f_lsr M W K w fr to e set A0 x).1), .int (iI (x : Int)), .null, .null, .null, .null] [] := by
            intro k36
            induction k36 with
            | zero => intro x I5  hk1 hk2; omega
            | succ k36 ih36 =>
              intro x I5  hk36 hl36 f5 zl
              have hsb := (f_lsr_b (K := K) (w := w) hM hWb hnb he6 hfr hto hlg0 x (by omega)).2
              have hsb0 := (f_lsr_b (K := K) (w := w) hM hWb hnb he6 hfr hto hlg0 x (by omega))
              refine r_iload hV dX12_layTours_36 rfl ?_
              refine r_aload_n hV dX12_layTours_38 rfl rfl ?_
              refine r_getI hV dX12_layTours_39 fl_X12_111 (by first | decide | omega) (by first | rfl | assumption) ((congrFun ((f5 78 (by omega)).trans (hfr1 78 (by omega) (by omega))) 8).trans h8) ?_
              refine s_icmp_ge hV 267 dX12_layTours_42 (by decide) (by unfold z_rg; first | omega | (split <;> omega)) (by unfold z_rg; first | omega | (split <;> omega)) (fun c42 => ?_) (fun c42 => ?_)
              · have hxe : x = e := by omega
                rw [hxe] at zl hsb ⊢
                have zB5 := z_ar_fr hzB (f5 93 (by omega))
                refine r_aload_n hV dX12_layTours_267 rfl rfl ?_
                refine r_getR hV dX12_layTours_268 fl_X12_57 (by first | decide | omega) (by first | rfl | assumption) o30 ?_
                refine s_bipush hV dX12_layTours_271 (64) (by decide) ?_
                refine r_iload_n hV dX12_layTours_273 rfl ?_
                refine s_imul hV dX12_layTours_274 ?_
                refine r_iload hV dX12_layTours_275 rfl ?_
                refine s_iadd hV dX12_layTours_277 ?_
                refine r_iload hV dX12_layTours_278 rfl ?_
                refine s_ldc hV dX12_layTours_280 ct_X12_103 (99999) (by decide) ?_
                refine s_icmp_le hV 290 dX12_layTours_282 (by decide) (by unfold z_rg; first | omega | (split <;> omega)) (by unfold z_rg; first | omega | (split <;> omega)) (fun _ => ?_) (fun c282 => absurd (by omega) c282)
                refine r_iload hV dX12_layTours_290 rfl ?_
                refine s_iastore hV dX12_layTours_292 (by first | decide | omega) (by first | rfl | assumption) (by decide) (by omega) (by omega) ?_
                have hz7 := z_ar_set zB5 (z := 64 * w + (set : Int)) (by omega) ((f_lsr M W K w fr to e set A0 e).1)
                generalize hI7 : zu I5 (93) (zu (I5 93) (64 * w + (set : Int)).toNat (iI ((f_lsr M W K w fr to e set A0 e).1))) = I7
                have hfI7 : ∀ q, q ≠ 93 → I7 q = I5 q := fun q h => by rw [← hI7]; exact zu_n _ _ h
                rw [hI7] at hz7
                clear hI7
                refine s_iinc hV dX12_layTours_293 rfl (z_st1_11_4 rfl) ?_
                refine r_goto hV 3 dX12_layTours_296 (by decide) ?_
                refine r_kill hV 5 z_stk_11_5 ?_
                refine r_kill hV 6 z_stk_11_6 ?_
                exact ih3 (set + 1) I7 (by omega) (by omega) (by rw [hst, f_lss]; exact z_ar_fr zl (hfI7 94 (by omega))) (by rw [hst, f_lss]; simp only; rw [if_neg (by omega)]; exact hz7) (fun q a b => (hfI7 q a).trans ((f5 q b).trans (hfr1 q a b)))
              · exact n_ltS I J P hM0 M W K zM hM n e h8 he6 hnb zW hWb zK hKb6 w fr to hw hfr hto set x (by omega) (by omega) I5 (fun q a b => (f5 q b).trans (hfr1 q a b)) (f_lsr M W K w fr to e set A0 x) zl hsb0.1 hsb hV (fun I6 h1 h2 => ih36 (x + 1) I6 (by omega) (by omega) (fun q a => (h1 q a).trans (f5 q a)) h2)
          exact L36 (e + 1) 0 I1 (by omega) (by omega) (fun q h => rfl) hzA
        refine s_if_ne hV 29 dX12_layTours_12 (by decide) (by unfold z_rg; first | omega | (split <;> omega)) (fun c12 => ?_) (fun c12 => ?_)
        · refine s_ldc hV dX12_layTours_29 ct_X12_103 (99999) (by decide) ?_
          first
            | (rw [if_pos (by omega)] at J31; exact J31)
            | (rw [if_neg (by omega)] at J31; exact J31)
        · refine r_aload_n hV dX12_layTours_15 rfl rfl ?_
          refine r_getR hV dX12_layTours_16 fl_X12_17 (by first | decide | omega) (by first | rfl | assumption) o7 ?_
          refine s_bipush hV dX12_layTours_19 (6) (by decide) ?_
          refine r_iload_n hV dX12_layTours_21 rfl ?_
          refine s_imul hV dX12_layTours_22 ?_
          refine r_iload_n hV dX12_layTours_23 rfl ?_
          refine s_iadd hV dX12_layTours_24 ?_
          refine s_iaload hV dX12_layTours_25 (by first | decide | omega) (by first | rfl | assumption) (by decide) (by omega) (by omega) ((congrFun (hfr1 80 (by omega) (by omega)) _).trans (zM (6 * fr + to) (by omega) (by omega))) ?_
          refine r_goto hV 31 dX12_layTours_26 (by decide) ?_
          first
            | (rw [if_pos (by omega)] at J31; exact J31)
            | (rw [if_neg (by omega)] at J31; exact J31)
  exact L3 65 0 I (by omega) (by omega) (z_ar_any I 94 384) (z_ar_any I 93 128) (fun q a b => rfl)

