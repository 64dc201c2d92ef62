/-! THE LAW's loop -/
theorem lInv_le {b b2 : Int} {I : zI} {P : zP} (h : lInv b I P) (hb : b ≤ b2) : lInv b2 I P := by
  obtain ⟨d, d1, n, e, tl, st, r, c, nx, T, F, W, U, K, S, H, FU, SL, hC, hM, hB⟩ := h
  exact ⟨d, d1, n, e, tl, st, r, c, nx, T, F, W, U, K, S, H, FU, SL, hC, hM, lB_le hB hb⟩
theorem z_31b (x : Int32) : 0 ≤ (x &&& iI 31).toInt ∧ (x &&& iI 31).toInt ≤ 31 := by
  rw [pk_and x (m := iI 31) 5 (by decide), nI_toInt (by omega)]
  omega
theorem z_31 (x : Int32) : ∃ m : Int, 0 ≤ m ∧ m ≤ 31 ∧ iI x.toInt &&& iI 31 = iI m := by
  rw [← iI_of]
  exact ⟨_, (z_31b x).1, (z_31b x).2, iI_of _⟩
set_option maxRecDepth 20000 in
theorem l_loop {V : Nat → zI → zJ → zP → Nat → List Value → List Value → Prop} {post : Option Value → zI → zJ → zP → Prop} {L : Nat} {xs : Nat → Int32} (hV : z_Cl RL cL_law 11 108 false (some (L, xs)) (some .boolean) post V) (hL : L ≤ 2048) (hpost : ∀ (I : zI) (J : zJ) (P : zP), post (some (.int (iI 1))) I J P) {f : UInt32} : ∀ (k q : Nat) (I : zI) (J : zJ) (P : zP), 513 - q < k → q ≤ 512 → lInv (999 + 109 * (q : Int)) I P → V 108 I J P 18 [.float f, .ref 0, .ref 78, .int (iI (4 * (q : Int)))] [] := by
  intro k
  induction k with
  | zero => intro q I J P hk; omega
  | succ k ih =>
    intro q I J P hk hq hI
    have hgo : q ≤ 511 → ∀ (I : zI) (J : zJ) (P : zP), lInv (999 + 109 * (q : Int) + 109) I P → V 108 I J P 897 [.float f, .ref 0, .ref 78, .int (iI (4 * (q : Int)))] [] := fun hq2 I J P hI => by
      refine s_iinc hV dL_law_897 rfl rfl ?_
      refine r_goto hV 18 dL_law_900 (by decide) ?_
      have := ih (q + 1) I J P (by omega) (by omega) (by rw [show (999 : Int) + 109 * ((q + 1 : Nat) : Int) = 999 + 109 * (q : Int) + 109 by omega]; exact hI)
      rw [show (4 : Int) * ((q + 1 : Nat) : Int) = 4 * (q : Int) + 4 by omega] at this
      exact this
    refine r_iload_n hV dL_law_18 rfl ?_
    refine r_aload_n hV dL_law_19 rfl rfl ?_
    refine s_sln hV dL_law_20 ?_
    refine s_iconst hV dL_law_21 (4) (by decide) ?_
    refine s_isub hV dL_law_22 ?_
    refine s_icmp_gt hV 903 dL_law_23 (by decide) (by unfold z_rg; first | omega | (split <;> omega)) (by unfold z_rg; first | omega | (split <;> omega)) (fun c23 => ?_) (fun c23 => ?_)
    · refine s_iconst hV dL_law_903 (1) (by decide) ?_
      exact s_zret hV dL_law_904 rfl (Or.inr rfl) rfl (hpost _ _ _)
    · have hgo := hgo (by omega)
      refine r_aload_n hV dL_law_26 rfl rfl ?_
      refine r_iload_n hV dL_law_27 rfl ?_
      refine s_scl hV dL_law_28 hL (by omega) (by omega) ?_
      refine s_bipush hV dL_law_29 (31) (by decide) ?_
      obtain ⟨m, hm0, hm1, hm⟩ := z_31 (xs (4 * (q : Int)).toNat)
      refine s_iand hV dL_law_31 hm ?_
      refine s_tsw hV dL_law_32 (by unfold z_rg; first | omega | (split <;> omega)) (fun ho32 => ⟨897, by decide, ?_⟩) (fun hl32 hh32 => ?_)
      · exact hgo _ _ _ (lInv_le hI (by omega))
      · rcases (show m = 0 ∨ m = 1 ∨ m = 2 ∨ m = 3 ∨ m = 4 ∨ m = 5 ∨ m = 6 ∨ m = 7 ∨ m = 8 ∨ m = 9 ∨ m = 10 ∨ m = 11 ∨ m = 12 ∨ m = 13 ∨ m = 14 ∨ m = 15 ∨ m = 16 ∨ m = 17 ∨ m = 18 ∨ m = 19 ∨ m = 20 ∨ m = 21 ∨ m = 22 ∨ m = 23 ∨ m = 24 by omega) with w32 | w32 | w32 | w32 | w32 | w32 | w32 | w32 | w32 | w32 | w32 | w32 | w32 | w32 | w32 | w32 | w32 | w32 | w32 | w32 | w32 | w32 | w32 | w32 | w32
        · rw [w32]
          refine ⟨116, 148, rfl, by decide, ?_⟩
          exact l_write hV hL (by omega) hI (by omega) hgo
        · rw [w32]
          refine ⟨179, 211, rfl, by decide, ?_⟩
          exact l_wipe hV hL (by omega) hI (by omega) hgo
        · rw [w32]
          refine ⟨192, 224, rfl, by decide, ?_⟩
          exact l_fault hV hL (by omega) hI (by omega) hgo
        · rw [w32]
          refine ⟨205, 237, rfl, by decide, ?_⟩
          exact l_day hV hL (by omega) hI (by omega) hgo
        · rw [w32]
          refine ⟨218, 250, rfl, by decide, ?_⟩
          exact l_about hV hL (by omega) hI (by omega) hgo
        · rw [w32]
          refine ⟨241, 273, rfl, by decide, ?_⟩
          exact l_at hV hL (by omega) hI (by omega) hgo
        · rw [w32]
          refine ⟨264, 296, rfl, by decide, ?_⟩
          exact l_far hV hL (by omega) hI (by omega) hgo
        · rw [w32]
          refine ⟨297, 329, rfl, by decide, ?_⟩
          exact l_errand hV hL (by omega) hI (by omega) hgo
        · rw [w32]
          refine ⟨330, 362, rfl, by decide, ?_⟩
          exact l_walk hV hL (by omega) hI (by omega) hgo
        · rw [w32]
          refine ⟨363, 395, rfl, by decide, ?_⟩
          exact l_carry hV hL (by omega) hI (by omega) hgo
        · rw [w32]
          refine ⟨396, 428, rfl, by decide, ?_⟩
          exact l_done hV hL (by omega) hI (by omega) hgo
        · rw [w32]
          refine ⟨429, 461, rfl, by decide, ?_⟩
          exact l_loan hV hL (by omega) hI (by omega) hgo
        · rw [w32]
          refine ⟨478, 510, rfl, by decide, ?_⟩
          exact l_back hV hL (by omega) hI (by omega) hgo
        · rw [w32]
          refine ⟨491, 523, rfl, by decide, ?_⟩
          exact l_undo hV hL (by omega) hI (by omega) hgo
        · rw [w32]
          refine ⟨504, 536, rfl, by decide, ?_⟩
          exact l_judge hV hL (by omega) hI (by omega) hgo
        · rw [w32]
          refine ⟨547, 579, rfl, by decide, ?_⟩
          exact l_tour hV hL (by omega) hI (by omega) hgo
        · rw [w32]
          refine ⟨580, 612, rfl, by decide, ?_⟩
          exact l_plan hV hL (by omega) hI (by omega) hgo
        · rw [w32]
          refine ⟨603, 635, rfl, by decide, ?_⟩
          exact l_live hV hL (by omega) hI (by omega) hgo
        · rw [w32]
          refine ⟨616, 648, rfl, by decide, ?_⟩
          exact l_byTurns hV hL (by omega) hI (by omega) hgo
        · rw [w32]
          refine ⟨639, 671, rfl, by decide, ?_⟩
          exact l_ledger hV hL (by omega) hI (by omega) hgo
        · rw [w32]
          refine ⟨683, 715, rfl, by decide, ?_⟩
          exact l_ends hV hL (by omega) hI (by omega) hgo
        · rw [w32]
          refine ⟨726, 758, rfl, by decide, ?_⟩
          exact l_chance hV hL (by omega) hI (by omega) hgo
        · rw [w32]
          refine ⟨786, 818, rfl, by decide, ?_⟩
          exact l_spare hV hL (by omega) hI (by omega) hgo
        · rw [w32]
          refine ⟨819, 851, rfl, by decide, ?_⟩
          exact l_keep hV hL (by omega) hI (by omega) hgo
        · rw [w32]
          refine ⟨842, 874, rfl, by decide, ?_⟩
          exact l_again hV hL (by omega) hI (by omega) hgo
