/-! THE LAW: pairs of calls, walked: 2 -/
set_option maxRecDepth 20000 in
theorem l_walk {V : Nat → zI → zJ → zP → Nat → List Value → List Value → Prop} {post : Option Value → zI → zJ → zP → Prop} {L : Nat} {xs : Nat → Int32} (hV : z_Cl RL cL_law 11 108 false (some (L, xs)) (some .boolean) post V) (hL : L ≤ 2048) {b : Int} (hb : 999 ≤ b ∧ b + 109 ≤ 90000) {I : zI} {J : zJ} {P : zP} (h : lInv b I P) {f : UInt32} {i : Int} (hi : 0 ≤ i ∧ i + 4 ≤ L) (hgo : ∀ (I : zI) (J : zJ) (P : zP), lInv (b + 109) I P → V 108 I J P 897 [.float f, .ref 0, .ref 78, .int (iI i)] []) : V 108 I J P 362 [.float f, .ref 0, .ref 78, .int (iI i)] [] := by
  obtain ⟨d, d1, n, e, tl, st, r, c, nx, T, F, W, U, K, S, H, FU, SL, hC, hM, hB⟩ := h
  obtain ⟨hnb, he6, htb, hTb, hsb, hcb, hxb, hFk, hFb, ⟨hWb, hWb5⟩, hUb, hKb, hFUb, hGS, hHg, hSg⟩ := id hB
  obtain ⟨hK, q10, q11, hdd, hRw, ⟨hn, hst, hr, he⟩, ⟨hF, hW, hU, hKk⟩, hdf, hS, ⟨hc, hnx⟩, hring, hFU, hSL, htl, hT⟩ := id hC
  obtain ⟨W0, U0, K0, hW0, hU0, hK0, hW0b, hU0b, hK0b⟩ := id hdf
  obtain ⟨dn, dh, hg, hS2⟩ := id hGS
  refine r_aload_n hV dL_law_362 rfl rfl ?_
  refine r_aload_n hV dL_law_363 rfl rfl ?_
  refine r_iload_n hV dL_law_364 rfl ?_
  refine s_iconst hV dL_law_365 (1) (by decide) ?_
  refine s_iadd hV dL_law_366 ?_
  refine s_scl hV dL_law_367 hL (by omega) (by omega) ?_
  refine r_aload_n hV dL_law_368 rfl rfl ?_
  refine r_iload_n hV dL_law_369 rfl ?_
  refine s_iconst hV dL_law_370 (2) (by decide) ?_
  refine s_iadd hV dL_law_371 ?_
  refine s_scl hV dL_law_372 hL (by omega) (by omega) ?_
  refine r_iv2 hV dL_law_373 mv_L_51 (m_walk I J P d d1 hK q10 q11 hdd n hn hnb F hF hFb S hS dn dh hg c nx hc hnx hcb hxb _ (z_rg_of _) _ (z_rg_of _)) (by first | decide | omega) (by first | rfl | assumption) (by decide) (Nat.le_refl _) (Nat.le_of_ble_eq_true rfl) (fun v I1 J1 P1 hq => ?_)
  obtain ⟨⟨x, rfl⟩, hkp⟩ : lSh I P v I1 P1 := sh_ite hq (fun _ => sh_no) (fun c1 hq => sh_ite hq (fun _ => sh_no) (fun c1 hq => sh_act hxb hq))
  show V 108 I1 J1 P1 _ _ [.int x]
  have hM1 := lM_kp hM hkp
  obtain ⟨mK1, mI1, mB1, mL1⟩ := id hM1
  refine r_aload_n hV dL_law_376 rfl rfl ?_
  refine r_aload_n hV dL_law_377 rfl rfl ?_
  refine r_iload_n hV dL_law_378 rfl ?_
  refine s_iconst hV dL_law_379 (1) (by decide) ?_
  refine s_iadd hV dL_law_380 ?_
  refine s_scl hV dL_law_381 hL (by omega) (by omega) ?_
  refine r_aload_n hV dL_law_382 rfl rfl ?_
  refine r_iload_n hV dL_law_383 rfl ?_
  refine s_iconst hV dL_law_384 (2) (by decide) ?_
  refine s_iadd hV dL_law_385 ?_
  refine s_scl hV dL_law_386 hL (by omega) (by omega) ?_
  refine r_iv2 hV dL_law_387 mv_L_54 (n_walk I1 J1 P1 mK1 tl st r c n e T F W U K S mI1 hnb hFk.1 dn dh hg hcb H mB1 _ (z_rg_of _) _ (z_rg_of _)) (by first | decide | omega) (by first | rfl | assumption) (by decide) (Nat.le_refl _) (Nat.le_of_ble_eq_true rfl) (fun v2 I2 J2 P2 hq2 => ?_)
  obtain ⟨rfl, hI⟩ := pr_walk hb hC hB hg hS2 hq hM1 hq2
  show V 108 I2 J2 P2 _ _ [.int x, .int x]
  exact l_eqI hV dL_law_390 (by decide) (hgo _ _ _ hI)
set_option maxRecDepth 20000 in
theorem l_carry {V : Nat → zI → zJ → zP → Nat → List Value → List Value → Prop} {post : Option Value → zI → zJ → zP → Prop} {L : Nat} {xs : Nat → Int32} (hV : z_Cl RL cL_law 11 108 false (some (L, xs)) (some .boolean) post V) (hL : L ≤ 2048) {b : Int} (hb : 999 ≤ b ∧ b + 109 ≤ 90000) {I : zI} {J : zJ} {P : zP} (h : lInv b I P) {f : UInt32} {i : Int} (hi : 0 ≤ i ∧ i + 4 ≤ L) (hgo : ∀ (I : zI) (J : zJ) (P : zP), lInv (b + 109) I P → V 108 I J P 897 [.float f, .ref 0, .ref 78, .int (iI i)] []) : V 108 I J P 395 [.float f, .ref 0, .ref 78, .int (iI i)] [] := by
  obtain ⟨d, d1, n, e, tl, st, r, c, nx, T, F, W, U, K, S, H, FU, SL, hC, hM, hB⟩ := h
  obtain ⟨hnb, he6, htb, hTb, hsb, hcb, hxb, hFk, hFb, ⟨hWb, hWb5⟩, hUb, hKb, hFUb, hGS, hHg, hSg⟩ := id hB
  obtain ⟨hK, q10, q11, hdd, hRw, ⟨hn, hst, hr, he⟩, ⟨hF, hW, hU, hKk⟩, hdf, hS, ⟨hc, hnx⟩, hring, hFU, hSL, htl, hT⟩ := id hC
  obtain ⟨W0, U0, K0, hW0, hU0, hK0, hW0b, hU0b, hK0b⟩ := id hdf
  obtain ⟨dn, dh, hg, hS2⟩ := id hGS
  refine r_aload_n hV dL_law_395 rfl rfl ?_
  refine r_aload_n hV dL_law_396 rfl rfl ?_
  refine r_iload_n hV dL_law_397 rfl ?_
  refine s_iconst hV dL_law_398 (1) (by decide) ?_
  refine s_iadd hV dL_law_399 ?_
  refine s_scl hV dL_law_400 hL (by omega) (by omega) ?_
  refine r_aload_n hV dL_law_401 rfl rfl ?_
  refine r_iload_n hV dL_law_402 rfl ?_
  refine s_iconst hV dL_law_403 (2) (by decide) ?_
  refine s_iadd hV dL_law_404 ?_
  refine s_scl hV dL_law_405 hL (by omega) (by omega) ?_
  refine r_iv2 hV dL_law_406 mv_L_55 (m_carry I J P d d1 hK q10 q11 hdd n hn hnb F hF hFb S hS dn dh hg c nx hc hnx hcb hxb _ (z_rg_of _) _ (z_rg_of _)) (by first | decide | omega) (by first | rfl | assumption) (by decide) (Nat.le_refl _) (Nat.le_of_ble_eq_true rfl) (fun v I1 J1 P1 hq => ?_)
  obtain ⟨⟨x, rfl⟩, hkp⟩ : lSh I P v I1 P1 := sh_ite hq (fun _ => sh_no) (fun c1 hq => sh_ite hq (fun _ => sh_no) (fun c1 hq => sh_act hxb hq))
  show V 108 I1 J1 P1 _ _ [.int x]
  have hM1 := lM_kp hM hkp
  obtain ⟨mK1, mI1, mB1, mL1⟩ := id hM1
  refine r_aload_n hV dL_law_409 rfl rfl ?_
  refine r_aload_n hV dL_law_410 rfl rfl ?_
  refine r_iload_n hV dL_law_411 rfl ?_
  refine s_iconst hV dL_law_412 (1) (by decide) ?_
  refine s_iadd hV dL_law_413 ?_
  refine s_scl hV dL_law_414 hL (by omega) (by omega) ?_
  refine r_aload_n hV dL_law_415 rfl rfl ?_
  refine r_iload_n hV dL_law_416 rfl ?_
  refine s_iconst hV dL_law_417 (2) (by decide) ?_
  refine s_iadd hV dL_law_418 ?_
  refine s_scl hV dL_law_419 hL (by omega) (by omega) ?_
  refine r_iv2 hV dL_law_420 mv_L_58 (n_carry I1 J1 P1 mK1 tl st r c n e T F W U K S mI1 hnb hFk.1 dn dh hg hcb H mB1 _ (z_rg_of _) _ (z_rg_of _)) (by first | decide | omega) (by first | rfl | assumption) (by decide) (Nat.le_refl _) (Nat.le_of_ble_eq_true rfl) (fun v2 I2 J2 P2 hq2 => ?_)
  obtain ⟨rfl, hI⟩ := pr_carry hb hC hB hg hS2 hq hM1 hq2
  show V 108 I2 J2 P2 _ _ [.int x, .int x]
  exact l_eqI hV dL_law_423 (by decide) (hgo _ _ _ hI)
set_option maxRecDepth 20000 in
theorem l_done {V : Nat → zI → zJ → zP → Nat → List Value → List Value → Prop} {post : Option Value → zI → zJ → zP → Prop} {L : Nat} {xs : Nat → Int32} (hV : z_Cl RL cL_law 11 108 false (some (L, xs)) (some .boolean) post V) (hL : L ≤ 2048) {b : Int} (hb : 999 ≤ b ∧ b + 109 ≤ 90000) {I : zI} {J : zJ} {P : zP} (h : lInv b I P) {f : UInt32} {i : Int} (hi : 0 ≤ i ∧ i + 4 ≤ L) (hgo : ∀ (I : zI) (J : zJ) (P : zP), lInv (b + 109) I P → V 108 I J P 897 [.float f, .ref 0, .ref 78, .int (iI i)] []) : V 108 I J P 428 [.float f, .ref 0, .ref 78, .int (iI i)] [] := by
  obtain ⟨d, d1, n, e, tl, st, r, c, nx, T, F, W, U, K, S, H, FU, SL, hC, hM, hB⟩ := h
  obtain ⟨hnb, he6, htb, hTb, hsb, hcb, hxb, hFk, hFb, ⟨hWb, hWb5⟩, hUb, hKb, hFUb, hGS, hHg, hSg⟩ := id hB
  obtain ⟨hK, q10, q11, hdd, hRw, ⟨hn, hst, hr, he⟩, ⟨hF, hW, hU, hKk⟩, hdf, hS, ⟨hc, hnx⟩, hring, hFU, hSL, htl, hT⟩ := id hC
  obtain ⟨W0, U0, K0, hW0, hU0, hK0, hW0b, hU0b, hK0b⟩ := id hdf
  obtain ⟨dn, dh, hg, hS2⟩ := id hGS
  refine r_aload_n hV dL_law_428 rfl rfl ?_
  refine r_aload_n hV dL_law_429 rfl rfl ?_
  refine r_iload_n hV dL_law_430 rfl ?_
  refine s_iconst hV dL_law_431 (1) (by decide) ?_
  refine s_iadd hV dL_law_432 ?_
  refine s_scl hV dL_law_433 hL (by omega) (by omega) ?_
  refine r_aload_n hV dL_law_434 rfl rfl ?_
  refine r_iload_n hV dL_law_435 rfl ?_
  refine s_iconst hV dL_law_436 (2) (by decide) ?_
  refine s_iadd hV dL_law_437 ?_
  refine s_scl hV dL_law_438 hL (by omega) (by omega) ?_
  refine r_iv2 hV dL_law_439 mv_L_59 (m_done I J P d d1 hK q10 q11 hdd n hnb e he he6 W hW hWb U hU hUb K hKk hKb S hS dn dh hg c nx hc hnx hcb hxb _ (z_rg_of _) _ (z_rg_of _)) (by first | decide | omega) (by first | rfl | assumption) (by decide) (Nat.le_refl _) (Nat.le_of_ble_eq_true rfl) (fun v I1 J1 P1 hq => ?_)
  obtain ⟨⟨x, rfl⟩, hkp⟩ : lSh I P v I1 P1 := sh_ite hq (fun _ => sh_no) (fun c1 hq => sh_ite hq (fun _ => sh_no) (fun c1 hq => sh_act hxb hq))
  show V 108 I1 J1 P1 _ _ [.int x]
  have hM1 := lM_kp hM hkp
  obtain ⟨mK1, mI1, mB1, mL1⟩ := id hM1
  refine r_aload_n hV dL_law_442 rfl rfl ?_
  refine r_aload_n hV dL_law_443 rfl rfl ?_
  refine r_iload_n hV dL_law_444 rfl ?_
  refine s_iconst hV dL_law_445 (1) (by decide) ?_
  refine s_iadd hV dL_law_446 ?_
  refine s_scl hV dL_law_447 hL (by omega) (by omega) ?_
  refine r_aload_n hV dL_law_448 rfl rfl ?_
  refine r_iload_n hV dL_law_449 rfl ?_
  refine s_iconst hV dL_law_450 (2) (by decide) ?_
  refine s_iadd hV dL_law_451 ?_
  refine s_scl hV dL_law_452 hL (by omega) (by omega) ?_
  refine r_iv2 hV dL_law_453 mv_L_62 (n_done I1 J1 P1 mK1 tl st r c n e T F W U K S mI1 hnb he6 hWb hKb dn dh hg hcb H mB1 _ (z_rg_of _) _ (z_rg_of _)) (by first | decide | omega) (by first | rfl | assumption) (by decide) (Nat.le_refl _) (Nat.le_of_ble_eq_true rfl) (fun v2 I2 J2 P2 hq2 => ?_)
  obtain ⟨rfl, hI⟩ := pr_done hb hC hB hg hS2 hq hM1 hq2
  show V 108 I2 J2 P2 _ _ [.int x, .int x]
  exact l_eqI hV dL_law_456 (by decide) (hgo _ _ _ hI)
set_option maxRecDepth 20000 in
theorem l_loan {V : Nat → zI → zJ → zP → Nat → List Value → List Value → Prop} {post : Option Value → zI → zJ → zP → Prop} {L : Nat} {xs : Nat → Int32} (hV : z_Cl RL cL_law 11 108 false (some (L, xs)) (some .boolean) post V) (hL : L ≤ 2048) {b : Int} (hb : 999 ≤ b ∧ b + 109 ≤ 90000) {I : zI} {J : zJ} {P : zP} (h : lInv b I P) {f : UInt32} {i : Int} (hi : 0 ≤ i ∧ i + 4 ≤ L) (hgo : ∀ (I : zI) (J : zJ) (P : zP), lInv (b + 109) I P → V 108 I J P 897 [.float f, .ref 0, .ref 78, .int (iI i)] []) : V 108 I J P 461 [.float f, .ref 0, .ref 78, .int (iI i)] [] := by
  obtain ⟨d, d1, n, e, tl, st, r, c, nx, T, F, W, U, K, S, H, FU, SL, hC, hM, hB⟩ := h
  obtain ⟨hnb, he6, htb, hTb, hsb, hcb, hxb, hFk, hFb, ⟨hWb, hWb5⟩, hUb, hKb, hFUb, hGS, hHg, hSg⟩ := id hB
  obtain ⟨hK, q10, q11, hdd, hRw, ⟨hn, hst, hr, he⟩, ⟨hF, hW, hU, hKk⟩, hdf, hS, ⟨hc, hnx⟩, hring, hFU, hSL, htl, hT⟩ := id hC
  obtain ⟨W0, U0, K0, hW0, hU0, hK0, hW0b, hU0b, hK0b⟩ := id hdf
  obtain ⟨dn, dh, hg, hS2⟩ := id hGS
  refine r_aload_n hV dL_law_461 rfl rfl ?_
  refine r_aload_n hV dL_law_462 rfl rfl ?_
  refine r_iload_n hV dL_law_463 rfl ?_
  refine s_iconst hV dL_law_464 (1) (by decide) ?_
  refine s_iadd hV dL_law_465 ?_
  refine s_scl hV dL_law_466 hL (by omega) (by omega) ?_
  refine r_aload_n hV dL_law_467 rfl rfl ?_
  refine r_iload_n hV dL_law_468 rfl ?_
  refine s_iconst hV dL_law_469 (2) (by decide) ?_
  refine s_iadd hV dL_law_470 ?_
  refine s_scl hV dL_law_471 hL (by omega) (by omega) ?_
  have J480 : ∀ y : Int, (((xs (i + 2).toNat).toInt) = 0 ∧ y = 0) ∨ (¬ ((xs (i + 2).toNat).toInt) = 0 ∧ y = 1) → V 108 I J P 480 [.float f, .ref 0, .ref 78, .int (iI i)] [.int (iI y), .int (iI ((xs (i + 1).toNat).toInt)), .ref 0] := by
    intro y hy
    have hy01 : y = 0 ∨ y = 1 := by omega
    have hyr : z_rg y := by unfold z_rg; omega
    refine r_iv2 hV dL_law_480 mv_L_63 (m_loan I J P d d1 hK q10 q11 hdd n S hS dn dh hg c nx hc hnx hcb hxb _ (z_rg_of _) y hyr hy01) (by first | decide | omega) (by first | rfl | assumption) (by decide) (Nat.le_refl _) (Nat.le_of_ble_eq_true rfl) (fun v I1 J1 P1 hq => ?_)
    obtain ⟨⟨x, rfl⟩, hkp⟩ : lSh I P v I1 P1 := sh_ite hq (fun _ => sh_no) (fun c1 hq => sh_ite hq (fun _ => sh_no) (fun c1 hq => sh_ite hq (fun _ => sh_no) (fun c1 hq => sh_act hxb hq)))
    show V 108 I1 J1 P1 _ _ [.int x]
    have hM1 := lM_kp hM hkp
    obtain ⟨mK1, mI1, mB1, mL1⟩ := id hM1
    refine r_aload_n hV dL_law_483 rfl rfl ?_
    refine r_aload_n hV dL_law_484 rfl rfl ?_
    refine r_iload_n hV dL_law_485 rfl ?_
    refine s_iconst hV dL_law_486 (1) (by decide) ?_
    refine s_iadd hV dL_law_487 ?_
    refine s_scl hV dL_law_488 hL (by omega) (by omega) ?_
    refine r_aload_n hV dL_law_489 rfl rfl ?_
    refine r_iload_n hV dL_law_490 rfl ?_
    refine s_iconst hV dL_law_491 (2) (by decide) ?_
    refine s_iadd hV dL_law_492 ?_
    refine s_scl hV dL_law_493 hL (by omega) (by omega) ?_
    have J502 : V 108 I1 J1 P1 502 [.float f, .ref 0, .ref 78, .int (iI i)] [.int (iI y), .int (iI ((xs (i + 1).toNat).toInt)), .ref 78, .int x] := by
      skip
      refine r_iv2 hV dL_law_502 mv_L_67 (n_loan I1 J1 P1 mK1 tl st r c n e T F W U K S mI1 dn dh hg hcb H mB1 _ (z_rg_of _) y hyr hy01) (by first | decide | omega) (by first | rfl | assumption) (by decide) (Nat.le_refl _) (Nat.le_of_ble_eq_true rfl) (fun v2 I2 J2 P2 hq2 => ?_)
      obtain ⟨rfl, hI⟩ := pr_loan hb hC hB hg hS2 hy01 hq hM1 hq2
      show V 108 I2 J2 P2 _ _ [.int x, .int x]
      exact l_eqI hV dL_law_505 (by decide) (hgo _ _ _ hI)
    refine s_if_eq hV 501 dL_law_494 (by decide) (z_rg_of _) (fun c494 => ?_) (fun c494 => ?_)
    · refine s_iconst hV dL_law_501 (0) (by decide) ?_
      first | (rw [show (y : Int) = 0 by omega] at J502; exact J502) | (rw [show (y : Int) = 1 by omega] at J502; exact J502)
    · refine s_iconst hV dL_law_497 (1) (by decide) ?_
      refine r_goto hV 502 dL_law_498 (by decide) ?_
      first | (rw [show (y : Int) = 0 by omega] at J502; exact J502) | (rw [show (y : Int) = 1 by omega] at J502; exact J502)
  refine s_if_eq hV 479 dL_law_472 (by decide) (z_rg_of _) (fun c472 => ?_) (fun c472 => ?_)
  · refine s_iconst hV dL_law_479 (0) (by decide) ?_
    first | exact J480 0 (Or.inl ⟨c472, rfl⟩) | exact J480 1 (Or.inr ⟨c472, rfl⟩)
  · refine s_iconst hV dL_law_475 (1) (by decide) ?_
    refine r_goto hV 480 dL_law_476 (by decide) ?_
    first | exact J480 0 (Or.inl ⟨c472, rfl⟩) | exact J480 1 (Or.inr ⟨c472, rfl⟩)
set_option maxRecDepth 20000 in
theorem l_back {V : Nat → zI → zJ → zP → Nat → List Value → List Value → Prop} {post : Option Value → zI → zJ → zP → Prop} {L : Nat} {xs : Nat → Int32} (hV : z_Cl RL cL_law 11 108 false (some (L, xs)) (some .boolean) post V) (hL : L ≤ 2048) {b : Int} (hb : 999 ≤ b ∧ b + 109 ≤ 90000) {I : zI} {J : zJ} {P : zP} (h : lInv b I P) {f : UInt32} {i : Int} (hi : 0 ≤ i ∧ i + 4 ≤ L) (hgo : ∀ (I : zI) (J : zJ) (P : zP), lInv (b + 109) I P → V 108 I J P 897 [.float f, .ref 0, .ref 78, .int (iI i)] []) : V 108 I J P 510 [.float f, .ref 0, .ref 78, .int (iI i)] [] := by
  obtain ⟨d, d1, n, e, tl, st, r, c, nx, T, F, W, U, K, S, H, FU, SL, hC, hM, hB⟩ := h
  obtain ⟨hnb, he6, htb, hTb, hsb, hcb, hxb, hFk, hFb, ⟨hWb, hWb5⟩, hUb, hKb, hFUb, hGS, hHg, hSg⟩ := id hB
  obtain ⟨hK, q10, q11, hdd, hRw, ⟨hn, hst, hr, he⟩, ⟨hF, hW, hU, hKk⟩, hdf, hS, ⟨hc, hnx⟩, hring, hFU, hSL, htl, hT⟩ := id hC
  obtain ⟨W0, U0, K0, hW0, hU0, hK0, hW0b, hU0b, hK0b⟩ := id hdf
  obtain ⟨dn, dh, hg, hS2⟩ := id hGS
  refine r_aload_n hV dL_law_510 rfl rfl ?_
  refine r_iv0 hV dL_law_511 mv_L_68 (m_back I J P d d1 hK q10 q11 hdd n S hS dn dh hg c nx hc hnx hcb hxb) (by first | decide | omega) (by first | rfl | assumption) (by decide) (Nat.le_refl _) (Nat.le_of_ble_eq_true rfl) (fun v I1 J1 P1 hq => ?_)
  obtain ⟨⟨x, rfl⟩, hkp⟩ : lSh I P v I1 P1 := sh_ite hq (fun _ => sh_no) (fun c1 hq => sh_act hxb hq)
  show V 108 I1 J1 P1 _ _ [.int x]
  have hM1 := lM_kp hM hkp
  obtain ⟨mK1, mI1, mB1, mL1⟩ := id hM1
  refine r_aload_n hV dL_law_514 rfl rfl ?_
  refine r_iv0 hV dL_law_515 mv_L_71 (n_back I1 J1 P1 mK1 tl st r c n e T F W U K S mI1 dn dh hg hcb H mB1) (by first | decide | omega) (by first | rfl | assumption) (by decide) (Nat.le_refl _) (Nat.le_of_ble_eq_true rfl) (fun v2 I2 J2 P2 hq2 => ?_)
  obtain ⟨rfl, hI⟩ := pr_back hb hC hB hg hS2 hq hM1 hq2
  show V 108 I2 J2 P2 _ _ [.int x, .int x]
  exact l_eqI hV dL_law_518 (by decide) (hgo _ _ _ hI)
set_option maxRecDepth 20000 in
theorem l_undo {V : Nat → zI → zJ → zP → Nat → List Value → List Value → Prop} {post : Option Value → zI → zJ → zP → Prop} {L : Nat} {xs : Nat → Int32} (hV : z_Cl RL cL_law 11 108 false (some (L, xs)) (some .boolean) post V) (hL : L ≤ 2048) {b : Int} (hb : 999 ≤ b ∧ b + 109 ≤ 90000) {I : zI} {J : zJ} {P : zP} (h : lInv b I P) {f : UInt32} {i : Int} (hi : 0 ≤ i ∧ i + 4 ≤ L) (hgo : ∀ (I : zI) (J : zJ) (P : zP), lInv (b + 109) I P → V 108 I J P 897 [.float f, .ref 0, .ref 78, .int (iI i)] []) : V 108 I J P 523 [.float f, .ref 0, .ref 78, .int (iI i)] [] := by
  obtain ⟨d, d1, n, e, tl, st, r, c, nx, T, F, W, U, K, S, H, FU, SL, hC, hM, hB⟩ := h
  obtain ⟨hnb, he6, htb, hTb, hsb, hcb, hxb, hFk, hFb, ⟨hWb, hWb5⟩, hUb, hKb, hFUb, hGS, hHg, hSg⟩ := id hB
  obtain ⟨hK, q10, q11, hdd, hRw, ⟨hn, hst, hr, he⟩, ⟨hF, hW, hU, hKk⟩, hdf, hS, ⟨hc, hnx⟩, hring, hFU, hSL, htl, hT⟩ := id hC
  obtain ⟨W0, U0, K0, hW0, hU0, hK0, hW0b, hU0b, hK0b⟩ := id hdf
  obtain ⟨dn, dh, hg, hS2⟩ := id hGS
  refine r_aload_n hV dL_law_523 rfl rfl ?_
  refine r_iv0 hV dL_law_524 mv_L_72 (m_undo I J P d d1 hK q10 q11 hdd c nx hc hnx hcb hxb (H 0) (fun h => by have := hring 0 (by omega); rwa [show nx - 1 - ((0 : Nat) : Int) = nx - 1 by omega] at this)) (by first | decide | omega) (by first | rfl | assumption) (by decide) (Nat.le_refl _) (Nat.le_of_ble_eq_true rfl) (fun v I1 J1 P1 hq => ?_)
  obtain ⟨⟨x, rfl⟩, hkp⟩ : lSh I P v I1 P1 := sh_ite hq (fun _ => sh_no) (fun c1 hq => sh_undo hq)
  show V 108 I1 J1 P1 _ _ [.int x]
  have hM1 := lM_kp hM hkp
  obtain ⟨mK1, mI1, mB1, mL1⟩ := id hM1
  refine r_aload_n hV dL_law_527 rfl rfl ?_
  refine r_iv0 hV dL_law_528 mv_L_75 (n_undo I1 J1 P1 mK1 tl st r c n e T F W U K S mI1 hcb H mB1) (by first | decide | omega) (by first | rfl | assumption) (by decide) (Nat.le_refl _) (Nat.le_of_ble_eq_true rfl) (fun v2 I2 J2 P2 hq2 => ?_)
  obtain ⟨rfl, hI⟩ := pr_undo hb hC hB hq hM1 hq2
  show V 108 I2 J2 P2 _ _ [.int x, .int x]
  exact l_eqI hV dL_law_531 (by decide) (hgo _ _ _ hI)
set_option maxRecDepth 20000 in
theorem l_judge {V : Nat → zI → zJ → zP → Nat → List Value → List Value → Prop} {post : Option Value → zI → zJ → zP → Prop} {L : Nat} {xs : Nat → Int32} (hV : z_Cl RL cL_law 11 108 false (some (L, xs)) (some .boolean) post V) (hL : L ≤ 2048) {b : Int} (hb : 999 ≤ b ∧ b + 109 ≤ 90000) {I : zI} {J : zJ} {P : zP} (h : lInv b I P) {f : UInt32} {i : Int} (hi : 0 ≤ i ∧ i + 4 ≤ L) (hgo : ∀ (I : zI) (J : zJ) (P : zP), lInv (b + 109) I P → V 108 I J P 897 [.float f, .ref 0, .ref 78, .int (iI i)] []) : V 108 I J P 536 [.float f, .ref 0, .ref 78, .int (iI i)] [] := by
  obtain ⟨d, d1, n, e, tl, st, r, c, nx, T, F, W, U, K, S, H, FU, SL, hC, hM, hB⟩ := h
  obtain ⟨hnb, he6, htb, hTb, hsb, hcb, hxb, hFk, hFb, ⟨hWb, hWb5⟩, hUb, hKb, hFUb, hGS, hHg, hSg⟩ := id hB
  obtain ⟨hK, q10, q11, hdd, hRw, ⟨hn, hst, hr, he⟩, ⟨hF, hW, hU, hKk⟩, hdf, hS, ⟨hc, hnx⟩, hring, hFU, hSL, htl, hT⟩ := id hC
  obtain ⟨W0, U0, K0, hW0, hU0, hK0, hW0b, hU0b, hK0b⟩ := id hdf
  obtain ⟨dn, dh, hg, hS2⟩ := id hGS
  refine r_aload_n hV dL_law_536 rfl rfl ?_
  refine r_aload_n hV dL_law_537 rfl rfl ?_
  refine r_iload_n hV dL_law_538 rfl ?_
  refine s_iconst hV dL_law_539 (1) (by decide) ?_
  refine s_iadd hV dL_law_540 ?_
  refine s_scl hV dL_law_541 hL (by omega) (by omega) ?_
  refine r_aload_n hV dL_law_542 rfl rfl ?_
  refine r_iload_n hV dL_law_543 rfl ?_
  refine s_iconst hV dL_law_544 (2) (by decide) ?_
  refine s_iadd hV dL_law_545 ?_
  refine s_scl hV dL_law_546 hL (by omega) (by omega) ?_
  refine r_aload_n hV dL_law_547 rfl rfl ?_
  refine r_iload_n hV dL_law_548 rfl ?_
  refine s_iconst hV dL_law_549 (3) (by decide) ?_
  refine s_iadd hV dL_law_550 ?_
  refine s_scl hV dL_law_551 hL (by omega) (by omega) ?_
  refine r_iv3 hV dL_law_552 mv_L_76 (m_judge I J P d d1 hK q10 q11 hdd n hn hnb F hF hFb S hS dn dh hg _ (z_rg_of _) _ (z_rg_of _) _ (z_rg_of _)) (by first | decide | omega) (by first | rfl | assumption) (by decide) (Nat.le_refl _) (Nat.le_of_ble_eq_true rfl) (fun v I1 J1 P1 hq => ?_)
  obtain ⟨⟨x, rfl⟩, hkp⟩ : lSh I P v I1 P1 := sh_told hq
  show V 108 I1 J1 P1 _ _ [.int x]
  have hM1 := lM_kp hM hkp
  obtain ⟨mK1, mI1, mB1, mL1⟩ := id hM1
  refine r_aload_n hV dL_law_555 rfl rfl ?_
  refine r_aload_n hV dL_law_556 rfl rfl ?_
  refine r_iload_n hV dL_law_557 rfl ?_
  refine s_iconst hV dL_law_558 (1) (by decide) ?_
  refine s_iadd hV dL_law_559 ?_
  refine s_scl hV dL_law_560 hL (by omega) (by omega) ?_
  refine r_aload_n hV dL_law_561 rfl rfl ?_
  refine r_iload_n hV dL_law_562 rfl ?_
  refine s_iconst hV dL_law_563 (2) (by decide) ?_
  refine s_iadd hV dL_law_564 ?_
  refine s_scl hV dL_law_565 hL (by omega) (by omega) ?_
  refine r_aload_n hV dL_law_566 rfl rfl ?_
  refine r_iload_n hV dL_law_567 rfl ?_
  refine s_iconst hV dL_law_568 (3) (by decide) ?_
  refine s_iadd hV dL_law_569 ?_
  refine s_scl hV dL_law_570 hL (by omega) (by omega) ?_
  refine r_iv3 hV dL_law_571 mv_L_80 (n_judge I1 J1 P1 mK1 tl st r c n e T F W U K S mI1 hnb hFk.1 dn dh hg _ (z_rg_of _) _ (z_rg_of _) _ (z_rg_of _)) (by first | decide | omega) (by first | rfl | assumption) (by decide) (Nat.le_refl _) (Nat.le_of_ble_eq_true rfl) (fun v2 I2 J2 P2 hq2 => ?_)
  obtain ⟨rfl, hI⟩ := pr_judge hb hC hB hg hS2 hq hM1 hq2
  show V 108 I2 J2 P2 _ _ [.int x, .int x]
  exact l_eqI hV dL_law_574 (by decide) (hgo _ _ _ hI)
