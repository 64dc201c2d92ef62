/-- a Standing's cells: the object and its loans; its picture: her, him, left, done, done by him, how many loans, the loans -/
def zStn (P : zP) (s : Nat) : Prop := s + 1 < 78 ∧ zSH s = .inl 7 ∧ zSH (s + 1) = .inr (.int, 8) ∧ P s 6 = some (s + 1)
def cSt (I : zI) (s : Nat) (S : Int → Int) : Prop := z_ar I s 6 S ∧ z_ar I (s + 1) 8 (fun z => S (6 + z))
def q_st (I : zI) (J : zJ) (P : zP) (s : Nat) (S : Int → Int) (v : Option Value) (I1 : zI) (J1 : zJ) (P1 : zP) : Prop := v = none ∧ J1 = J ∧ P1 = P ∧ cSt I1 s S ∧ ∀ q, q ≠ s → q ≠ s + 1 → I1 q = I q
theorem cSt_fr {I I1 : zI} {s : Nat} {S : Int → Int} (h : cSt I s S) (e : I1 s = I s) (e1 : I1 (s + 1) = I (s + 1)) : cSt I1 s S := ⟨z_ar_fr h.1 e, z_ar_fr h.2 e1⟩
theorem cSt_eq {I : zI} {s : Nat} {S S' : Int → Int} (h : cSt I s S) (e : ∀ z, 0 ≤ z → z < 14 → S z = S' z) : cSt I s S' := ⟨z_ar_eq h.1 (fun z a b => e z a (by omega)), z_ar_eq h.2 (fun z a b => e (6 + z) (by omega) (by omega))⟩
theorem cSt_put {I : zI} {s : Nat} {S : Int → Int} (h : cSt I s S) (k : Nat) (x : Int) (hk : k < 6) : cSt (zu I s (zu (I s) k (iI x))) s (zup S k x) := by
  refine ⟨?_, fun z a b => ?_⟩
  · have := z_ar_set h.1 (z := (k : Int)) (by omega) x
    rwa [show ((k : Int)).toNat = k by omega] at this
  · rw [zu_n _ _ (by omega), h.2 z a b]
    simp only [zup]
    rw [if_neg (by omega)]
set_option maxRecDepth 20000 in
theorem m_placeOf (I : zI) (J : zJ) (P : zP) (s : Nat) (hs : zStn P s) (S : Int → Int) (hS : cSt I s S) (w : Int) (hw : z_rg w) : z_Fn 0 yX7_placeOf cX7_placeOf 2 (some .int) 108 108 I J P [.ref s, .int (iI w)] (some (.int (iI (if w = 0 then S 0 else S 1)))) (I) (J) (P) := by
  obtain ⟨sl, s0, s1, p6⟩ := id hs
  have hw1 := hw.1
  have hw2 := hw.2
  refine z_met false (by decide +kernel) (fun h => by cases h) (Nat.le_of_ble_eq_true rfl) (by first | decide | omega) (fun V hV => ?_)
  show V 108 I J P 0 [.ref s, .int (iI w)] []
  refine r_iload_n hV dX7_placeOf_0 rfl ?_
  refine s_if_ne hV 11 dX7_placeOf_1 (by decide) (by unfold z_rg; first | omega | (split <;> omega)) (fun c1 => ?_) (fun c1 => ?_)
  · refine r_aload_n hV dX7_placeOf_11 rfl rfl ?_
    refine r_getI hV dX7_placeOf_12 fl_X7_19 (by first | decide | omega) (by first | rfl | assumption) (hS.1 1 (by omega) (by omega)) ?_
    refine r_iret hV dX7_placeOf_15 rfl rfl ?_
    refine ⟨?_, rfl, rfl, rfl⟩
    first | rw [if_pos (by omega)] | rw [if_neg (by omega)]
  · refine r_aload_n hV dX7_placeOf_4 rfl rfl ?_
    refine r_getI hV dX7_placeOf_5 fl_X7_15 (by first | decide | omega) (by first | rfl | assumption) (hS.1 0 (by omega) (by omega)) ?_
    refine r_goto hV 15 dX7_placeOf_8 (by decide) ?_
    refine r_iret hV dX7_placeOf_15 rfl rfl ?_
    refine ⟨?_, rfl, rfl, rfl⟩
    first | rw [if_pos (by omega)] | rw [if_neg (by omega)]

set_option maxRecDepth 20000 in
theorem m_move (I : zI) (J : zJ) (P : zP) (s : Nat) (hs : zStn P s) (S : Int → Int) (hS : cSt I s S) (w : Int) (hw : w = 0 ∨ w = 1) (x : Int) : z_Sp 0 yX7_move cX7_move 3 none 108 108 I J P [.ref s, .int (iI w), .int (iI x)] (q_st I J P s (zup S w x)) := by
  obtain ⟨sl, s0, s1, p6⟩ := id hs
  refine z_met false (by decide +kernel) (fun h => by cases h) (Nat.le_of_ble_eq_true rfl) (by first | decide | omega) (fun V hV => ?_)
  show V 108 I J P 0 [.ref s, .int (iI w), .int (iI x)] []
  refine r_iload_n hV dX7_move_0 rfl ?_
  refine s_if_ne hV 12 dX7_move_1 (by decide) (by unfold z_rg; first | omega | (split <;> omega)) (fun c1 => ?_) (fun c1 => ?_)
  · refine r_aload_n hV dX7_move_12 rfl rfl ?_
    refine r_iload_n hV dX7_move_13 rfl ?_
    refine r_putI hV dX7_move_14 fl_X7_19 (pf_X7_19 _) (z_okI_int rfl _) (by first | decide | omega) (by first | rfl | assumption) ?_
    refine r_vret hV dX7_move_17 rfl rfl ?_
    first
      | (have e : w = 0 := by omega
         subst e
         exact ⟨rfl, rfl, rfl, cSt_put hS 0 x (by omega), fun q a b => by rw [zu_n _ _ a]⟩)
      | (have e : w = 1 := by omega
         subst e
         exact ⟨rfl, rfl, rfl, cSt_put hS 1 x (by omega), fun q a b => by rw [zu_n _ _ a]⟩)
  · refine r_aload_n hV dX7_move_4 rfl rfl ?_
    refine r_iload_n hV dX7_move_5 rfl ?_
    refine r_putI hV dX7_move_6 fl_X7_15 (pf_X7_15 _) (z_okI_int rfl _) (by first | decide | omega) (by first | rfl | assumption) ?_
    refine r_goto hV 17 dX7_move_9 (by decide) ?_
    refine r_vret hV dX7_move_17 rfl rfl ?_
    first
      | (have e : w = 0 := by omega
         subst e
         exact ⟨rfl, rfl, rfl, cSt_put hS 0 x (by omega), fun q a b => by rw [zu_n _ _ a]⟩)
      | (have e : w = 1 := by omega
         subst e
         exact ⟨rfl, rfl, rfl, cSt_put hS 1 x (by omega), fun q a b => by rw [zu_n _ _ a]⟩)

set_option maxRecDepth 20000 in
theorem m_isDone (I : zI) (J : zJ) (P : zP) (s : Nat) (hs : zStn P s) (S : Int → Int) (hS : cSt I s S) (dn : Nat) (hdn : S 3 = (dn : Int)) (hdl : dn < 64) (e : Nat) (he : e < 6) : z_Fn 0 yX7_isDone cX7_isDone 2 (some .boolean) 108 108 I J P [.ref s, .int (iI (e : Int))] (some (.int (iI (if dn.testBit e then 1 else 0)))) (I) (J) (P) := by
  obtain ⟨sl, s0, s1, p6⟩ := id hs
  refine z_met false (by decide +kernel) (fun h => by cases h) (Nat.le_of_ble_eq_true rfl) (by first | decide | omega) (fun V hV => ?_)
  show V 108 I J P 0 [.ref s, .int (iI (e : Int))] []
  refine r_aload_n hV dX7_isDone_0 rfl rfl ?_
  refine r_getI hV dX7_isDone_1 fl_X7_25 (by first | decide | omega) (by first | rfl | assumption) ((hS.1 3 (by omega) (by omega)).trans (by rw [hdn])) ?_
  refine r_iload_n hV dX7_isDone_4 rfl ?_
  refine s_ishr hV dX7_isDone_5 (zb_shr (by omega) (by omega)) ?_
  refine s_iconst hV dX7_isDone_6 (1) (by decide) ?_
  refine s_iand hV dX7_isDone_7 (by first | exact zb_one (by omega) (by omega) | exact zb_and (by omega) (by omega) | exact zb_df' (by omega) (by omega)) ?_
  refine s_iconst hV dX7_isDone_8 (1) (by decide) ?_
  refine s_icmp_ne hV 16 dX7_isDone_9 (by decide) (by unfold z_rg; first | omega | (split <;> omega)) (by unfold z_rg; first | omega | (split <;> omega)) (fun c9 => ?_) (fun c9 => ?_)
  · refine s_iconst hV dX7_isDone_16 (0) (by decide) ?_
    refine s_zret hV dX7_isDone_17 rfl (by omega) rfl ?_
    refine ⟨?_, rfl, rfl, rfl⟩
    by_cases hb : dn.testBit e = true <;> simp_all
  · refine s_iconst hV dX7_isDone_12 (1) (by decide) ?_
    refine r_goto hV 17 dX7_isDone_13 (by decide) ?_
    refine s_zret hV dX7_isDone_17 rfl (by omega) rfl ?_
    refine ⟨?_, rfl, rfl, rfl⟩
    by_cases hb : dn.testBit e = true <;> simp_all

set_option maxRecDepth 20000 in
theorem m_whoDid (I : zI) (J : zJ) (P : zP) (s : Nat) (hs : zStn P s) (S : Int → Int) (hS : cSt I s S) (dn : Nat) (hdn : S 4 = (dn : Int)) (hdl : dn < 64) (e : Nat) (he : e < 6) : z_Fn 0 yX7_whoDid cX7_whoDid 2 (some .int) 108 108 I J P [.ref s, .int (iI (e : Int))] (some (.int (iI (if dn.testBit e then 1 else 0)))) (I) (J) (P) := by
  obtain ⟨sl, s0, s1, p6⟩ := id hs
  refine z_met false (by decide +kernel) (fun h => by cases h) (Nat.le_of_ble_eq_true rfl) (by first | decide | omega) (fun V hV => ?_)
  show V 108 I J P 0 [.ref s, .int (iI (e : Int))] []
  refine r_aload_n hV dX7_whoDid_0 rfl rfl ?_
  refine r_getI hV dX7_whoDid_1 fl_X7_28 (by first | decide | omega) (by first | rfl | assumption) ((hS.1 4 (by omega) (by omega)).trans (by rw [hdn])) ?_
  refine r_iload_n hV dX7_whoDid_4 rfl ?_
  refine s_ishr hV dX7_whoDid_5 (zb_shr (by omega) (by omega)) ?_
  refine s_iconst hV dX7_whoDid_6 (1) (by decide) ?_
  refine s_iand hV dX7_whoDid_7 (by first | exact zb_one (by omega) (by omega) | exact zb_and (by omega) (by omega) | exact zb_df' (by omega) (by omega)) ?_
  refine s_iconst hV dX7_whoDid_8 (1) (by decide) ?_
  refine s_icmp_ne hV 16 dX7_whoDid_9 (by decide) (by unfold z_rg; first | omega | (split <;> omega)) (by unfold z_rg; first | omega | (split <;> omega)) (fun c9 => ?_) (fun c9 => ?_)
  · refine s_iconst hV dX7_whoDid_16 (0) (by decide) ?_
    refine r_iret hV dX7_whoDid_17 rfl rfl ?_
    refine ⟨?_, rfl, rfl, rfl⟩
    by_cases hb : dn.testBit e = true <;> simp_all
  · refine s_iconst hV dX7_whoDid_12 (1) (by decide) ?_
    refine r_goto hV 17 dX7_whoDid_13 (by decide) ?_
    refine r_iret hV dX7_whoDid_17 rfl rfl ?_
    refine ⟨?_, rfl, rfl, rfl⟩
    by_cases hb : dn.testBit e = true <;> simp_all

set_option maxRecDepth 20000 in
theorem m_markDone (I : zI) (J : zJ) (P : zP) (s : Nat) (hs : zStn P s) (S : Int → Int) (hS : cSt I s S) (dn : Nat) (hdn : S 3 = (dn : Int)) (hdl : dn < 64) (dh : Nat) (hdh : S 4 = (dh : Int)) (hhl : dh < 64) (w : Int) (hw : w = 0 ∨ w = 1) (e : Nat) (he : e < 6) : z_Sp 0 yX7_markDone cX7_markDone 3 none 108 108 I J P [.ref s, .int (iI w), .int (iI (e : Int))] (q_st I J P s (zup (zup S 3 ((dn ||| 2 ^ e : Nat) : Int)) 4 (if w = 1 then ((dh ||| 2 ^ e : Nat) : Int) else dh))) := by
  obtain ⟨sl, s0, s1, p6⟩ := id hs
  have hpw := z_pw he
  refine z_met false (by decide +kernel) (fun h => by cases h) (Nat.le_of_ble_eq_true rfl) (by first | decide | omega) (fun V hV => ?_)
  show V 108 I J P 0 [.ref s, .int (iI w), .int (iI (e : Int))] []
  refine r_aload_n hV dX7_markDone_0 rfl rfl ?_
  refine r_dup hV dX7_markDone_1 rfl ?_
  refine r_getI hV dX7_markDone_2 fl_X7_25 (by first | decide | omega) (by first | rfl | assumption) ((hS.1 3 (by omega) (by omega)).trans (by rw [hdn])) ?_
  refine s_iconst hV dX7_markDone_5 (1) (by decide) ?_
  refine r_iload_n hV dX7_markDone_6 rfl ?_
  refine s_ishl hV dX7_markDone_7 (by first | exact zb_shl (by omega) | exact zb_shl' (by omega) (by omega)) ?_
  refine s_ior hV dX7_markDone_8 (zb_or (by omega) (by omega)) ?_
  refine r_putI hV dX7_markDone_9 fl_X7_25 (pf_X7_25 _) (z_okI_int rfl _) (by first | decide | omega) (by first | rfl | assumption) ?_
  have hS1 := cSt_put hS 3 ((dn ||| 2 ^ e : Nat) : Int) (by omega)
  generalize hI1 : zu I (s) (zu (I s) 3 (iI ((dn ||| 2 ^ e : Nat) : Int))) = I1
  have hfI1 : ∀ q, q ≠ s → I1 q = I q := fun q h => by rw [← hI1]; exact zu_n _ _ h
  rw [hI1] at hS1
  refine r_iload_n hV dX7_markDone_12 rfl ?_
  refine s_iconst hV dX7_markDone_13 (1) (by decide) ?_
  refine s_icmp_ne hV 29 dX7_markDone_14 (by decide) (by unfold z_rg; first | omega | (split <;> omega)) (by unfold z_rg; first | omega | (split <;> omega)) (fun c14 => ?_) (fun c14 => ?_)
  · refine r_vret hV dX7_markDone_29 rfl rfl ?_
    first
      | (rw [if_pos (by omega)]
         exact ⟨rfl, rfl, rfl, cSt_put hS1 4 _ (by omega), fun q a b => by rw [zu_n _ _ a]; exact hfI1 q a⟩)
      | (rw [if_neg (by omega)]
         exact ⟨rfl, rfl, rfl, cSt_eq hS1 (fun z a b => by simp only [zup]; split <;> (try split) <;> simp_all), fun q a b => hfI1 q a⟩)
  · refine r_aload_n hV dX7_markDone_17 rfl rfl ?_
    refine r_dup hV dX7_markDone_18 rfl ?_
    refine r_getI hV dX7_markDone_19 fl_X7_28 (by first | decide | omega) (by first | rfl | assumption) (show I1 s 4 = iI (dh : Int) from (hS1.1 4 (by omega) (by omega)).trans (by simp [zup, hdh])) ?_
    refine s_iconst hV dX7_markDone_22 (1) (by decide) ?_
    refine r_iload_n hV dX7_markDone_23 rfl ?_
    refine s_ishl hV dX7_markDone_24 (by first | exact zb_shl (by omega) | exact zb_shl' (by omega) (by omega)) ?_
    refine s_ior hV dX7_markDone_25 (zb_or (by omega) (by omega)) ?_
    refine r_putI hV dX7_markDone_26 fl_X7_28 (pf_X7_28 _) (z_okI_int rfl _) (by first | decide | omega) (by first | rfl | assumption) ?_
    refine r_vret hV dX7_markDone_29 rfl rfl ?_
    first
      | (rw [if_pos (by omega)]
         exact ⟨rfl, rfl, rfl, cSt_put hS1 4 _ (by omega), fun q a b => by rw [zu_n _ _ a]; exact hfI1 q a⟩)
      | (rw [if_neg (by omega)]
         exact ⟨rfl, rfl, rfl, cSt_eq hS1 (fun z a b => by simp only [zup]; split <;> (try split) <;> simp_all), fun q a b => hfI1 q a⟩)

def zow (x : Int) : Int := (if 0 ≤ x then x else -x) + ((if 0 ≤ x then x else -x) + 9) / 10
def zowed (x : Int) : Int := if 0 ≤ x then zow x else -zow x
theorem zow_b {x : Int} (h : -99 ≤ x ∧ x ≤ 99) : 0 ≤ zow x ∧ zow x ≤ 109 := by unfold zow; split <;> omega
theorem zowed_b {x : Int} (h : -99 ≤ x ∧ x ≤ 99) : -109 ≤ zowed x ∧ zowed x ≤ 109 := by have := zow_b h; unfold zowed; split <;> omega
set_option maxRecDepth 20000 in
theorem m_owedFor (I : zI) (J : zJ) (P : zP) (x : Int) (hx : -99 ≤ x ∧ x ≤ 99) : z_Fn 1 yX7_owedFor cX7_owedFor 3 (some .int) 108 108 I J P [.int (iI x)] (some (.int (iI (zowed x)))) (I) (J) (P) := by
  refine z_met false (by decide +kernel) (fun h => by cases h) (Nat.le_of_ble_eq_true rfl) (by first | decide | omega) (fun V hV => ?_)
  show V 108 I J P 0 [.int (iI x), .null, .null] []
  refine r_iload_n hV dX7_owedFor_0 rfl ?_
  refine s_mabs hV dX7_owedFor_1 mx_X7_34 (by decide) (Nat.le_of_ble_eq_true rfl) (by unfold z_rg; first | omega | (split <;> omega)) ?_
  generalize hm : (if 0 ≤ x then x else -x) = m
  have hmb : 0 ≤ m ∧ m ≤ 99 := by rw [← hm]; split <;> omega
  refine r_istore_n hV dX7_owedFor_4 (Nat.le_of_ble_eq_true rfl) rfl ?_
  refine r_iload_n hV dX7_owedFor_5 rfl ?_
  refine r_iload_n hV dX7_owedFor_6 rfl ?_
  refine s_bipush hV dX7_owedFor_7 (9) (by decide) ?_
  refine s_iadd hV dX7_owedFor_9 ?_
  refine s_bipush hV dX7_owedFor_10 (10) (by decide) ?_
  refine s_idiv hV dX7_owedFor_12 (by unfold z_rg; first | omega | (split <;> omega)) (by unfold z_rg; first | omega | (split <;> omega)) (by omega) (by omega) ?_
  refine s_iadd hV dX7_owedFor_13 ?_
  refine r_istore_n hV dX7_owedFor_14 (Nat.le_of_ble_eq_true rfl) rfl ?_
  refine r_iload_n hV dX7_owedFor_15 rfl ?_
  refine s_if_ge hV 24 dX7_owedFor_16 (by decide) (by unfold z_rg; first | omega | (split <;> omega)) (fun c16 => ?_) (fun c16 => ?_)
  · refine r_iload_n hV dX7_owedFor_24 rfl ?_
    refine r_iret hV dX7_owedFor_25 rfl rfl ?_
    refine ⟨?_, rfl, rfl, rfl⟩
    unfold zowed zow
    rw [hm]
    first | rw [if_pos (by omega)] | rw [if_neg (by omega)]
  · refine r_iload_n hV dX7_owedFor_19 rfl ?_
    refine s_ineg hV dX7_owedFor_20 ?_
    refine r_goto hV 25 dX7_owedFor_21 (by decide) ?_
    refine r_iret hV dX7_owedFor_25 rfl rfl ?_
    refine ⟨?_, rfl, rfl, rfl⟩
    unfold zowed zow
    rw [hm]
    first | rw [if_pos (by omega)] | rw [if_neg (by omega)]

set_option maxRecDepth 20000 in
theorem m_owedFirst (I : zI) (J : zJ) (P : zP) (s : Nat) (hs : zStn P s) (S : Int → Int) (hS : cSt I s S) (lc : Int) (hlc : S 5 = lc) (hlb : 0 ≤ lc ∧ lc ≤ 8) (hln : ∀ z, 0 ≤ z → z < 8 → -99 ≤ S (6 + z) ∧ S (6 + z) ≤ 99) : z_Fn 2 yX7_owedForFirstLoan cX7_owedForFirstLoan 1 (some .int) 108 108 I J P [.ref s] (some (.int (iI (if lc < 1 then 0 else zowed (S 6))))) (I) (J) (P) := by
  obtain ⟨sl, s0, s1, p6⟩ := id hs
  refine z_met false (by decide +kernel) (fun h => by cases h) (Nat.le_of_ble_eq_true rfl) (by first | decide | omega) (fun V hV => ?_)
  show V 108 I J P 0 [.ref s] []
  refine r_aload_n hV dX7_owedForFirstLoan_0 rfl rfl ?_
  refine r_getI hV dX7_owedForFirstLoan_1 fl_X7_31 (by first | decide | omega) (by first | rfl | assumption) ((hS.1 5 (by omega) (by omega)).trans (by rw [hlc])) ?_
  refine s_iconst hV dX7_owedForFirstLoan_4 (1) (by decide) ?_
  refine s_icmp_ge hV 12 dX7_owedForFirstLoan_5 (by decide) (by unfold z_rg; first | omega | (split <;> omega)) (by unfold z_rg; first | omega | (split <;> omega)) (fun c5 => ?_) (fun c5 => ?_)
  · refine r_aload_n hV dX7_owedForFirstLoan_12 rfl rfl ?_
    refine r_getR hV dX7_owedForFirstLoan_13 fl_X7_9 (by first | decide | omega) (by first | rfl | assumption) (by first | assumption | rfl) ?_
    refine s_iconst hV dX7_owedForFirstLoan_16 (0) (by decide) ?_
    refine s_iaload hV dX7_owedForFirstLoan_17 (by first | decide | omega) (by first | rfl | assumption) (by decide) (by omega) (by omega) (hS.2 _ (by omega) (by omega)) ?_
    refine q_is1v hV dX7_owedForFirstLoan_18 ms_X7_40 (m_owedFor I J P (S (6 + 0)) (hln 0 (by omega) (by omega))) (by decide) (Nat.le_refl _) (Nat.le_of_ble_eq_true rfl) ?_
    refine r_iret hV dX7_owedForFirstLoan_21 rfl rfl ?_
    refine ⟨?_, rfl, rfl, rfl⟩
    first | rw [if_pos (by omega)] | (rw [if_neg (by omega)]; rfl)
  · refine s_iconst hV dX7_owedForFirstLoan_8 (0) (by decide) ?_
    refine r_goto hV 21 dX7_owedForFirstLoan_9 (by decide) ?_
    refine r_iret hV dX7_owedForFirstLoan_21 rfl rfl ?_
    refine ⟨?_, rfl, rfl, rfl⟩
    first | rw [if_pos (by omega)] | (rw [if_neg (by omega)]; rfl)

def f_owe (S : Int → Int) (k : Nat) : Int := zowed (S (6 + k))
theorem f_owe_b {S : Int → Int} {n : Nat} (h : ∀ z, 0 ≤ z → z < 8 → -99 ≤ S (6 + z) ∧ S (6 + z) ≤ 99) (hn : n ≤ 8) : -109 * n ≤ zsum (f_owe S) n ∧ zsum (f_owe S) n ≤ 109 * n := by
  induction n with
  | zero => simp [zsum]
  | succ n ih =>
    have h1 := ih (by omega)
    have h2 := zowed_b (h (n : Int) (by omega) (by omega))
    unfold zsum f_owe
    have e : zsum (fun k => zowed (S (6 + (k : Int)))) n = zsum (f_owe S) n := rfl
    omega
set_option maxRecDepth 20000 in
theorem m_owedToThem (I : zI) (J : zJ) (P : zP) (s : Nat) (hs : zStn P s) (S : Int → Int) (hS : cSt I s S) (lc : Int) (hlc : S 5 = lc) (hlb : 0 ≤ lc ∧ lc ≤ 8) (hln : ∀ z, 0 ≤ z → z < 8 → -99 ≤ S (6 + z) ∧ S (6 + z) ≤ 99) : z_Fn 2 yX7_owedToThem cX7_owedToThem 3 (some .int) 108 108 I J P [.ref s] (some (.int (iI (zsum (f_owe S) lc.toNat)))) (I) (J) (P) := by
  obtain ⟨sl, s0, s1, p6⟩ := id hs
  refine z_met false (by decide +kernel) (fun h => by cases h) (Nat.le_of_ble_eq_true rfl) (by first | decide | omega) (fun V hV => ?_)
  show V 108 I J P 0 [.ref s, .null, .null] []
  refine s_iconst hV dX7_owedToThem_0 (0) (by decide) ?_
  refine r_istore_n hV dX7_owedToThem_1 (Nat.le_of_ble_eq_true rfl) rfl ?_
  refine s_iconst hV dX7_owedToThem_2 (0) (by decide) ?_
  refine r_istore_n hV dX7_owedToThem_3 (Nat.le_of_ble_eq_true rfl) rfl ?_
  have L4 : ∀ (k4 j : Nat), lc.toNat - j < k4 → j ≤ lc.toNat → V 108 I J P 4 [.ref s, .int (iI (zsum (f_owe S) j)), .int (iI (j : Int))] [] := by
    intro k4
    induction k4 with
    | zero => intro j  hk1 hk2; omega
    | succ k4 ih4 =>
      intro j  hk4 hl4 
      refine r_iload_n hV dX7_owedToThem_4 rfl ?_
      refine r_aload_n hV dX7_owedToThem_5 rfl rfl ?_
      refine r_getI hV dX7_owedToThem_6 fl_X7_31 (by first | decide | omega) (by first | rfl | assumption) ((hS.1 5 (by omega) (by omega)).trans (by rw [hlc])) ?_
      refine s_icmp_ge hV 36 dX7_owedToThem_9 (by decide) (by unfold z_rg; first | omega | (split <;> omega)) (by unfold z_rg; first | omega | (split <;> omega)) (fun c9 => ?_) (fun c9 => ?_)
      · refine r_iload_n hV dX7_owedToThem_36 rfl ?_
        refine r_iret hV dX7_owedToThem_37 rfl rfl ?_
        rw [show j = lc.toNat by omega]
        exact ⟨rfl, rfl, rfl, rfl⟩
      · refine r_iload_n hV dX7_owedToThem_12 rfl ?_
        refine s_bipush hV dX7_owedToThem_13 (8) (by decide) ?_
        refine s_icmp_ge hV 36 dX7_owedToThem_15 (by decide) (by unfold z_rg; first | omega | (split <;> omega)) (by unfold z_rg; first | omega | (split <;> omega)) (fun c15 => ?_) (fun c15 => ?_)
        · refine r_iload_n hV dX7_owedToThem_36 rfl ?_
          refine r_iret hV dX7_owedToThem_37 rfl rfl ?_
          rw [show j = lc.toNat by omega]
          exact ⟨rfl, rfl, rfl, rfl⟩
        · refine r_iload_n hV dX7_owedToThem_18 rfl ?_
          refine r_aload_n hV dX7_owedToThem_19 rfl rfl ?_
          refine r_getR hV dX7_owedToThem_20 fl_X7_9 (by first | decide | omega) (by first | rfl | assumption) (by first | assumption | rfl) ?_
          refine r_iload_n hV dX7_owedToThem_23 rfl ?_
          refine s_iaload hV dX7_owedToThem_24 (by first | decide | omega) (by first | rfl | assumption) (by decide) (by omega) (by omega) (hS.2 _ (by omega) (by omega)) ?_
          refine q_is1v hV dX7_owedToThem_25 ms_X7_40 (m_owedFor I J P (S (6 + (j : Int))) (hln _ (by omega) (by omega))) (by decide) (Nat.le_refl _) (Nat.le_of_ble_eq_true rfl) ?_
          refine s_iadd hV dX7_owedToThem_28 ?_
          refine r_istore_n hV dX7_owedToThem_29 (Nat.le_of_ble_eq_true rfl) rfl ?_
          refine s_iinc hV dX7_owedToThem_30 rfl rfl ?_
          refine r_goto hV 4 dX7_owedToThem_33 (by decide) ?_
          exact ih4 (j + 1) (by omega) (by omega)
  exact L4 (lc.toNat + 1) 0 (by omega) (by omega)

set_option maxRecDepth 20000 in
theorem m_addLoan (I : zI) (J : zJ) (P : zP) (s : Nat) (hs : zStn P s) (S : Int → Int) (hS : cSt I s S) (lc : Int) (hlc : S 5 = lc) (hlb : 0 ≤ lc ∧ lc ≤ 8) (hln : ∀ z, 0 ≤ z → z < 8 → -99 ≤ S (6 + z) ∧ S (6 + z) ≤ 99) (hl8 : lc < 8) (x : Int) : z_Sp 0 yX7_addLoan cX7_addLoan 2 none 108 108 I J P [.ref s, .int (iI x)] (q_st I J P s (zup (zup (zup S (6 + lc) x) 5 (lc + 1)) 2 (S 2 - x))) := by
  obtain ⟨sl, s0, s1, p6⟩ := id hs
  refine z_met false (by decide +kernel) (fun h => by cases h) (Nat.le_of_ble_eq_true rfl) (by first | decide | omega) (fun V hV => ?_)
  show V 108 I J P 0 [.ref s, .int (iI x)] []
  refine r_aload_n hV dX7_addLoan_0 rfl rfl ?_
  refine r_getI hV dX7_addLoan_1 fl_X7_31 (by first | decide | omega) (by first | rfl | assumption) ((hS.1 5 (by omega) (by omega)).trans (by rw [hlc])) ?_
  refine s_if_lt hV 16 dX7_addLoan_4 (by decide) (by unfold z_rg; first | omega | (split <;> omega)) (fun c4 => absurd c4 (by omega)) (fun _ => ?_)
  refine r_aload_n hV dX7_addLoan_7 rfl rfl ?_
  refine r_getI hV dX7_addLoan_8 fl_X7_31 (by first | decide | omega) (by first | rfl | assumption) ((hS.1 5 (by omega) (by omega)).trans (by rw [hlc])) ?_
  refine s_bipush hV dX7_addLoan_11 (8) (by decide) ?_
  refine s_icmp_lt hV 17 dX7_addLoan_13 (by decide) (by unfold z_rg; first | omega | (split <;> omega)) (by unfold z_rg; first | omega | (split <;> omega)) (fun _ => ?_) (fun c13 => absurd (by omega) c13)
  refine r_aload_n hV dX7_addLoan_17 rfl rfl ?_
  refine r_getR hV dX7_addLoan_18 fl_X7_9 (by first | decide | omega) (by first | rfl | assumption) (by first | assumption | rfl) ?_
  refine r_aload_n hV dX7_addLoan_21 rfl rfl ?_
  refine r_getI hV dX7_addLoan_22 fl_X7_31 (by first | decide | omega) (by first | rfl | assumption) ((hS.1 5 (by omega) (by omega)).trans (by rw [hlc])) ?_
  refine r_iload_n hV dX7_addLoan_25 rfl ?_
  refine s_iastore hV dX7_addLoan_26 (by first | decide | omega) (by first | rfl | assumption) (by decide) (by omega) (by omega) ?_
  generalize hI1 : zu I (s + 1) (zu (I (s + 1)) lc.toNat (iI x)) = I1
  have hfI1 : ∀ q, q ≠ s + 1 → I1 q = I q := fun q h => by rw [← hI1]; exact zu_n _ _ h
  have hS1 : cSt I1 s (zup S (6 + lc) x) := by
    refine ⟨fun z a b => ?_, ?_⟩
    · rw [hfI1 _ (by omega), hS.1 z a b]; simp only [zup]; rw [if_neg (by omega)]
    · rw [← hI1]
      refine z_ar_eq (z_ar_set hS.2 (z := lc) (by omega) x) (fun z a b => ?_)
      simp only [zup]
      by_cases h : z = lc
      · rw [if_pos h, if_pos (by omega)]
      · rw [if_neg h, if_neg (by omega)]
  refine r_aload_n hV dX7_addLoan_27 rfl rfl ?_
  refine r_dup hV dX7_addLoan_28 rfl ?_
  refine r_getI hV dX7_addLoan_29 fl_X7_31 (by first | decide | omega) (by first | rfl | assumption) (show I1 s 5 = iI lc from (hS1.1 5 (by omega) (by omega)).trans (by simp only [zup]; rw [if_neg (by omega), hlc])) ?_
  refine s_iconst hV dX7_addLoan_32 (1) (by decide) ?_
  refine s_iadd hV dX7_addLoan_33 ?_
  refine r_putI hV dX7_addLoan_34 fl_X7_31 (pf_X7_31 _) (z_okI_int rfl _) (by first | decide | omega) (by first | rfl | assumption) ?_
  have hS2 := cSt_put hS1 5 (lc + 1) (by omega)
  generalize hI2 : zu I1 (s) (zu (I1 s) 5 (iI (lc + 1))) = I2
  have hfI2 : ∀ q, q ≠ s → I2 q = I1 q := fun q h => by rw [← hI2]; exact zu_n _ _ h
  rw [hI2] at hS2
  refine r_aload_n hV dX7_addLoan_37 rfl rfl ?_
  refine r_dup hV dX7_addLoan_38 rfl ?_
  refine r_getI hV dX7_addLoan_39 fl_X7_22 (by first | decide | omega) (by first | rfl | assumption) (show I2 s 2 = iI (S 2) from (hS2.1 2 (by omega) (by omega)).trans (by simp only [zup]; rw [if_neg (by omega), if_neg (by omega)])) ?_
  refine r_iload_n hV dX7_addLoan_42 rfl ?_
  refine s_isub hV dX7_addLoan_43 ?_
  refine r_putI hV dX7_addLoan_44 fl_X7_22 (pf_X7_22 _) (z_okI_int rfl _) (by first | decide | omega) (by first | rfl | assumption) ?_
  refine r_vret hV dX7_addLoan_47 rfl rfl ?_
  exact ⟨rfl, rfl, rfl, cSt_put hS2 2 (S 2 - x) (by omega), fun q a b => by rw [zu_n _ _ a, hfI2 q a, hfI1 q b]⟩

def f_gb (S : Int → Int) (z : Int) : Int := if z = 2 then S 2 + zowed (S 6) else if z = 5 then S 5 - 1 else if 6 ≤ z ∧ z < 6 + (S 5 - 1) then S (z + 1) else S z
set_option maxRecDepth 20000 in
theorem m_giveBack (I : zI) (J : zJ) (P : zP) (s : Nat) (hs : zStn P s) (S : Int → Int) (hS : cSt I s S) (lc : Int) (hlc : S 5 = lc) (hlb : 0 ≤ lc ∧ lc ≤ 8) (hln : ∀ z, 0 ≤ z → z < 8 → -99 ≤ S (6 + z) ∧ S (6 + z) ≤ 99) (hl1 : 1 ≤ lc) (hlf : 0 ≤ S 2 ∧ S 2 ≤ 100000) : z_Sp 3 yX7_giveFirstLoanBack cX7_giveFirstLoanBack 2 none 108 108 I J P [.ref s] (q_st I J P s (f_gb S)) := by
  obtain ⟨sl, s0, s1, p6⟩ := id hs
  have how := zowed_b (hln 0 (by omega) (by omega))
  refine z_met false (by decide +kernel) (fun h => by cases h) (Nat.le_of_ble_eq_true rfl) (by first | decide | omega) (fun V hV => ?_)
  show V 108 I J P 0 [.ref s, .null] []
  refine r_aload_n hV dX7_giveFirstLoanBack_0 rfl rfl ?_
  refine r_getI hV dX7_giveFirstLoanBack_1 fl_X7_31 (by first | decide | omega) (by first | rfl | assumption) ((hS.1 5 (by omega) (by omega)).trans (by rw [hlc])) ?_
  refine s_iconst hV dX7_giveFirstLoanBack_4 (1) (by decide) ?_
  refine s_icmp_ge hV 9 dX7_giveFirstLoanBack_5 (by decide) (by unfold z_rg; first | omega | (split <;> omega)) (by unfold z_rg; first | omega | (split <;> omega)) (fun _ => ?_) (fun c5 => absurd (by omega) c5)
  refine r_aload_n hV dX7_giveFirstLoanBack_9 rfl rfl ?_
  refine r_dup hV dX7_giveFirstLoanBack_10 rfl ?_
  refine r_getI hV dX7_giveFirstLoanBack_11 fl_X7_22 (by first | decide | omega) (by first | rfl | assumption) (hS.1 2 (by omega) (by omega)) ?_
  refine r_aload_n hV dX7_giveFirstLoanBack_14 rfl rfl ?_
  refine q_iv0v hV dX7_giveFirstLoanBack_15 mv_X7_43 (m_owedFirst I J P s hs S hS lc hlc hlb hln) (by first | decide | omega) (by first | rfl | assumption) (by decide) (Nat.le_refl _) (Nat.le_of_ble_eq_true rfl) ?_
  rw [if_neg (by omega)]
  refine s_iadd hV dX7_giveFirstLoanBack_18 ?_
  refine r_putI hV dX7_giveFirstLoanBack_19 fl_X7_22 (pf_X7_22 _) (z_okI_int rfl _) (by first | decide | omega) (by first | rfl | assumption) ?_
  have hS1 := cSt_put hS 2 (S 2 + zowed (S 6)) (by omega)
  generalize hI1 : zu I (s) (zu (I s) 2 (iI (S 2 + zowed (S 6)))) = I1
  have hfI1 : ∀ q, q ≠ s → I1 q = I q := fun q h => by rw [← hI1]; exact zu_n _ _ h
  rw [hI1] at hS1
  refine s_iconst hV dX7_giveFirstLoanBack_22 (1) (by decide) ?_
  refine r_istore_n hV dX7_giveFirstLoanBack_23 (Nat.le_of_ble_eq_true rfl) rfl ?_
  have L24 : ∀ (k24 j : Nat) (I2 : zI), (lc - 1).toNat - j < k24 → j ≤ (lc - 1).toNat → (z_ar I2 s 6 (zup S 2 (S 2 + zowed (S 6)))) → (z_ar I2 (s + 1) 8 (fun z => if z < (j : Int) then S (7 + z) else S (6 + z))) → (∀ q, q ≠ s → q ≠ s + 1 → I2 q = I q) → V 108 I2 J P 24 [.ref s, .int (iI (1 + (j : Int)))] [] := by
    intro k24
    induction k24 with
    | zero => intro j I2  hk1 hk2; omega
    | succ k24 ih24 =>
      intro j I2  hk24 hl24 hf hz hfr
      refine r_iload_n hV dX7_giveFirstLoanBack_24 rfl ?_
      refine r_aload_n hV dX7_giveFirstLoanBack_25 rfl rfl ?_
      refine r_getI hV dX7_giveFirstLoanBack_26 fl_X7_31 (by first | decide | omega) (by first | rfl | assumption) (show I2 s 5 = iI lc from (hf 5 (by omega) (by omega)).trans (by simp only [zup]; rw [if_neg (by omega), hlc])) ?_
      refine s_icmp_ge hV 58 dX7_giveFirstLoanBack_29 (by decide) (by unfold z_rg; first | omega | (split <;> omega)) (by unfold z_rg; first | omega | (split <;> omega)) (fun c29 => ?_) (fun c29 => ?_)
      · refine r_aload_n hV dX7_giveFirstLoanBack_58 rfl rfl ?_
        refine r_dup hV dX7_giveFirstLoanBack_59 rfl ?_
        refine r_getI hV dX7_giveFirstLoanBack_60 fl_X7_31 (by first | decide | omega) (by first | rfl | assumption) (show I2 s 5 = iI lc from (hf 5 (by omega) (by omega)).trans (by simp only [zup]; rw [if_neg (by omega), hlc])) ?_
        refine s_iconst hV dX7_giveFirstLoanBack_63 (1) (by decide) ?_
        refine s_isub hV dX7_giveFirstLoanBack_64 ?_
        refine r_putI hV dX7_giveFirstLoanBack_65 fl_X7_31 (pf_X7_31 _) (z_okI_int rfl _) (by first | decide | omega) (by first | rfl | assumption) ?_
        refine r_vret hV dX7_giveFirstLoanBack_68 rfl rfl ?_
        have hS4 : cSt I2 s (fun z => if z < 6 then zup S 2 (S 2 + zowed (S 6)) z else if z - 6 < (j : Int) then S (z + 1) else S z) := by
          refine ⟨z_ar_eq hf (fun z a b => by rw [if_pos (by omega)]), z_ar_eq hz (fun z a b => ?_)⟩
          show (if z < (j : Int) then S (7 + z) else S (6 + z)) = (if 6 + z < 6 then _ else if 6 + z - 6 < (j : Int) then S (6 + z + 1) else S (6 + z))
          rw [if_neg (show ¬ 6 + z < 6 by omega), show 6 + z - 6 = z by omega, show 6 + z + 1 = 7 + z by omega]
        refine ⟨rfl, rfl, rfl, cSt_eq (cSt_put hS4 5 (lc - 1) (by omega)) (fun z a b => ?_), fun q a b => by rw [zu_n _ _ a]; exact hfr q a b⟩
        simp only [zup, f_gb, hlc]
        by_cases h5 : z = 5
        · subst h5; simp
        · rw [if_neg (by omega)]
          by_cases h6 : z < 6
          · rw [if_pos h6]
            by_cases h2 : z = 2
            · subst h2; simp
            · rw [if_neg h2, if_neg h2, if_neg h5, if_neg (by omega)]
          · rw [if_neg h6, if_neg (show ¬ z = 2 by omega), if_neg h5]
            by_cases h7 : z - 6 < (j : Int)
            · rw [if_pos h7, if_pos (by omega)]
            · rw [if_neg h7, if_neg (by omega)]
      · refine r_iload_n hV dX7_giveFirstLoanBack_32 rfl ?_
        refine s_bipush hV dX7_giveFirstLoanBack_33 (8) (by decide) ?_
        refine s_icmp_ge hV 58 dX7_giveFirstLoanBack_35 (by decide) (by unfold z_rg; first | omega | (split <;> omega)) (by unfold z_rg; first | omega | (split <;> omega)) (fun c35 => ?_) (fun c35 => ?_)
        · refine r_aload_n hV dX7_giveFirstLoanBack_58 rfl rfl ?_
          refine r_dup hV dX7_giveFirstLoanBack_59 rfl ?_
          refine r_getI hV dX7_giveFirstLoanBack_60 fl_X7_31 (by first | decide | omega) (by first | rfl | assumption) (show I2 s 5 = iI lc from (hf 5 (by omega) (by omega)).trans (by simp only [zup]; rw [if_neg (by omega), hlc])) ?_
          refine s_iconst hV dX7_giveFirstLoanBack_63 (1) (by decide) ?_
          refine s_isub hV dX7_giveFirstLoanBack_64 ?_
          refine r_putI hV dX7_giveFirstLoanBack_65 fl_X7_31 (pf_X7_31 _) (z_okI_int rfl _) (by first | decide | omega) (by first | rfl | assumption) ?_
          refine r_vret hV dX7_giveFirstLoanBack_68 rfl rfl ?_
          have hS4 : cSt I2 s (fun z => if z < 6 then zup S 2 (S 2 + zowed (S 6)) z else if z - 6 < (j : Int) then S (z + 1) else S z) := by
            refine ⟨z_ar_eq hf (fun z a b => by rw [if_pos (by omega)]), z_ar_eq hz (fun z a b => ?_)⟩
            show (if z < (j : Int) then S (7 + z) else S (6 + z)) = (if 6 + z < 6 then _ else if 6 + z - 6 < (j : Int) then S (6 + z + 1) else S (6 + z))
            rw [if_neg (show ¬ 6 + z < 6 by omega), show 6 + z - 6 = z by omega, show 6 + z + 1 = 7 + z by omega]
          refine ⟨rfl, rfl, rfl, cSt_eq (cSt_put hS4 5 (lc - 1) (by omega)) (fun z a b => ?_), fun q a b => by rw [zu_n _ _ a]; exact hfr q a b⟩
          simp only [zup, f_gb, hlc]
          by_cases h5 : z = 5
          · subst h5; simp
          · rw [if_neg (by omega)]
            by_cases h6 : z < 6
            · rw [if_pos h6]
              by_cases h2 : z = 2
              · subst h2; simp
              · rw [if_neg h2, if_neg h2, if_neg h5, if_neg (by omega)]
            · rw [if_neg h6, if_neg (show ¬ z = 2 by omega), if_neg h5]
              by_cases h7 : z - 6 < (j : Int)
              · rw [if_pos h7, if_pos (by omega)]
              · rw [if_neg h7, if_neg (by omega)]
        · refine r_aload_n hV dX7_giveFirstLoanBack_38 rfl rfl ?_
          refine r_getR hV dX7_giveFirstLoanBack_39 fl_X7_9 (by first | decide | omega) (by first | rfl | assumption) (by first | assumption | rfl) ?_
          refine r_iload_n hV dX7_giveFirstLoanBack_42 rfl ?_
          refine s_iconst hV dX7_giveFirstLoanBack_43 (1) (by decide) ?_
          refine s_isub hV dX7_giveFirstLoanBack_44 ?_
          refine r_aload_n hV dX7_giveFirstLoanBack_45 rfl rfl ?_
          refine r_getR hV dX7_giveFirstLoanBack_46 fl_X7_9 (by first | decide | omega) (by first | rfl | assumption) (by first | assumption | rfl) ?_
          refine r_iload_n hV dX7_giveFirstLoanBack_49 rfl ?_
          refine s_iaload hV dX7_giveFirstLoanBack_50 (by first | decide | omega) (by first | rfl | assumption) (by decide) (by omega) (by omega) (hz _ (by omega) (by omega)) ?_
          refine s_iastore hV dX7_giveFirstLoanBack_51 (by first | decide | omega) (by first | rfl | assumption) (by decide) (by omega) (by omega) ?_
          generalize hI3 : zu I2 (s + 1) (zu (I2 (s + 1)) (1 + (j : Int) - 1).toNat (iI (if 1 + (j : Int) < (j : Int) then S (7 + (1 + (j : Int))) else S (6 + (1 + (j : Int)))))) = I3
          have hfI3 : ∀ q, q ≠ s + 1 → I3 q = I2 q := fun q h => by rw [← hI3]; exact zu_n _ _ h
          refine s_iinc hV dX7_giveFirstLoanBack_52 rfl rfl ?_
          refine r_goto hV 24 dX7_giveFirstLoanBack_55 (by decide) ?_
          have hz2 : z_ar I3 (s + 1) 8 (fun z => if z < ((j + 1 : Nat) : Int) then S (7 + z) else S (6 + z)) := by
            rw [← hI3]
            refine z_ar_eq (z_ar_set hz (z := 1 + (j : Int) - 1) (by omega) _) (fun z a b => ?_)
            simp only [zup]
            by_cases h : z = 1 + (j : Int) - 1
            · rw [if_pos h, if_neg (by omega), if_pos (by omega)]; congr 1; omega
            · rw [if_neg h]
              by_cases h2 : z < (j : Int)
              · rw [if_pos h2, if_pos (by omega)]
              · rw [if_neg h2, if_neg (by omega)]
          rw [show (1 : Int) + j + 1 = 1 + ((j + 1 : Nat) : Int) by omega]
          exact ih24 (j + 1) I3 (by omega) (by omega) (z_ar_fr hf (hfI3 _ (by omega))) hz2 (fun q a b => (hfI3 q b).trans (hfr q a b))
  exact L24 _ 0 I1 (Nat.lt_succ_self _) (by omega) hS1.1 (z_ar_eq hS1.2 (fun z a b => by simp only [zup]; rw [if_neg (by omega), if_neg (by omega)])) (fun q a b => hfI1 q a)

def f_beg (st : Int) (S : Int → Int) (z : Int) : Int := if z = 2 then st else if z < 6 then 0 else S z
set_option maxRecDepth 20000 in
theorem m_sbegin (I : zI) (J : zJ) (P : zP) (s : Nat) (hs : zStn P s) (S : Int → Int) (hS : cSt I s S) (x : Int) : z_Sp 0 yX7_begin cX7_begin 2 none 108 108 I J P [.ref s, .int (iI x)] (q_st I J P s (f_beg x S)) := by
  obtain ⟨sl, s0, s1, p6⟩ := id hs
  refine z_met false (by decide +kernel) (fun h => by cases h) (Nat.le_of_ble_eq_true rfl) (by first | decide | omega) (fun V hV => ?_)
  show V 108 I J P 0 [.ref s, .int (iI x)] []
  refine r_aload_n hV dX7_begin_0 rfl rfl ?_
  refine s_iconst hV dX7_begin_1 (0) (by decide) ?_
  refine r_putI hV dX7_begin_2 fl_X7_15 (pf_X7_15 _) (z_okI_int rfl _) (by first | decide | omega) (by first | rfl | assumption) ?_
  refine r_aload_n hV dX7_begin_5 rfl rfl ?_
  refine s_iconst hV dX7_begin_6 (0) (by decide) ?_
  refine r_putI hV dX7_begin_7 fl_X7_19 (pf_X7_19 _) (z_okI_int rfl _) (by first | decide | omega) (by first | rfl | assumption) ?_
  refine r_aload_n hV dX7_begin_10 rfl rfl ?_
  refine r_iload_n hV dX7_begin_11 rfl ?_
  refine r_putI hV dX7_begin_12 fl_X7_22 (pf_X7_22 _) (z_okI_int rfl _) (by first | decide | omega) (by first | rfl | assumption) ?_
  refine r_aload_n hV dX7_begin_15 rfl rfl ?_
  refine s_iconst hV dX7_begin_16 (0) (by decide) ?_
  refine r_putI hV dX7_begin_17 fl_X7_25 (pf_X7_25 _) (z_okI_int rfl _) (by first | decide | omega) (by first | rfl | assumption) ?_
  refine r_aload_n hV dX7_begin_20 rfl rfl ?_
  refine s_iconst hV dX7_begin_21 (0) (by decide) ?_
  refine r_putI hV dX7_begin_22 fl_X7_28 (pf_X7_28 _) (z_okI_int rfl _) (by first | decide | omega) (by first | rfl | assumption) ?_
  refine r_aload_n hV dX7_begin_25 rfl rfl ?_
  refine s_iconst hV dX7_begin_26 (0) (by decide) ?_
  refine r_putI hV dX7_begin_27 fl_X7_31 (pf_X7_31 _) (z_okI_int rfl _) (by first | decide | omega) (by first | rfl | assumption) ?_
  refine r_vret hV dX7_begin_30 rfl rfl ?_
  refine ⟨rfl, rfl, rfl, ⟨fun z a b => ?_, fun z a b => ?_⟩, fun q a b => by rw [zu_n _ _ a, zu_n _ _ a, zu_n _ _ a, zu_n _ _ a, zu_n _ _ a, zu_n _ _ a]⟩
  · rcases (show z = 0 ∨ z = 1 ∨ z = 2 ∨ z = 3 ∨ z = 4 ∨ z = 5 by omega) with rfl | rfl | rfl | rfl | rfl | rfl <;> simp [zu, f_beg]
  · rw [zu_n _ _ (by omega), zu_n _ _ (by omega), zu_n _ _ (by omega), zu_n _ _ (by omega), zu_n _ _ (by omega), zu_n _ _ (by omega), hS.2 z a b]
    simp only [f_beg]
    rw [if_neg (by omega), if_neg (by omega)]

set_option maxRecDepth 20000 in
theorem m_copyOf (I : zI) (J : zJ) (P : zP) (s : Nat) (hs : zStn P s) (o : Nat) (ho : zStn P o) (hne : s + 1 < o ∨ o + 1 < s) (S : Int → Int) (hO : cSt I o S) : z_Sp 0 yX7_copyOf cX7_copyOf 3 none 108 108 I J P [.ref s, .ref o] (q_st I J P s S) := by
  obtain ⟨sl, s0, s1, p6⟩ := id hs
  obtain ⟨ol, o0, o1, p6o⟩ := id ho
  refine z_met false (by decide +kernel) (fun h => by cases h) (Nat.le_of_ble_eq_true rfl) (by first | decide | omega) (fun V hV => ?_)
  show V 108 I J P 0 [.ref s, .ref o, .null] []
  refine r_aload_n hV dX7_copyOf_0 rfl rfl ?_
  refine r_aload_n hV dX7_copyOf_1 rfl rfl ?_
  refine r_getI hV dX7_copyOf_2 fl_X7_15 (by first | decide | omega) (by first | rfl | assumption) (hO.1 0 (by omega) (by omega)) ?_
  refine r_putI hV dX7_copyOf_5 fl_X7_15 (pf_X7_15 _) (z_okI_int rfl _) (by first | decide | omega) (by first | rfl | assumption) ?_
  refine r_aload_n hV dX7_copyOf_8 rfl rfl ?_
  refine r_aload_n hV dX7_copyOf_9 rfl rfl ?_
  refine r_getI hV dX7_copyOf_10 fl_X7_19 (by first | decide | omega) (by first | rfl | assumption) (Eq.trans (by rw [zu_n _ _ (by omega)]; try rfl) (hO.1 1 (by omega) (by omega))) ?_
  refine r_putI hV dX7_copyOf_13 fl_X7_19 (pf_X7_19 _) (z_okI_int rfl _) (by first | decide | omega) (by first | rfl | assumption) ?_
  refine r_aload_n hV dX7_copyOf_16 rfl rfl ?_
  refine r_aload_n hV dX7_copyOf_17 rfl rfl ?_
  refine r_getI hV dX7_copyOf_18 fl_X7_22 (by first | decide | omega) (by first | rfl | assumption) (Eq.trans (by rw [zu_n _ _ (by omega), zu_n _ _ (by omega)]; try rfl) (hO.1 2 (by omega) (by omega))) ?_
  refine r_putI hV dX7_copyOf_21 fl_X7_22 (pf_X7_22 _) (z_okI_int rfl _) (by first | decide | omega) (by first | rfl | assumption) ?_
  refine r_aload_n hV dX7_copyOf_24 rfl rfl ?_
  refine r_aload_n hV dX7_copyOf_25 rfl rfl ?_
  refine r_getI hV dX7_copyOf_26 fl_X7_25 (by first | decide | omega) (by first | rfl | assumption) (Eq.trans (by rw [zu_n _ _ (by omega), zu_n _ _ (by omega), zu_n _ _ (by omega)]; try rfl) (hO.1 3 (by omega) (by omega))) ?_
  refine r_putI hV dX7_copyOf_29 fl_X7_25 (pf_X7_25 _) (z_okI_int rfl _) (by first | decide | omega) (by first | rfl | assumption) ?_
  refine r_aload_n hV dX7_copyOf_32 rfl rfl ?_
  refine r_aload_n hV dX7_copyOf_33 rfl rfl ?_
  refine r_getI hV dX7_copyOf_34 fl_X7_28 (by first | decide | omega) (by first | rfl | assumption) (Eq.trans (by rw [zu_n _ _ (by omega), zu_n _ _ (by omega), zu_n _ _ (by omega), zu_n _ _ (by omega)]; try rfl) (hO.1 4 (by omega) (by omega))) ?_
  refine r_putI hV dX7_copyOf_37 fl_X7_28 (pf_X7_28 _) (z_okI_int rfl _) (by first | decide | omega) (by first | rfl | assumption) ?_
  refine r_aload_n hV dX7_copyOf_40 rfl rfl ?_
  refine r_aload_n hV dX7_copyOf_41 rfl rfl ?_
  refine r_getI hV dX7_copyOf_42 fl_X7_31 (by first | decide | omega) (by first | rfl | assumption) (Eq.trans (by rw [zu_n _ _ (by omega), zu_n _ _ (by omega), zu_n _ _ (by omega), zu_n _ _ (by omega), zu_n _ _ (by omega)]; try rfl) (hO.1 5 (by omega) (by omega))) ?_
  refine r_putI hV dX7_copyOf_45 fl_X7_31 (pf_X7_31 _) (z_okI_int rfl _) (by first | decide | omega) (by first | rfl | assumption) ?_
  refine s_iconst hV dX7_copyOf_48 (0) (by decide) ?_
  refine r_istore_n hV dX7_copyOf_49 (Nat.le_of_ble_eq_true rfl) rfl ?_
  have L50 : ∀ (k50 j : Nat) (I1 : zI), 8 - j < k50 → j ≤ 8 → (z_ar I1 s 6 S) → (z_ar I1 (s + 1) (j : Int) (fun z => S (6 + z))) → (∀ q, q ≠ s → q ≠ s + 1 → I1 q = I q) → V 108 I1 J P 50 [.ref s, .ref o, .int (iI (j : Int))] [] := by
    intro k50
    induction k50 with
    | zero => intro j I1  hk1 hk2; omega
    | succ k50 ih50 =>
      intro j I1  hk50 hl50 hz hl hfr
      refine r_iload_n hV dX7_copyOf_50 rfl ?_
      refine s_bipush hV dX7_copyOf_51 (8) (by decide) ?_
      refine s_icmp_ge hV 74 dX7_copyOf_53 (by decide) (by unfold z_rg; first | omega | (split <;> omega)) (by unfold z_rg; first | omega | (split <;> omega)) (fun c53 => ?_) (fun c53 => ?_)
      · refine r_vret hV dX7_copyOf_74 rfl rfl ?_
        exact ⟨rfl, rfl, rfl, ⟨hz, z_ar_le hl (by omega)⟩, hfr⟩
      · refine r_aload_n hV dX7_copyOf_56 rfl rfl ?_
        refine r_getR hV dX7_copyOf_57 fl_X7_9 (by first | decide | omega) (by first | rfl | assumption) (by first | assumption | rfl) ?_
        refine r_iload_n hV dX7_copyOf_60 rfl ?_
        refine r_aload_n hV dX7_copyOf_61 rfl rfl ?_
        refine r_getR hV dX7_copyOf_62 fl_X7_9 (by first | decide | omega) (by first | rfl | assumption) (by first | assumption | rfl) ?_
        refine r_iload_n hV dX7_copyOf_65 rfl ?_
        refine s_iaload hV dX7_copyOf_66 (by first | decide | omega) (by first | rfl | assumption) (by decide) (by omega) (by omega) ((congrFun (hfr (o + 1) (by omega) (by omega)) _).trans (hO.2 _ (by omega) (by omega))) ?_
        refine s_iastore hV dX7_copyOf_67 (by first | decide | omega) (by first | rfl | assumption) (by decide) (by omega) (by omega) ?_
        refine s_iinc hV dX7_copyOf_68 rfl rfl ?_
        refine r_goto hV 50 dX7_copyOf_71 (by decide) ?_
        exact ih50 (j + 1) _ (by omega) (by omega) (z_ar_fr hz (zu_n _ _ (by omega))) (z_ar_push hl) (fun q a b => by rw [zu_n _ _ b]; exact hfr q a b)
  exact L50 9 0 _ (by omega) (by omega) (fun z a b => by rcases (show z = 0 ∨ z = 1 ∨ z = 2 ∨ z = 3 ∨ z = 4 ∨ z = 5 by omega) with rfl | rfl | rfl | rfl | rfl | rfl <;> simp [zu]) z_ar_0 (fun q a b => by rw [zu_n _ _ a, zu_n _ _ a, zu_n _ _ a, zu_n _ _ a, zu_n _ _ a, zu_n _ _ a])
