theorem f_lss_t {M W K : Int → Int} {w fr to : Int} {e n set : Nat} {S : (Int → Int) × (Int → Int)} (hM : z_bd M 36 0 99999) (hW : z_bd W e 0 (n - 1)) (hn : n ≤ 6) (he : e ≤ 6) (hfr : 0 ≤ fr ∧ fr < n) (hto : 0 ≤ to ∧ to < n) (hl : zlg S.1 e set 0) : (f_lss M W K w fr to e set S).2 = zup S.2 (64 * w + set) (f_lsr M W K w fr to e set S.1 e).1 := by
  have h := (f_lsr_b (K := K) (w := w) hM hW hn he hfr hto hl e (Nat.le_refl _)).2
  unfold f_lss
  rw [if_neg (by omega)]
theorem f_lts_t {M W K A B : Int → Int} {w fr to : Int} {e n : Nat} (hM : z_bd M 36 0 99999) (hW : z_bd W e 0 (n - 1)) (hn : n ≤ 6) (he : e ≤ 6) (hfr : 0 ≤ fr ∧ fr < n) (hto : 0 ≤ to ∧ to < n) : ∀ m, (∀ s : Nat, s < m → 0 ≤ (f_lts M W K w fr to e m A B).2 (64 * w + s) ∧ (f_lts M W K w fr to e m A B).2 (64 * w + s) ≤ 99999) ∧ ∀ z, (z < 64 * w ∨ 64 * w + m ≤ z) → (f_lts M W K w fr to e m A B).2 z = B z := by
  intro m
  induction m with
  | zero => exact ⟨fun s h => by omega, fun z _ => rfl⟩
  | succ m ih =>
    have hl := f_lts_b (K := K) (w := w) (A := A) (B := B) hM hW hn he hfr hto m
    have h := (f_lsr_b (K := K) (w := w) hM hW hn he hfr hto hl e (Nat.le_refl _)).2
    rw [f_lts_s, f_lss_t hM hW hn he hfr hto hl]
    refine ⟨fun s hs => ?_, fun z hz => ?_⟩
    · unfold zup
      split
      · exact h
      · exact ih.1 s (by omega)
    · rw [zup_n (by omega)]
      exact ih.2 z (by omega)
/-- two legs that agree where they are laid -/
def zle (A B : Int → Int) (e m x : Nat) : Prop := ∀ s b : Nat, b < e → (s < m ∨ (s = m ∧ b < x)) → A (6 * (s : Int) + b) = B (6 * (s : Int) + b)
theorem f_lev_g {M W K A B : Int → Int} {w fr : Int} {e set x : Nat} (he : e ≤ 6) (hx : x < e) (h : zle A B e set x) : f_lev M W K A w fr e set x = f_lev M W K B w fr e set x := by
  unfold f_lev
  by_cases q : set.testBit x = true ∧ (K x = 2 ∨ K x = w)
  · have hlt := zdf_lt (show x < 6 by omega) q.1
    have hu : f_lu M W A fr e (zdf set (2 ^ x)) x = f_lu M W B fr e (zdf set (2 ^ x)) x := zit_cg (fun b v hb => by
      unfold f_lb
      rw [h (zdf set (2 ^ x)) b hb (Or.inl hlt)]) _
    rw [if_pos q, if_pos q, hu]
  · rw [if_neg q, if_neg q]
theorem f_lsr_g {M W K A B : Int → Int} {w fr to : Int} {e set : Nat} (he : e ≤ 6) (h : zle A B e set 0) : ∀ x, x ≤ e → (f_lsr M W K w fr to e set A x).1 = (f_lsr M W K w fr to e set B x).1 ∧ zle (f_lsr M W K w fr to e set A x).2 (f_lsr M W K w fr to e set B x).2 e set x := by
  intro x hx
  refine zit_rel (R := fun x (S T : Int × (Int → Int)) => S.1 = T.1 ∧ zle S.2 T.2 e set x) (n := e) (fun x S T hk hR => ?_) x hx _ _ ⟨rfl, h⟩
  have hlv := f_lev_g (M := M) (W := W) (K := K) (w := w) (fr := fr) he hk hR.2
  unfold f_lxs
  rw [hlv, hR.1]
  refine ⟨rfl, fun s b hb hs => ?_⟩
  show zup S.2 (6 * (set : Int) + x) _ (6 * (s : Int) + b) = zup T.2 (6 * (set : Int) + x) _ (6 * (s : Int) + b)
  by_cases q : 6 * (s : Int) + b = 6 * (set : Int) + x
  · rw [q, zup_s, zup_s]
  · rw [zup_n q, zup_n q]
    exact hR.2 s b hb (by omega)
theorem f_lts_g {M W K A B A2 B2 : Int → Int} {w fr to : Int} {e : Nat} (he : e ≤ 6) : ∀ m, m ≤ 64 → zle (f_lts M W K w fr to e m A B).1 (f_lts M W K w fr to e m A2 B2).1 e m 0 ∧ ∀ s : Nat, s < m → (f_lts M W K w fr to e m A B).2 (64 * w + s) = (f_lts M W K w fr to e m A2 B2).2 (64 * w + s) := by
  intro m hm
  refine zit_rel (R := fun m (S T : (Int → Int) × (Int → Int)) => zle S.1 T.1 e m 0 ∧ ∀ s : Nat, s < m → S.2 (64 * w + s) = T.2 (64 * w + s)) (n := 64) (fun m S T hk hR => ?_) m hm _ _ ⟨fun s b hb hs => by omega, fun s hs => by omega⟩
  have hg := f_lsr_g (M := M) (W := W) (K := K) (w := w) (fr := fr) (to := to) he hR.1 e (Nat.le_refl _)
  unfold f_lss
  rw [hg.1]
  refine ⟨fun s b hb hs => hg.2 s b hb (by omega), fun s hs => ?_⟩
  show zup S.2 (64 * w + (m : Int)) _ (64 * w + (s : Int)) = zup T.2 (64 * w + (m : Int)) _ (64 * w + (s : Int))
  by_cases q : 64 * w + (s : Int) = 64 * w + (m : Int)
  · rw [q, zup_s, zup_s]
  · rw [zup_n q, zup_n q]
    exact hR.2 s (by omega)
/-- a tour, as the other one lays it -/
def f_mt (M W K : Int → Int) (w fr to : Int) (e s : Nat) : Int := (f_lts M W K w fr to e 64 (fun _ => 0) (fun _ => 0)).2 (64 * w + s)
theorem f_mt_b {M W K : Int → Int} {w fr to : Int} {e n s : Nat} (hM : z_bd M 36 0 99999) (hW : z_bd W e 0 (n - 1)) (hn : n ≤ 6) (he : e ≤ 6) (hfr : 0 ≤ fr ∧ fr < n) (hto : 0 ≤ to ∧ to < n) (hs : s < 64) : 0 ≤ f_mt M W K w fr to e s ∧ f_mt M W K w fr to e s ≤ 99999 := (f_lts_t hM hW hn he hfr hto 64).1 s hs
theorem q_lts_mt {M W K A B : Int → Int} {w fr to : Int} {e s : Nat} (he : e ≤ 6) (hs : s < 64) : (f_lts M W K w fr to e 64 A B).2 (64 * w + s) = f_mt M W K w fr to e s := (f_lts_g he 64 (Nat.le_refl _)).2 s hs
def f_tbd (K : Int → Int) (w : Int) (set dn a : Nat) : Bool := set.testBit a && (dn.testBit a || !decide (K a = 2 ∨ K a = w))
def f_mtour (n e : Nat) (F W K S : Int → Int) (dn : Nat) (w x : Int) : Int := if ¬ (0 ≤ w ∧ w < 2) then -1 else if x < 0 ∨ ((2 ^ e : Nat) : Int) ≤ x then -2 else if zany (f_tbd K w x.toNat dn) e = true then -3 else if f_mt (mF F) W K w (zpw S w) 0 e x.toNat < 99999 then f_mt (mF F) W K w (zpw S w) 0 e x.toNat else -9
def q_mscr (I : zI) (J : zJ) (P : zP) (a : Value) (v : Option Value) (I1 : zI) (J1 : zJ) (P1 : zP) : Prop := v = some a ∧ J1 = J ∧ P1 = P ∧ (∀ q, q ≠ 78 → (q < 87 ∨ 92 < q) → q ≠ 93 → q ≠ 94 → I1 q = I q) ∧ (∀ q, 87 < q → q < 93 → I1 q = I q) ∧ ∀ k, (0 < k ∧ k < 32) → I1 78 k = I 78 k
set_option maxRecDepth 20000 in
theorem n_tour (I : zI) (J : zJ) (P : zP) (hM : mK P) (tl st r c : Int) (n e : Nat) (T F W U K S : Int → Int) (hI : mI I tl st r c n e T F W U K S) (hnb : 2 ≤ n ∧ n ≤ 6) (he6 : e ≤ 6) (hFd : zD F) (hWb : z_bd W e 0 (n - 1)) (hKb : z_bd K 6 0 2) (dn dh : Nat) (hg : cG n S dn dh) (w : Int) (hw : z_rg w) (x : Int) (hx : z_rg x) : z_Sp 3 yX12_tour cX12_tour 4 (some .int) 108 108 I J P [.ref 78, .int (iI w), .int (iI x)] (q_mscr I J P (.int (iI (f_mtour n e F W K S dn w x)))) := by
  obtain ⟨o1, o7, o9, o10, o11, o16, o17, o18, o19, o20, o25, o26, o28, o29, o30, o31, o36, o37, o38, o39, o40, o41, o42, o43, o44, o45, o46, o47, o48⟩ := id hM
  obtain ⟨g0, g1, g2, g3, g4, g5, g6, g7, g8⟩ := id hg
  have hw1 := hw.1
  have hw2 := hw.2
  have hx1 := hx.1
  have hx2 := hx.2
  have hpw := zpw_b w hg
  have h2e := z_pn he6
  have h2p : 1 ≤ 2 ^ e := Nat.one_le_two_pow
  have hMb := mF_b hFd
  refine z_met false (by decide +kernel) (fun h => by cases h) (Nat.le_of_ble_eq_true rfl) (by first | decide | omega) (fun V hV => ?_)
  show V 108 I J P 0 [.ref 78, .int (iI w), .int (iI x), .null] []
  refine r_aload_n hV dX12_tour_0 rfl rfl ?_
  refine s_iconst hV dX12_tour_1 (0) (by decide) ?_
  refine r_putI hV dX12_tour_2 fl_X12_104 (pf_X12_104 _) (z_okI_int rfl _) (by first | decide | omega) (by first | rfl | assumption) ?_
  generalize hI0e : zu I 78 (zu (I 78) 0 (iI 0)) = I0
  have t0 : ∀ q, q ≠ 78 → I0 q = I q := fun q h => by rw [← hI0e, zu_n _ _ h]
  have t1 : ∀ k, k ≠ 0 → I0 78 k = I 78 k := fun k h => by rw [← hI0e, zu_s, zu_n _ _ h]
  clear hI0e
  have hI0 := mI_fr hI t0 t1
  obtain ⟨⟨i20, i40, i50, i60, i80, i210, i220, i230, i240, i270⟩, zT0, zF0, zW0, zU0, zK0, zA0, zN0⟩ := id hI0
  refine r_iload_n hV dX12_tour_5 rfl ?_
  refine q_is1v hV dX12_tour_6 ms_X12_191 (n_noWalker I0 J P (w) (by unfold z_rg; omega)) (by decide) (Nat.le_refl _) (Nat.le_of_ble_eq_true rfl) ?_
  refine s_if_eq hV 14 dX12_tour_9 (by decide) (by unfold z_rg; first | omega | (split <;> omega)) (fun c9 => ?_) (fun c9 => ?_)
  · refine r_iload_n hV dX12_tour_14 rfl ?_
    refine s_i2l hV dX12_tour_15 (by unfold z_rg; first | omega | (split <;> omega)) ?_
    refine s_lconst hV dX12_tour_16 (0) (by decide) ?_
    refine s_iconst hV dX12_tour_17 (1) (by decide) ?_
    refine r_aload_n hV dX12_tour_18 rfl rfl ?_
    refine r_getI hV dX12_tour_19 fl_X12_111 (by first | decide | omega) (by first | rfl | assumption) i80 ?_
    refine s_ishl hV dX12_tour_22 (zb_shl (by omega)) ?_
    refine s_iconst hV dX12_tour_23 (1) (by decide) ?_
    refine s_isub hV dX12_tour_24 ?_
    refine s_i2l hV dX12_tour_25 (by unfold z_rg; first | omega | (split <;> omega)) ?_
    refine q_is3v hV dX12_tour_26 ms_X12_107 (n_in I0 J P x 0 (((2 ^ e : Nat) : Int) - 1) (by unfold z_rgL; omega) (by unfold z_rgL; omega) (by unfold z_rgL; omega)) (by decide) (Nat.le_refl _) (Nat.le_of_ble_eq_true rfl) ?_
    refine s_if_ne hV 35 dX12_tour_29 (by decide) (by unfold z_rg; first | omega | (split <;> omega)) (fun c29 => ?_) (fun c29 => ?_)
    · obtain ⟨y, rfl⟩ := Int.eq_ofNat_of_zero_le (show 0 ≤ x by omega)
      have hy64 : y < 64 := by omega
      refine s_iconst hV dX12_tour_35 (0) (by decide) ?_
      refine r_istore_n hV dX12_tour_36 (Nat.le_of_ble_eq_true rfl) (z_st1_4_3 rfl) ?_
      have L37 : ∀ (k37 j : Nat), e - j < k37 → j ≤ e → (∀ i, i < j → f_tbd K w y dn i = false) → V 108 I0 J P 37 [.ref 78, .int (iI w), .int (iI (y : Int)), .int (iI (j : Int))] [] := by
        intro k37
        induction k37 with
        | zero => intro j  hk1 hk2; omega
        | succ k37 ih37 =>
          intro j  hk37 hl37 hno
          refine r_iload_n hV dX12_tour_37 rfl ?_
          refine r_aload_n hV dX12_tour_38 rfl rfl ?_
          refine r_getI hV dX12_tour_39 fl_X12_111 (by first | decide | omega) (by first | rfl | assumption) i80 ?_
          refine s_icmp_ge hV 82 dX12_tour_42 (by decide) (by unfold z_rg; first | omega | (split <;> omega)) (by unfold z_rg; first | omega | (split <;> omega)) (fun c42 => ?_) (fun c42 => ?_)
          · have hno2 := zany_no (fun i hi => hno i (by omega) : ∀ i, i < e → f_tbd K w y dn i = false)
            refine r_aload_n hV dX12_tour_82 rfl rfl ?_
            refine r_iload_n hV dX12_tour_83 rfl ?_
            refine r_aload_n hV dX12_tour_84 rfl rfl ?_
            refine r_getR hV dX12_tour_85 fl_X12_41 (by first | decide | omega) (by first | rfl | assumption) o20 ?_
            refine r_iload_n hV dX12_tour_88 rfl ?_
            refine s_iaload hV dX12_tour_89 (by first | decide | omega) (by first | rfl | assumption) (by decide) (by omega) (by omega) (show I0 88 w.toNat = iI (zpw S w) from (zA0 w (by omega) (by omega)).trans (congrArg iI (zpw_S (S := S) (by omega)))) ?_
            refine s_iconst hV dX12_tour_90 (0) (by decide) ?_
            refine r_iv3 hV dX12_tour_91 mv_X12_219 (n_layTours I0 J P hM (mF F) W K zF0 hMb n e i80 he6 hnb.2 zW0 hWb zK0 hKb w (zpw S w) 0 (by omega) hpw (by omega)) (by first | decide | omega) (by first | rfl | assumption) (by decide) (Nat.le_refl _) (Nat.le_of_ble_eq_true rfl) (fun v2 I2 J2 P2 hq => ?_)
            obtain ⟨rfl, ej, ep, z1, z2, zf⟩ := hq
            rw [ej, ep]
            show V 108 I2 J P _ _ []
            have hmb := f_mt_b (K := K) (w := w) (fr := zpw S w) (to := 0) hMb hWb hnb.2 he6 hpw (by omega) hy64
            refine r_aload_n hV dX12_tour_94 rfl rfl ?_
            refine r_getR hV dX12_tour_95 fl_X12_57 (by first | decide | omega) (by first | rfl | assumption) o30 ?_
            refine s_bipush hV dX12_tour_98 (64) (by decide) ?_
            refine r_iload_n hV dX12_tour_100 rfl ?_
            refine s_imul hV dX12_tour_101 ?_
            refine r_iload_n hV dX12_tour_102 rfl ?_
            refine s_iadd hV dX12_tour_103 ?_
            refine s_iaload hV dX12_tour_104 (by first | decide | omega) (by first | rfl | assumption) (by decide) (by omega) (by omega) ((z2 (64 * w + (y : Int)) (by omega) (by omega)).trans (congrArg iI (q_lts_mt (s := y) he6 hy64))) ?_
            refine s_ldc hV dX12_tour_105 ct_X12_103 (99999) (by decide) ?_
            refine s_icmp_lt hV 115 dX12_tour_107 (by decide) (by unfold z_rg; first | omega | (split <;> omega)) (by unfold z_rg; first | omega | (split <;> omega)) (fun c107 => ?_) (fun c107 => ?_)
            · refine r_aload_n hV dX12_tour_115 rfl rfl ?_
              refine r_getR hV dX12_tour_116 fl_X12_57 (by first | decide | omega) (by first | rfl | assumption) o30 ?_
              refine s_bipush hV dX12_tour_119 (64) (by decide) ?_
              refine r_iload_n hV dX12_tour_121 rfl ?_
              refine s_imul hV dX12_tour_122 ?_
              refine r_iload_n hV dX12_tour_123 rfl ?_
              refine s_iadd hV dX12_tour_124 ?_
              refine s_iaload hV dX12_tour_125 (by first | decide | omega) (by first | rfl | assumption) (by decide) (by omega) (by omega) ((z2 (64 * w + (y : Int)) (by omega) (by omega)).trans (congrArg iI (q_lts_mt (s := y) he6 hy64))) ?_
              refine r_iret hV dX12_tour_126 rfl rfl ?_
              refine ⟨?_, rfl, rfl, fun q a _ b c => (zf q b c).trans (t0 q a), fun q a b => (zf q (by omega) (by omega)).trans (t0 q (by omega)), fun k a => (congrFun (zf 78 (by omega) (by omega)) k).trans (t1 k (by omega))⟩
              unfold f_mtour
              rw [if_neg (show ¬ ¬ (0 ≤ w ∧ w < 2) by omega), if_neg (show ¬ ((y : Int) < 0 ∨ ((2 ^ e : Nat) : Int) ≤ (y : Int)) by omega), Int.toNat_natCast, hno2, if_neg (show ¬ false = true by decide)]
              first | rw [if_pos (by omega)] | rw [if_neg (by omega)]
            · refine s_bipush hV dX12_tour_110 (-9) (by decide) ?_
              refine r_goto hV 126 dX12_tour_112 (by decide) ?_
              refine r_iret hV dX12_tour_126 rfl rfl ?_
              refine ⟨?_, rfl, rfl, fun q a _ b c => (zf q b c).trans (t0 q a), fun q a b => (zf q (by omega) (by omega)).trans (t0 q (by omega)), fun k a => (congrFun (zf 78 (by omega) (by omega)) k).trans (t1 k (by omega))⟩
              unfold f_mtour
              rw [if_neg (show ¬ ¬ (0 ≤ w ∧ w < 2) by omega), if_neg (show ¬ ((y : Int) < 0 ∨ ((2 ^ e : Nat) : Int) ≤ (y : Int)) by omega), Int.toNat_natCast, hno2, if_neg (show ¬ false = true by decide)]
              first | rw [if_pos (by omega)] | rw [if_neg (by omega)]
          · refine r_iload_n hV dX12_tour_45 rfl ?_
            refine r_iload_n hV dX12_tour_46 rfl ?_
            refine q_is2v hV dX12_tour_47 ms_X12_180 (n_has I0 J P y j hy64 (by omega)) (by decide) (Nat.le_refl _) (Nat.le_of_ble_eq_true rfl) ?_
            refine s_if_eq hV 76 dX12_tour_50 (by decide) (by unfold z_rg; first | omega | (split <;> omega)) (fun c50 => ?_) (fun c50 => ?_)
            · have hb50 := z_ite0 c50
              refine s_iinc hV dX12_tour_76 rfl (z_st1_4_3 rfl) ?_
              refine r_goto hV 37 dX12_tour_79 (by decide) ?_
              exact ih37 (j + 1) (by omega) (by omega) (fun i hi => by rcases (show i < j ∨ i = j by omega) with q | q; exact hno i q; rw [q]; unfold f_tbd; first | (rw [Bool.eq_false_iff.mpr hb50]; rfl) | (rw [hb50, Bool.eq_false_iff.mpr hb61, decide_eq_true hc70]; rfl))
            · have hb50 := z_ite1 c50
              refine r_aload_n hV dX12_tour_53 rfl rfl ?_
              refine r_getI hV dX12_tour_54 fl_X12_168 (by first | decide | omega) (by first | rfl | assumption) (i220.trans (by rw [g3])) ?_
              refine r_iload_n hV dX12_tour_57 rfl ?_
              refine q_is2v hV dX12_tour_58 ms_X12_180 (n_has I0 J P dn j g4 (by omega)) (by decide) (Nat.le_refl _) (Nat.le_of_ble_eq_true rfl) ?_
              refine s_if_ne hV 73 dX12_tour_61 (by decide) (by unfold z_rg; first | omega | (split <;> omega)) (fun c61 => ?_) (fun c61 => ?_)
              · have hb61 := z_ite1 c61
                refine s_bipush hV dX12_tour_73 (-3) (by decide) ?_
                refine r_iret hV dX12_tour_75 rfl rfl ?_
                refine ⟨?_, rfl, rfl, fun q a _ _ _ => t0 q a, fun q a b => t0 q (by omega), fun k a => t1 k (by omega)⟩
                unfold f_mtour
                rw [if_neg (by omega), if_neg (by omega), Int.toNat_natCast, if_pos (zany_iff.mpr ⟨j, by omega, by unfold f_tbd; first | (rw [hb50, hb61]; rfl) | (rw [hb50, decide_eq_false hc70]; cases dn.testBit j <;> rfl)⟩)]
              · have hb61 := z_ite0 (by first | exact c61 | exact Classical.not_not.mp c61)
                refine r_aload_n hV dX12_tour_64 rfl rfl ?_
                refine r_iload_n hV dX12_tour_65 rfl ?_
                refine r_iload_n hV dX12_tour_66 rfl ?_
                refine q_iv2v hV dX12_tour_67 mv_X12_211 (n_canDo I0 J P hM e K zK0 he6 hKb w (j : Int) hw (by omega)) (by first | decide | omega) (by first | rfl | assumption) (by decide) (Nat.le_refl _) (Nat.le_of_ble_eq_true rfl) ?_
                refine s_if_ne hV 76 dX12_tour_70 (by decide) (by unfold z_rg; first | omega | (split <;> omega)) (fun c70 => ?_) (fun c70 => ?_)
                · have hc70 := z_ite1 c70
                  refine s_iinc hV dX12_tour_76 rfl (z_st1_4_3 rfl) ?_
                  refine r_goto hV 37 dX12_tour_79 (by decide) ?_
                  exact ih37 (j + 1) (by omega) (by omega) (fun i hi => by rcases (show i < j ∨ i = j by omega) with q | q; exact hno i q; rw [q]; unfold f_tbd; first | (rw [Bool.eq_false_iff.mpr hb50]; rfl) | (rw [hb50, Bool.eq_false_iff.mpr hb61, decide_eq_true hc70]; rfl))
                · have hc70 := z_ite0 (by first | exact c70 | exact Classical.not_not.mp c70)
                  refine s_bipush hV dX12_tour_73 (-3) (by decide) ?_
                  refine r_iret hV dX12_tour_75 rfl rfl ?_
                  refine ⟨?_, rfl, rfl, fun q a _ _ _ => t0 q a, fun q a b => t0 q (by omega), fun k a => t1 k (by omega)⟩
                  unfold f_mtour
                  rw [if_neg (by omega), if_neg (by omega), Int.toNat_natCast, if_pos (zany_iff.mpr ⟨j, by omega, by unfold f_tbd; first | (rw [hb50, hb61]; rfl) | (rw [hb50, decide_eq_false hc70]; cases dn.testBit j <;> rfl)⟩)]
      exact L37 (e + 1) 0 (by omega) (by omega) (fun i hi => absurd hi (by omega))
    · refine s_bipush hV dX12_tour_32 (-2) (by decide) ?_
      refine r_iret hV dX12_tour_34 rfl rfl ?_
      refine ⟨?_, rfl, rfl, fun q a _ _ _ => t0 q a, fun q a b => t0 q (by omega), fun k a => t1 k (by omega)⟩
      unfold f_mtour
      rw [if_neg (by omega), if_pos (by omega)]
  · refine s_iconst hV dX12_tour_12 (-1) (by decide) ?_
    refine r_iret hV dX12_tour_13 rfl rfl ?_
    refine ⟨?_, rfl, rfl, fun q a _ _ _ => t0 q a, fun q a b => t0 q (by omega), fun k a => t1 k (by omega)⟩
    unfold f_mtour
    rw [if_pos (by omega)]

abbrev zB4 : Type := Int × Int × Int × Int
def f_fp (H G : Nat → Int) (U : Int → Int) (e over : Nat) (has : Int) (hers mine : Nat) (B : zB4) : zB4 := if ((hers &&& mine = 0 ∧ (hers ||| mine) &&& over = 0) ∧ H hers + G mine < 99999 ∧ H hers + G mine ≤ has) ∧ (B.1 < zsum (f_wt (hers ||| mine) U) e ∨ (zsum (f_wt (hers ||| mine) U) e = B.1 ∧ H hers + G mine < B.2.1)) then (zsum (f_wt (hers ||| mine) U) e, H hers + G mine, (hers : Int), (mine : Int)) else B
def f_fpl (H G : Nat → Int) (U : Int → Int) (e over : Nat) (has : Int) (hers : Nat) (B : zB4) : zB4 := zit (f_fp H G U e over has hers) (2 ^ e) B
def mPl (I : zI) (B : zB4) : Prop := I 78 32 = iI B.1 ∧ I 78 33 = iI B.2.1 ∧ I 78 34 = iI B.2.2.1 ∧ I 78 35 = iI B.2.2.2
def mPb (B : zB4) : Prop := (-9 ≤ B.1 ∧ B.1 ≤ 54) ∧ z_rg B.2.1
def q_fpl (I : zI) (J : zJ) (P : zP) (B : zB4) (v : Option Value) (I1 : zI) (J1 : zJ) (P1 : zP) : Prop := v = none ∧ J1 = J ∧ P1 = P ∧ mPl I1 B ∧ mPb B ∧ (∀ q, q ≠ 78 → I1 q = I q) ∧ ∀ k, k < 32 → I1 78 k = I 78 k
theorem f_fp_b {H G : Nat → Int} {U : Int → Int} {e over hers mine : Nat} {has : Int} {B : zB4} (hH : ∀ s, s < 64 → 0 ≤ H s ∧ H s ≤ 99999) (hG : ∀ s, s < 64 → 0 ≤ G s ∧ G s ≤ 99999) (hU : z_bd U 6 0 9) (he : e ≤ 6) (h1 : hers < 64) (h2 : mine < 64) (hB : mPb B) : mPb (f_fp H G U e over has hers mine B) := by
  have a := hH hers h1
  have b := hG mine h2
  have c := f_wt_b (s := hers ||| mine) hU he
  unfold f_fp
  split
  · exact ⟨⟨by simp only; omega, by simp only; omega⟩, by unfold z_rg; simp only; omega⟩
  · exact hB
theorem iI_rg (x : Int32) : z_rg x.toInt := ⟨x.le_toInt, x.toInt_lt⟩
set_option maxRecDepth 20000 in
theorem n_findPlan (I : zI) (J : zJ) (P : zP) (hM : mK P) (e : Nat) (h8 : I 78 8 = iI (e : Int)) (he6 : e ≤ 6) (U : Int → Int) (hU : z_ar I 82 e U) (hUb : z_bd U 6 0 9) (H G : Nat → Int) (hT0 : ∀ s : Nat, s < 64 → I 93 s = iI (H s)) (hT1 : ∀ s : Nat, s < 64 → I 93 (64 + s) = iI (G s)) (hH : ∀ s, s < 64 → 0 ≤ H s ∧ H s ≤ 99999) (hG : ∀ s, s < 64 → 0 ≤ G s ∧ G s ≤ 99999) (over : Nat) (hov : over < 64) (has : Int) (hhas : 0 ≤ has ∧ has ≤ 90000) : z_Sp 2 yX12_findPlan cX12_findPlan 7 none 108 108 I J P [.ref 78, .int (iI (over : Int)), .int (iI has)] (q_fpl I J P (zit (f_fpl H G U e over has) (2 ^ e) ((-9 : Int), (I 78 33).toInt, (I 78 34).toInt, (I 78 35).toInt))) := by
  obtain ⟨o1, o7, o9, o10, o11, o16, o17, o18, o19, o20, o25, o26, o28, o29, o30, o31, o36, o37, o38, o39, o40, o41, o42, o43, o44, o45, o46, o47, o48⟩ := id hM
  have h2e := z_pn he6
  have h2p : 1 ≤ 2 ^ e := Nat.one_le_two_pow
  refine z_met false (by decide +kernel) (fun h => by cases h) (Nat.le_of_ble_eq_true rfl) (by first | decide | omega) (fun V hV => ?_)
  show V 108 I J P 0 [.ref 78, .int (iI (over : Int)), .int (iI has), .null, .null, .null, .null] []
  refine r_aload_n hV dX12_findPlan_0 rfl rfl ?_
  refine s_bipush hV dX12_findPlan_1 (-9) (by decide) ?_
  refine r_putI hV dX12_findPlan_3 fl_X12_223 (pf_X12_223 _) (z_okI_int rfl _) (by first | decide | omega) (by first | rfl | assumption) ?_
  generalize hg1 : zu I 78 (zu (I 78) 32 (iI (-9))) = I1
  have u1 : ∀ q, q ≠ 78 → I1 q = I q := fun q a => by rw [← hg1, zu_n _ _ a]
  have k1 : ∀ k, k ≠ 32 → I1 78 k = I 78 k := fun k a => by rw [← hg1, zu_s, zu_n _ _ a]
  have s32 : I1 78 32 = iI (-9) := by rw [← hg1, zu_s, zu_s]
  clear hg1
  refine s_iconst hV dX12_findPlan_6 (0) (by decide) ?_
  refine r_istore_n hV dX12_findPlan_7 (Nat.le_of_ble_eq_true rfl) (z_st1_7_3 rfl) ?_
  have L8 : ∀ (k8 a : Nat) (I2 : zI) (B : zB4), 2 ^ e - a < k8 → a ≤ 2 ^ e → (B = zit (f_fpl H G U e over has) a ((-9 : Int), (I 78 33).toInt, (I 78 34).toInt, (I 78 35).toInt)) → (mPb B) → (mPl I2 B) → (∀ q, q ≠ 78 → I2 q = I q) → (∀ k, k < 32 → I2 78 k = I 78 k) → V 108 I2 J P 8 [.ref 78, .int (iI (over : Int)), .int (iI has), .int (iI (a : Int)), .null, .null, .null] [] := by
    intro k8
    induction k8 with
    | zero => intro a I2  B  hk1 hk2; omega
    | succ k8 ih8 =>
      intro a I2  B  hk8 hl8 hB hbB hpB hqB hkB
      refine r_iload_n hV dX12_findPlan_8 rfl ?_
      refine s_iconst hV dX12_findPlan_9 (1) (by decide) ?_
      refine r_aload_n hV dX12_findPlan_10 rfl rfl ?_
      refine r_getI hV dX12_findPlan_11 fl_X12_111 (by first | decide | omega) (by first | rfl | assumption) ((hkB 8 (by omega)).trans h8) ?_
      refine s_ishl hV dX12_findPlan_14 (zb_shl (by omega)) ?_
      refine s_icmp_ge hV 152 dX12_findPlan_15 (by decide) (by unfold z_rg; first | omega | (split <;> omega)) (by unfold z_rg; first | omega | (split <;> omega)) (fun c15 => ?_) (fun c15 => ?_)
      · refine r_vret hV dX12_findPlan_152 rfl rfl ?_
        rw [show a = 2 ^ e by omega] at hB
        rw [← hB]
        exact ⟨rfl, rfl, rfl, hpB, hbB, hqB, hkB⟩
      · refine s_iconst hV dX12_findPlan_18 (0) (by decide) ?_
        refine r_istore hV dX12_findPlan_19 (Nat.le_of_ble_eq_true rfl) (z_st1_7_4 rfl) ?_
        have L21 : ∀ (k21 m : Nat) (I3 : zI) (B2 : zB4), 2 ^ e - m < k21 → m ≤ 2 ^ e → (B2 = zit (f_fp H G U e over has a) m B) → (mPb B2) → (mPl I3 B2) → (∀ q, q ≠ 78 → I3 q = I q) → (∀ k, k < 32 → I3 78 k = I 78 k) → V 108 I3 J P 21 [.ref 78, .int (iI (over : Int)), .int (iI has), .int (iI (a : Int)), .int (iI (m : Int)), .null, .null] [] := by
          intro k21
          induction k21 with
          | zero => intro m I3  B2  hk1 hk2; omega
          | succ k21 ih21 =>
            intro m I3  B2  hk21 hl21 hB2 hb2 hp2 hq2 hk2
            obtain ⟨⟨b1, b1'⟩, hb33⟩ := id hb2
            have hb331 := hb33.1
            have hb332 := hb33.2
            refine r_iload hV dX12_findPlan_21 rfl ?_
            refine s_iconst hV dX12_findPlan_23 (1) (by decide) ?_
            refine r_aload_n hV dX12_findPlan_24 rfl rfl ?_
            refine r_getI hV dX12_findPlan_25 fl_X12_111 (by first | decide | omega) (by first | rfl | assumption) ((hk2 8 (by omega)).trans h8) ?_
            refine s_ishl hV dX12_findPlan_28 (zb_shl (by omega)) ?_
            refine s_icmp_ge hV 146 dX12_findPlan_29 (by decide) (by unfold z_rg; first | omega | (split <;> omega)) (by unfold z_rg; first | omega | (split <;> omega)) (fun c29 => ?_) (fun c29 => ?_)
            · refine s_iinc hV dX12_findPlan_146 rfl (z_st1_7_3 rfl) ?_
              refine r_goto hV 8 dX12_findPlan_149 (by decide) ?_
              refine r_kill hV 4 z_stk_7_4 ?_
              refine r_kill hV 5 z_stk_7_5 ?_
              refine r_kill hV 6 z_stk_7_6 ?_
              exact ih8 (a + 1) I3 B2 (by omega) (by omega) (by rw [zit, ← hB, f_fpl]; rw [show m = 2 ^ e by omega] at hB2; exact hB2) hb2 hp2 hq2 hk2
            · refine r_aload_n hV dX12_findPlan_32 rfl rfl ?_
              refine r_getR hV dX12_findPlan_33 fl_X12_57 (by first | decide | omega) (by first | rfl | assumption) o30 ?_
              refine r_iload_n hV dX12_findPlan_36 rfl ?_
              refine s_iaload hV dX12_findPlan_37 (by first | decide | omega) (by first | rfl | assumption) (by decide) (by omega) (by omega) (show I3 93 ((a : Int)).toNat = iI (H a) from (congrFun (hq2 93 (by omega)) _).trans (by rw [Int.toNat_natCast]; exact hT0 a (by omega))) ?_
              have hHa := hH a (by omega)
              have hGm := hG m (by omega)
              refine r_aload_n hV dX12_findPlan_38 rfl rfl ?_
              refine r_getR hV dX12_findPlan_39 fl_X12_57 (by first | decide | omega) (by first | rfl | assumption) o30 ?_
              refine s_bipush hV dX12_findPlan_42 (64) (by decide) ?_
              refine r_iload hV dX12_findPlan_44 rfl ?_
              refine s_iadd hV dX12_findPlan_46 ?_
              refine s_iaload hV dX12_findPlan_47 (by first | decide | omega) (by first | rfl | assumption) (by decide) (by omega) (by omega) (show I3 93 (64 + (m : Int)).toNat = iI (G m) from (congrFun (hq2 93 (by omega)) _).trans (by rw [show (64 + (m : Int)).toNat = 64 + m by omega]; exact hT1 m (by omega))) ?_
              refine s_iadd hV dX12_findPlan_48 ?_
              refine r_istore hV dX12_findPlan_49 (Nat.le_of_ble_eq_true rfl) (z_st1_7_5 rfl) ?_
              refine r_iload_n hV dX12_findPlan_51 rfl ?_
              refine r_iload hV dX12_findPlan_52 rfl ?_
              refine s_iand hV dX12_findPlan_54 (zb_and (by omega) (by omega)) ?_
              have hz1 := zb_and0 (a := a) (b := m) (by omega) (by omega)
              have hz11 := hz1.1
              have hz12 := hz1.2
              refine s_if_ne hV 140 dX12_findPlan_55 (by decide) (by unfold z_rg; first | omega | (split <;> omega)) (fun c55 => ?_) (fun c55 => ?_)
              · refine s_iinc hV dX12_findPlan_140 rfl (z_st1_7_4 rfl) ?_
                refine r_goto hV 21 dX12_findPlan_143 (by decide) ?_
                refine r_kill hV 5 z_stk_7_5 ?_
                refine r_kill hV 6 z_stk_7_6 ?_
                first
                  | exact ih21 (m + 1) I7 (zsum (f_wt (a ||| m) U) e, H a + G m, (a : Int), (m : Int)) (by omega) (by omega) (by rw [zit, ← hB2, f_fp, if_pos ⟨⟨⟨by omega, by omega⟩, by omega, by omega⟩, by omega⟩]) (by have := f_fp_b (over := over) (has := has) hH hG hUb he6 (show a < 64 by omega) (show m < 64 by omega) hb2; unfold f_fp at this; rwa [if_pos ⟨⟨⟨by omega, by omega⟩, by omega, by omega⟩, by omega⟩] at this) ⟨(kI7 32 (by omega)).trans ((kI6 32 (by omega)).trans ((kI5 32 (by omega)).trans sI4)), (kI7 33 (by omega)).trans ((kI6 33 (by omega)).trans sI5), (kI7 34 (by omega)).trans sI6, sI7⟩ (fun q a => (uI7 q a).trans ((uI6 q a).trans ((uI5 q a).trans ((uI4 q a).trans (hq2 q a))))) (fun k a => (kI7 k (by omega)).trans ((kI6 k (by omega)).trans ((kI5 k (by omega)).trans ((kI4 k (by omega)).trans (hk2 k a)))))
                  | exact ih21 (m + 1) I3 B2 (by omega) (by omega) (by rw [zit, ← hB2, f_fp, if_neg (by omega)]) hb2 hp2 hq2 hk2
              · refine r_iload_n hV dX12_findPlan_58 rfl ?_
                refine r_iload hV dX12_findPlan_59 rfl ?_
                refine s_ior hV dX12_findPlan_61 (zb_or (by omega) (by omega)) ?_
                have hor : a ||| m < 64 := z_or_lt (by omega) (by omega)
                refine r_iload_n hV dX12_findPlan_62 rfl ?_
                refine s_iand hV dX12_findPlan_63 (zb_and hor hov) ?_
                have hz2 := zb_and0 (a := a ||| m) (b := over) hor hov
                have hz21 := hz2.1
                have hz22 := hz2.2
                refine s_if_ne hV 140 dX12_findPlan_64 (by decide) (by unfold z_rg; first | omega | (split <;> omega)) (fun c64 => ?_) (fun c64 => ?_)
                · refine s_iinc hV dX12_findPlan_140 rfl (z_st1_7_4 rfl) ?_
                  refine r_goto hV 21 dX12_findPlan_143 (by decide) ?_
                  refine r_kill hV 5 z_stk_7_5 ?_
                  refine r_kill hV 6 z_stk_7_6 ?_
                  first
                    | exact ih21 (m + 1) I7 (zsum (f_wt (a ||| m) U) e, H a + G m, (a : Int), (m : Int)) (by omega) (by omega) (by rw [zit, ← hB2, f_fp, if_pos ⟨⟨⟨by omega, by omega⟩, by omega, by omega⟩, by omega⟩]) (by have := f_fp_b (over := over) (has := has) hH hG hUb he6 (show a < 64 by omega) (show m < 64 by omega) hb2; unfold f_fp at this; rwa [if_pos ⟨⟨⟨by omega, by omega⟩, by omega, by omega⟩, by omega⟩] at this) ⟨(kI7 32 (by omega)).trans ((kI6 32 (by omega)).trans ((kI5 32 (by omega)).trans sI4)), (kI7 33 (by omega)).trans ((kI6 33 (by omega)).trans sI5), (kI7 34 (by omega)).trans sI6, sI7⟩ (fun q a => (uI7 q a).trans ((uI6 q a).trans ((uI5 q a).trans ((uI4 q a).trans (hq2 q a))))) (fun k a => (kI7 k (by omega)).trans ((kI6 k (by omega)).trans ((kI5 k (by omega)).trans ((kI4 k (by omega)).trans (hk2 k a)))))
                    | exact ih21 (m + 1) I3 B2 (by omega) (by omega) (by rw [zit, ← hB2, f_fp, if_neg (by omega)]) hb2 hp2 hq2 hk2
                · refine r_iload hV dX12_findPlan_67 rfl ?_
                  refine s_ldc hV dX12_findPlan_69 ct_X12_103 (99999) (by decide) ?_
                  refine s_icmp_ge hV 140 dX12_findPlan_71 (by decide) (by unfold z_rg; first | omega | (split <;> omega)) (by unfold z_rg; first | omega | (split <;> omega)) (fun c71 => ?_) (fun c71 => ?_)
                  · refine s_iinc hV dX12_findPlan_140 rfl (z_st1_7_4 rfl) ?_
                    refine r_goto hV 21 dX12_findPlan_143 (by decide) ?_
                    refine r_kill hV 5 z_stk_7_5 ?_
                    refine r_kill hV 6 z_stk_7_6 ?_
                    first
                      | exact ih21 (m + 1) I7 (zsum (f_wt (a ||| m) U) e, H a + G m, (a : Int), (m : Int)) (by omega) (by omega) (by rw [zit, ← hB2, f_fp, if_pos ⟨⟨⟨by omega, by omega⟩, by omega, by omega⟩, by omega⟩]) (by have := f_fp_b (over := over) (has := has) hH hG hUb he6 (show a < 64 by omega) (show m < 64 by omega) hb2; unfold f_fp at this; rwa [if_pos ⟨⟨⟨by omega, by omega⟩, by omega, by omega⟩, by omega⟩] at this) ⟨(kI7 32 (by omega)).trans ((kI6 32 (by omega)).trans ((kI5 32 (by omega)).trans sI4)), (kI7 33 (by omega)).trans ((kI6 33 (by omega)).trans sI5), (kI7 34 (by omega)).trans sI6, sI7⟩ (fun q a => (uI7 q a).trans ((uI6 q a).trans ((uI5 q a).trans ((uI4 q a).trans (hq2 q a))))) (fun k a => (kI7 k (by omega)).trans ((kI6 k (by omega)).trans ((kI5 k (by omega)).trans ((kI4 k (by omega)).trans (hk2 k a)))))
                      | exact ih21 (m + 1) I3 B2 (by omega) (by omega) (by rw [zit, ← hB2, f_fp, if_neg (by omega)]) hb2 hp2 hq2 hk2
                  · refine r_iload hV dX12_findPlan_74 rfl ?_
                    refine r_iload_n hV dX12_findPlan_76 rfl ?_
                    refine s_icmp_gt hV 140 dX12_findPlan_77 (by decide) (by unfold z_rg; first | omega | (split <;> omega)) (by unfold z_rg; first | omega | (split <;> omega)) (fun c77 => ?_) (fun c77 => ?_)
                    · refine s_iinc hV dX12_findPlan_140 rfl (z_st1_7_4 rfl) ?_
                      refine r_goto hV 21 dX12_findPlan_143 (by decide) ?_
                      refine r_kill hV 5 z_stk_7_5 ?_
                      refine r_kill hV 6 z_stk_7_6 ?_
                      first
                        | exact ih21 (m + 1) I7 (zsum (f_wt (a ||| m) U) e, H a + G m, (a : Int), (m : Int)) (by omega) (by omega) (by rw [zit, ← hB2, f_fp, if_pos ⟨⟨⟨by omega, by omega⟩, by omega, by omega⟩, by omega⟩]) (by have := f_fp_b (over := over) (has := has) hH hG hUb he6 (show a < 64 by omega) (show m < 64 by omega) hb2; unfold f_fp at this; rwa [if_pos ⟨⟨⟨by omega, by omega⟩, by omega, by omega⟩, by omega⟩] at this) ⟨(kI7 32 (by omega)).trans ((kI6 32 (by omega)).trans ((kI5 32 (by omega)).trans sI4)), (kI7 33 (by omega)).trans ((kI6 33 (by omega)).trans sI5), (kI7 34 (by omega)).trans sI6, sI7⟩ (fun q a => (uI7 q a).trans ((uI6 q a).trans ((uI5 q a).trans ((uI4 q a).trans (hq2 q a))))) (fun k a => (kI7 k (by omega)).trans ((kI6 k (by omega)).trans ((kI5 k (by omega)).trans ((kI4 k (by omega)).trans (hk2 k a)))))
                        | exact ih21 (m + 1) I3 B2 (by omega) (by omega) (by rw [zit, ← hB2, f_fp, if_neg (by omega)]) hb2 hp2 hq2 hk2
                    · refine r_aload_n hV dX12_findPlan_80 rfl rfl ?_
                      refine r_iload_n hV dX12_findPlan_81 rfl ?_
                      refine r_iload hV dX12_findPlan_82 rfl ?_
                      refine s_ior hV dX12_findPlan_84 (zb_or (by omega) (by omega)) ?_
                      refine q_iv1v hV dX12_findPlan_85 mv_X12_188 (n_worthOf I3 J P hM e ((hk2 8 (by omega)).trans h8) he6 U (z_ar_fr hU (hq2 82 (by omega))) (a ||| m) hor) (by first | decide | omega) (by first | rfl | assumption) (by decide) (Nat.le_refl _) (Nat.le_of_ble_eq_true rfl) ?_
                      have hwt := f_wt_b (s := a ||| m) hUb he6
                      refine r_istore hV dX12_findPlan_88 (Nat.le_of_ble_eq_true rfl) (z_st1_7_6 rfl) ?_
                      refine r_iload hV dX12_findPlan_90 rfl ?_
                      refine r_aload_n hV dX12_findPlan_92 rfl rfl ?_
                      refine r_getI hV dX12_findPlan_93 fl_X12_223 (by first | decide | omega) (by first | rfl | assumption) hp2.1 ?_
                      refine s_icmp_gt hV 117 dX12_findPlan_96 (by decide) (by unfold z_rg; first | omega | (split <;> omega)) (by unfold z_rg; first | omega | (split <;> omega)) (fun c96 => ?_) (fun c96 => ?_)
                      · refine r_aload_n hV dX12_findPlan_117 rfl rfl ?_
                        refine r_iload hV dX12_findPlan_118 rfl ?_
                        refine r_putI hV dX12_findPlan_120 fl_X12_223 (pf_X12_223 _) (z_okI_int rfl _) (by first | decide | omega) (by first | rfl | assumption) ?_
                        generalize hgI4 : zu I3 78 (zu (I3 78) 32 (iI (zsum (f_wt (a ||| m) U) e))) = I4
                        have uI4 : ∀ p, p ≠ 78 → I4 p = I3 p := fun p a => by rw [← hgI4, zu_n _ _ a]
                        have kI4 : ∀ k, k ≠ 32 → I4 78 k = I3 78 k := fun k a => by rw [← hgI4, zu_s, zu_n _ _ a]
                        have sI4 : I4 78 32 = iI (zsum (f_wt (a ||| m) U) e) := by rw [← hgI4, zu_s, zu_s]
                        clear hgI4
                        refine r_aload_n hV dX12_findPlan_123 rfl rfl ?_
                        refine r_iload hV dX12_findPlan_124 rfl ?_
                        refine r_putI hV dX12_findPlan_126 fl_X12_226 (pf_X12_226 _) (z_okI_int rfl _) (by first | decide | omega) (by first | rfl | assumption) ?_
                        generalize hgI5 : zu I4 78 (zu (I4 78) 33 (iI (H a + G m))) = I5
                        have uI5 : ∀ p, p ≠ 78 → I5 p = I4 p := fun p a => by rw [← hgI5, zu_n _ _ a]
                        have kI5 : ∀ k, k ≠ 33 → I5 78 k = I4 78 k := fun k a => by rw [← hgI5, zu_s, zu_n _ _ a]
                        have sI5 : I5 78 33 = iI (H a + G m) := by rw [← hgI5, zu_s, zu_s]
                        clear hgI5
                        refine r_aload_n hV dX12_findPlan_129 rfl rfl ?_
                        refine r_iload_n hV dX12_findPlan_130 rfl ?_
                        refine r_putI hV dX12_findPlan_131 fl_X12_229 (pf_X12_229 _) (z_okI_int rfl _) (by first | decide | omega) (by first | rfl | assumption) ?_
                        generalize hgI6 : zu I5 78 (zu (I5 78) 34 (iI ((a : Int)))) = I6
                        have uI6 : ∀ p, p ≠ 78 → I6 p = I5 p := fun p a => by rw [← hgI6, zu_n _ _ a]
                        have kI6 : ∀ k, k ≠ 34 → I6 78 k = I5 78 k := fun k a => by rw [← hgI6, zu_s, zu_n _ _ a]
                        have sI6 : I6 78 34 = iI ((a : Int)) := by rw [← hgI6, zu_s, zu_s]
                        clear hgI6
                        refine r_aload_n hV dX12_findPlan_134 rfl rfl ?_
                        refine r_iload hV dX12_findPlan_135 rfl ?_
                        refine r_putI hV dX12_findPlan_137 fl_X12_232 (pf_X12_232 _) (z_okI_int rfl _) (by first | decide | omega) (by first | rfl | assumption) ?_
                        generalize hgI7 : zu I6 78 (zu (I6 78) 35 (iI ((m : Int)))) = I7
                        have uI7 : ∀ p, p ≠ 78 → I7 p = I6 p := fun p a => by rw [← hgI7, zu_n _ _ a]
                        have kI7 : ∀ k, k ≠ 35 → I7 78 k = I6 78 k := fun k a => by rw [← hgI7, zu_s, zu_n _ _ a]
                        have sI7 : I7 78 35 = iI ((m : Int)) := by rw [← hgI7, zu_s, zu_s]
                        clear hgI7
                        refine s_iinc hV dX12_findPlan_140 rfl (z_st1_7_4 rfl) ?_
                        refine r_goto hV 21 dX12_findPlan_143 (by decide) ?_
                        refine r_kill hV 5 z_stk_7_5 ?_
                        refine r_kill hV 6 z_stk_7_6 ?_
                        first
                          | exact ih21 (m + 1) I7 (zsum (f_wt (a ||| m) U) e, H a + G m, (a : Int), (m : Int)) (by omega) (by omega) (by rw [zit, ← hB2, f_fp, if_pos ⟨⟨⟨by omega, by omega⟩, by omega, by omega⟩, by omega⟩]) (by have := f_fp_b (over := over) (has := has) hH hG hUb he6 (show a < 64 by omega) (show m < 64 by omega) hb2; unfold f_fp at this; rwa [if_pos ⟨⟨⟨by omega, by omega⟩, by omega, by omega⟩, by omega⟩] at this) ⟨(kI7 32 (by omega)).trans ((kI6 32 (by omega)).trans ((kI5 32 (by omega)).trans sI4)), (kI7 33 (by omega)).trans ((kI6 33 (by omega)).trans sI5), (kI7 34 (by omega)).trans sI6, sI7⟩ (fun q a => (uI7 q a).trans ((uI6 q a).trans ((uI5 q a).trans ((uI4 q a).trans (hq2 q a))))) (fun k a => (kI7 k (by omega)).trans ((kI6 k (by omega)).trans ((kI5 k (by omega)).trans ((kI4 k (by omega)).trans (hk2 k a)))))
                          | exact ih21 (m + 1) I3 B2 (by omega) (by omega) (by rw [zit, ← hB2, f_fp, if_neg (by omega)]) hb2 hp2 hq2 hk2
                      · refine r_iload hV dX12_findPlan_99 rfl ?_
                        refine r_aload_n hV dX12_findPlan_101 rfl rfl ?_
                        refine r_getI hV dX12_findPlan_102 fl_X12_223 (by first | decide | omega) (by first | rfl | assumption) hp2.1 ?_
                        refine s_icmp_ne hV 140 dX12_findPlan_105 (by decide) (by unfold z_rg; first | omega | (split <;> omega)) (by unfold z_rg; first | omega | (split <;> omega)) (fun c105 => ?_) (fun c105 => ?_)
                        · refine s_iinc hV dX12_findPlan_140 rfl (z_st1_7_4 rfl) ?_
                          refine r_goto hV 21 dX12_findPlan_143 (by decide) ?_
                          refine r_kill hV 5 z_stk_7_5 ?_
                          refine r_kill hV 6 z_stk_7_6 ?_
                          first
                            | exact ih21 (m + 1) I7 (zsum (f_wt (a ||| m) U) e, H a + G m, (a : Int), (m : Int)) (by omega) (by omega) (by rw [zit, ← hB2, f_fp, if_pos ⟨⟨⟨by omega, by omega⟩, by omega, by omega⟩, by omega⟩]) (by have := f_fp_b (over := over) (has := has) hH hG hUb he6 (show a < 64 by omega) (show m < 64 by omega) hb2; unfold f_fp at this; rwa [if_pos ⟨⟨⟨by omega, by omega⟩, by omega, by omega⟩, by omega⟩] at this) ⟨(kI7 32 (by omega)).trans ((kI6 32 (by omega)).trans ((kI5 32 (by omega)).trans sI4)), (kI7 33 (by omega)).trans ((kI6 33 (by omega)).trans sI5), (kI7 34 (by omega)).trans sI6, sI7⟩ (fun q a => (uI7 q a).trans ((uI6 q a).trans ((uI5 q a).trans ((uI4 q a).trans (hq2 q a))))) (fun k a => (kI7 k (by omega)).trans ((kI6 k (by omega)).trans ((kI5 k (by omega)).trans ((kI4 k (by omega)).trans (hk2 k a)))))
                            | exact ih21 (m + 1) I3 B2 (by omega) (by omega) (by rw [zit, ← hB2, f_fp, if_neg (by omega)]) hb2 hp2 hq2 hk2
                        · refine r_iload hV dX12_findPlan_108 rfl ?_
                          refine r_aload_n hV dX12_findPlan_110 rfl rfl ?_
                          refine r_getI hV dX12_findPlan_111 fl_X12_226 (by first | decide | omega) (by first | rfl | assumption) hp2.2.1 ?_
                          refine s_icmp_ge hV 140 dX12_findPlan_114 (by decide) (by unfold z_rg; first | omega | (split <;> omega)) (by unfold z_rg; first | omega | (split <;> omega)) (fun c114 => ?_) (fun c114 => ?_)
                          · refine s_iinc hV dX12_findPlan_140 rfl (z_st1_7_4 rfl) ?_
                            refine r_goto hV 21 dX12_findPlan_143 (by decide) ?_
                            refine r_kill hV 5 z_stk_7_5 ?_
                            refine r_kill hV 6 z_stk_7_6 ?_
                            first
                              | exact ih21 (m + 1) I7 (zsum (f_wt (a ||| m) U) e, H a + G m, (a : Int), (m : Int)) (by omega) (by omega) (by rw [zit, ← hB2, f_fp, if_pos ⟨⟨⟨by omega, by omega⟩, by omega, by omega⟩, by omega⟩]) (by have := f_fp_b (over := over) (has := has) hH hG hUb he6 (show a < 64 by omega) (show m < 64 by omega) hb2; unfold f_fp at this; rwa [if_pos ⟨⟨⟨by omega, by omega⟩, by omega, by omega⟩, by omega⟩] at this) ⟨(kI7 32 (by omega)).trans ((kI6 32 (by omega)).trans ((kI5 32 (by omega)).trans sI4)), (kI7 33 (by omega)).trans ((kI6 33 (by omega)).trans sI5), (kI7 34 (by omega)).trans sI6, sI7⟩ (fun q a => (uI7 q a).trans ((uI6 q a).trans ((uI5 q a).trans ((uI4 q a).trans (hq2 q a))))) (fun k a => (kI7 k (by omega)).trans ((kI6 k (by omega)).trans ((kI5 k (by omega)).trans ((kI4 k (by omega)).trans (hk2 k a)))))
                              | exact ih21 (m + 1) I3 B2 (by omega) (by omega) (by rw [zit, ← hB2, f_fp, if_neg (by omega)]) hb2 hp2 hq2 hk2
                          · refine r_aload_n hV dX12_findPlan_117 rfl rfl ?_
                            refine r_iload hV dX12_findPlan_118 rfl ?_
                            refine r_putI hV dX12_findPlan_120 fl_X12_223 (pf_X12_223 _) (z_okI_int rfl _) (by first | decide | omega) (by first | rfl | assumption) ?_
                            generalize hgI4 : zu I3 78 (zu (I3 78) 32 (iI (zsum (f_wt (a ||| m) U) e))) = I4
                            have uI4 : ∀ p, p ≠ 78 → I4 p = I3 p := fun p a => by rw [← hgI4, zu_n _ _ a]
                            have kI4 : ∀ k, k ≠ 32 → I4 78 k = I3 78 k := fun k a => by rw [← hgI4, zu_s, zu_n _ _ a]
                            have sI4 : I4 78 32 = iI (zsum (f_wt (a ||| m) U) e) := by rw [← hgI4, zu_s, zu_s]
                            clear hgI4
                            refine r_aload_n hV dX12_findPlan_123 rfl rfl ?_
                            refine r_iload hV dX12_findPlan_124 rfl ?_
                            refine r_putI hV dX12_findPlan_126 fl_X12_226 (pf_X12_226 _) (z_okI_int rfl _) (by first | decide | omega) (by first | rfl | assumption) ?_
                            generalize hgI5 : zu I4 78 (zu (I4 78) 33 (iI (H a + G m))) = I5
                            have uI5 : ∀ p, p ≠ 78 → I5 p = I4 p := fun p a => by rw [← hgI5, zu_n _ _ a]
                            have kI5 : ∀ k, k ≠ 33 → I5 78 k = I4 78 k := fun k a => by rw [← hgI5, zu_s, zu_n _ _ a]
                            have sI5 : I5 78 33 = iI (H a + G m) := by rw [← hgI5, zu_s, zu_s]
                            clear hgI5
                            refine r_aload_n hV dX12_findPlan_129 rfl rfl ?_
                            refine r_iload_n hV dX12_findPlan_130 rfl ?_
                            refine r_putI hV dX12_findPlan_131 fl_X12_229 (pf_X12_229 _) (z_okI_int rfl _) (by first | decide | omega) (by first | rfl | assumption) ?_
                            generalize hgI6 : zu I5 78 (zu (I5 78) 34 (iI ((a : Int)))) = I6
                            have uI6 : ∀ p, p ≠ 78 → I6 p = I5 p := fun p a => by rw [← hgI6, zu_n _ _ a]
                            have kI6 : ∀ k, k ≠ 34 → I6 78 k = I5 78 k := fun k a => by rw [← hgI6, zu_s, zu_n _ _ a]
                            have sI6 : I6 78 34 = iI ((a : Int)) := by rw [← hgI6, zu_s, zu_s]
                            clear hgI6
                            refine r_aload_n hV dX12_findPlan_134 rfl rfl ?_
                            refine r_iload hV dX12_findPlan_135 rfl ?_
                            refine r_putI hV dX12_findPlan_137 fl_X12_232 (pf_X12_232 _) (z_okI_int rfl _) (by first | decide | omega) (by first | rfl | assumption) ?_
                            generalize hgI7 : zu I6 78 (zu (I6 78) 35 (iI ((m : Int)))) = I7
                            have uI7 : ∀ p, p ≠ 78 → I7 p = I6 p := fun p a => by rw [← hgI7, zu_n _ _ a]
                            have kI7 : ∀ k, k ≠ 35 → I7 78 k = I6 78 k := fun k a => by rw [← hgI7, zu_s, zu_n _ _ a]
                            have sI7 : I7 78 35 = iI ((m : Int)) := by rw [← hgI7, zu_s, zu_s]
                            clear hgI7
                            refine s_iinc hV dX12_findPlan_140 rfl (z_st1_7_4 rfl) ?_
                            refine r_goto hV 21 dX12_findPlan_143 (by decide) ?_
                            refine r_kill hV 5 z_stk_7_5 ?_
                            refine r_kill hV 6 z_stk_7_6 ?_
                            first
                              | exact ih21 (m + 1) I7 (zsum (f_wt (a ||| m) U) e, H a + G m, (a : Int), (m : Int)) (by omega) (by omega) (by rw [zit, ← hB2, f_fp, if_pos ⟨⟨⟨by omega, by omega⟩, by omega, by omega⟩, by omega⟩]) (by have := f_fp_b (over := over) (has := has) hH hG hUb he6 (show a < 64 by omega) (show m < 64 by omega) hb2; unfold f_fp at this; rwa [if_pos ⟨⟨⟨by omega, by omega⟩, by omega, by omega⟩, by omega⟩] at this) ⟨(kI7 32 (by omega)).trans ((kI6 32 (by omega)).trans ((kI5 32 (by omega)).trans sI4)), (kI7 33 (by omega)).trans ((kI6 33 (by omega)).trans sI5), (kI7 34 (by omega)).trans sI6, sI7⟩ (fun q a => (uI7 q a).trans ((uI6 q a).trans ((uI5 q a).trans ((uI4 q a).trans (hq2 q a))))) (fun k a => (kI7 k (by omega)).trans ((kI6 k (by omega)).trans ((kI5 k (by omega)).trans ((kI4 k (by omega)).trans (hk2 k a)))))
                              | exact ih21 (m + 1) I3 B2 (by omega) (by omega) (by rw [zit, ← hB2, f_fp, if_neg (by omega)]) hb2 hp2 hq2 hk2
        exact L21 (2 ^ e + 1) 0 I2 B (by omega) (by omega) rfl hbB hpB hqB hkB
  exact L8 (2 ^ e + 1) 0 I1 ((-9 : Int), (I 78 33).toInt, (I 78 34).toInt, (I 78 35).toInt) (by omega) (by omega) rfl ⟨⟨by simp only; omega, by simp only; omega⟩, iI_rg _⟩ ⟨s32, (k1 33 (by omega)).trans (iI_of _), (k1 34 (by omega)).trans (iI_of _), (k1 35 (by omega)).trans (iI_of _)⟩ u1 (fun k a => k1 k (by omega))

/-- a plan, as the other one finds it: worth (-9: none), steps, her set, his set -/
def f_mpl (H G : Nat → Int) (U : Int → Int) (e over : Nat) (has : Int) : zB4 := zit (f_fpl H G U e over has) (2 ^ e) (-9, 0, 0, 0)
theorem f_fp_like {H G : Nat → Int} {U : Int → Int} {e over hers mine : Nat} {has : Int} {B C : zB4} (hU : 0 ≤ zsum (f_wt (hers ||| mine) U) e) (h : B = C ∨ (B.1 = -9 ∧ C.1 = -9)) : f_fp H G U e over has hers mine B = f_fp H G U e over has hers mine C ∨ ((f_fp H G U e over has hers mine B).1 = -9 ∧ (f_fp H G U e over has hers mine C).1 = -9) := by
  rcases h with h | ⟨h1, h2⟩
  · left; rw [h]
  · unfold f_fp
    by_cases q : (hers &&& mine = 0 ∧ (hers ||| mine) &&& over = 0) ∧ H hers + G mine < 99999 ∧ H hers + G mine ≤ has
    · left
      rw [if_pos ⟨q, Or.inl (by omega)⟩, if_pos ⟨q, Or.inl (by omega)⟩]
    · right
      rw [if_neg (fun hh => q hh.1), if_neg (fun hh => q hh.1)]
      exact ⟨h1, h2⟩
theorem f_mpl_g {H G : Nat → Int} {U : Int → Int} {e over : Nat} {has a b c : Int} (hU : z_bd U 6 0 9) (he : e ≤ 6) : zit (f_fpl H G U e over has) (2 ^ e) (-9, a, b, c) = f_mpl H G U e over has ∨ ((zit (f_fpl H G U e over has) (2 ^ e) (-9, a, b, c)).1 = -9 ∧ (f_mpl H G U e over has).1 = -9) := by
  refine zit_rel (R := fun _ (B C : zB4) => B = C ∨ (B.1 = -9 ∧ C.1 = -9)) (n := 2 ^ e) (fun k B C hk hR => ?_) (2 ^ e) (Nat.le_refl _) _ _ (Or.inr ⟨rfl, rfl⟩)
  unfold f_fpl
  exact zit_rel (R := fun _ (B C : zB4) => B = C ∨ (B.1 = -9 ∧ C.1 = -9)) (s := f_fp H G U e over has k) (t := f_fp H G U e over has k) (n := 2 ^ e) (fun j B C hj hR => f_fp_like (f_wt_b hU he).1 hR) (2 ^ e) (Nat.le_refl _) _ _ hR
def f_mplan (B : zB4) (w : Int) : Int := if w < 0 ∨ 3 < w then -2 else if B.1 = -9 then -9 else if w = 0 then B.1 else if w = 1 then B.2.1 else if w = 2 then B.2.2.1 else B.2.2.2
def q_mpn (I : zI) (J : zJ) (P : zP) (a : Int) (v : Option Value) (I1 : zI) (J1 : zJ) (P1 : zP) : Prop := v = some (.int (iI a)) ∧ J1 = J ∧ P1 = P ∧ (∀ q, q ≠ 78 → q ≠ 93 → q ≠ 94 → I1 q = I q) ∧ ∀ k, 0 < k → k < 32 → I1 78 k = I 78 k
set_option maxRecDepth 20000 in
theorem n_plan (I : zI) (J : zJ) (P : zP) (hM : mK P) (tl st r c : Int) (n e : Nat) (T F W U K S : Int → Int) (hI : mI I tl st r c n e T F W U K S) (hnb : 2 ≤ n ∧ n ≤ 6) (he6 : e ≤ 6) (hFd : zD F) (hWb : z_bd W e 0 (n - 1)) (hUb : z_bd U 6 0 9) (hKb : z_bd K 6 0 2) (dn dh : Nat) (hg : cG n S dn dh) (w : Int) (hw : z_rg w) : z_Sp 3 yX12_plan cX12_plan 2 (some .int) 108 108 I J P [.ref 78, .int (iI w)] (q_mpn I J P (f_mplan (f_mpl (f_mt (mF F) W K 0 (S 0) 0 e) (f_mt (mF F) W K 1 (S 1) 0 e) U e dn (S 2)) w)) := by
  obtain ⟨o1, o7, o9, o10, o11, o16, o17, o18, o19, o20, o25, o26, o28, o29, o30, o31, o36, o37, o38, o39, o40, o41, o42, o43, o44, o45, o46, o47, o48⟩ := id hM
  obtain ⟨g0, g1, g2, g3, g4, g5, g6, g7, g8⟩ := id hg
  have hw1 := hw.1
  have hw2 := hw.2
  have hMb := mF_b hFd
  refine z_met false (by decide +kernel) (fun h => by cases h) (Nat.le_of_ble_eq_true rfl) (by first | decide | omega) (fun V hV => ?_)
  show V 108 I J P 0 [.ref 78, .int (iI w)] []
  refine r_aload_n hV dX12_plan_0 rfl rfl ?_
  refine s_iconst hV dX12_plan_1 (0) (by decide) ?_
  refine r_putI hV dX12_plan_2 fl_X12_104 (pf_X12_104 _) (z_okI_int rfl _) (by first | decide | omega) (by first | rfl | assumption) ?_
  generalize hI0e : zu I 78 (zu (I 78) 0 (iI 0)) = I0
  have t0 : ∀ q, q ≠ 78 → I0 q = I q := fun q h => by rw [← hI0e, zu_n _ _ h]
  have t1 : ∀ k, k ≠ 0 → I0 78 k = I 78 k := fun k h => by rw [← hI0e, zu_s, zu_n _ _ h]
  clear hI0e
  have hI0 := mI_fr hI t0 t1
  obtain ⟨⟨i20, i40, i50, i60, i80, i210, i220, i230, i240, i270⟩, zT0, zF0, zW0, zU0, zK0, zA0, zN0⟩ := id hI0
  refine r_iload_n hV dX12_plan_5 rfl ?_
  refine s_i2l hV dX12_plan_6 (by unfold z_rg; first | omega | (split <;> omega)) ?_
  refine s_lconst hV dX12_plan_7 (0) (by decide) ?_
  refine s_ldc2_w hV dX12_plan_8 cl_X12_235 (3) (by decide) ?_
  refine q_is3v hV dX12_plan_11 ms_X12_107 (n_in I0 J P (w) (0) (3) (by unfold z_rgL; omega) (by unfold z_rgL; omega) (by unfold z_rgL; omega)) (by decide) (Nat.le_refl _) (Nat.le_of_ble_eq_true rfl) ?_
  refine s_if_ne hV 20 dX12_plan_14 (by decide) (by unfold z_rg; first | omega | (split <;> omega)) (fun c14 => ?_) (fun c14 => ?_)
  · refine r_aload_n hV dX12_plan_20 rfl rfl ?_
    refine s_iconst hV dX12_plan_21 (0) (by decide) ?_
    refine r_aload_n hV dX12_plan_22 rfl rfl ?_
    refine r_getR hV dX12_plan_23 fl_X12_41 (by first | decide | omega) (by first | rfl | assumption) o20 ?_
    refine s_iconst hV dX12_plan_26 (0) (by decide) ?_
    refine s_iaload hV dX12_plan_27 (by first | decide | omega) (by first | rfl | assumption) (by decide) (by omega) (by omega) (zA0 0 (by omega) (by omega)) ?_
    refine s_iconst hV dX12_plan_28 (0) (by decide) ?_
    refine r_iv3 hV dX12_plan_29 mv_X12_219 (n_layTours I0 J P hM (mF F) W K zF0 hMb n e i80 he6 hnb.2 zW0 hWb zK0 hKb 0 (S 0) 0 (by omega) g0 (by omega)) (by first | decide | omega) (by first | rfl | assumption) (by decide) (Nat.le_refl _) (Nat.le_of_ble_eq_true rfl) (fun vI2 I2 JI2 PI2 hq => ?_)
    obtain ⟨rfl, ej, ep, z1I2, z2I2, zfI2⟩ := hq
    rw [ej, ep]
    show V 108 I2 J P _ _ []
    clear ej ep
    
    refine r_aload_n hV dX12_plan_32 rfl rfl ?_
    refine s_iconst hV dX12_plan_33 (1) (by decide) ?_
    refine r_aload_n hV dX12_plan_34 rfl rfl ?_
    refine r_getR hV dX12_plan_35 fl_X12_41 (by first | decide | omega) (by first | rfl | assumption) o20 ?_
    refine s_iconst hV dX12_plan_38 (1) (by decide) ?_
    refine s_iaload hV dX12_plan_39 (by first | decide | omega) (by first | rfl | assumption) (by decide) (by omega) (by omega) ((congrFun (zfI2 88 (by omega) (by omega)) _).trans (zA0 1 (by omega) (by omega))) ?_
    refine s_iconst hV dX12_plan_40 (0) (by decide) ?_
    refine r_iv3 hV dX12_plan_41 mv_X12_219 (n_layTours I2 J P hM (mF F) W K (z_ar_fr zF0 (zfI2 80 (by omega) (by omega))) hMb n e ((congrFun (zfI2 78 (by omega) (by omega)) 8).trans i80) he6 hnb.2 (z_ar_fr zW0 (zfI2 81 (by omega) (by omega))) hWb (z_ar_fr zK0 (zfI2 83 (by omega) (by omega))) hKb 1 (S 1) 0 (by omega) g1 (by omega)) (by first | decide | omega) (by first | rfl | assumption) (by decide) (Nat.le_refl _) (Nat.le_of_ble_eq_true rfl) (fun vI3 I3 JI3 PI3 hq => ?_)
    obtain ⟨rfl, ej, ep, z1I3, z2I3, zfI3⟩ := hq
    rw [ej, ep]
    show V 108 I3 J P _ _ []
    clear ej ep
    have hT0 : ∀ s : Nat, s < 64 → I3 93 s = iI (f_mt (mF F) W K 0 (S 0) 0 e s) := fun s hs => by
      have h1 := z2I3 (s : Int) (by omega) (by omega)
      rw [Int.toNat_natCast] at h1
      rw [h1, (f_lts_t (K := K) (w := 1) hMb hWb hnb.2 he6 g1 (by omega) 64).2 _ (by omega)]
      unfold f_w0
      have h2 := z2I2 (s : Int) (by omega) (by omega)
      rw [Int.toNat_natCast] at h2
      rw [Int.toNat_natCast, h2]
      have h3 := q_lts_mt (M := mF F) (W := W) (K := K) (w := 0) (fr := S 0) (to := 0) (A := f_w0 I0 94) (B := f_w0 I0 93) he6 hs
      rw [show 64 * (0 : Int) + (s : Int) = (s : Int) by omega] at h3
      rw [h3, ← iI_of]
    have hT1 : ∀ s : Nat, s < 64 → I3 93 (64 + s) = iI (f_mt (mF F) W K 1 (S 1) 0 e s) := fun s hs => by
      have h1 := z2I3 (64 * 1 + (s : Int)) (by omega) (by omega)
      rw [show (64 * 1 + (s : Int)).toNat = 64 + s by omega] at h1
      rw [h1, q_lts_mt he6 hs]
    have hHb : ∀ s, s < 64 → 0 ≤ f_mt (mF F) W K 0 (S 0) 0 e s ∧ f_mt (mF F) W K 0 (S 0) 0 e s ≤ 99999 := fun s hs => f_mt_b hMb hWb hnb.2 he6 g0 (by omega) hs
    have hGb : ∀ s, s < 64 → 0 ≤ f_mt (mF F) W K 1 (S 1) 0 e s ∧ f_mt (mF F) W K 1 (S 1) 0 e s ≤ 99999 := fun s hs => f_mt_b hMb hWb hnb.2 he6 g1 (by omega) hs
    refine r_aload_n hV dX12_plan_44 rfl rfl ?_
    refine r_aload_n hV dX12_plan_45 rfl rfl ?_
    refine r_getI hV dX12_plan_46 fl_X12_168 (by first | decide | omega) (by first | rfl | assumption) ((congrFun ((zfI3 78 (by omega) (by omega)).trans (zfI2 78 (by omega) (by omega))) 22).trans (i220.trans (by rw [g3]))) ?_
    refine r_aload_n hV dX12_plan_49 rfl rfl ?_
    refine r_getI hV dX12_plan_50 fl_X12_165 (by first | decide | omega) (by first | rfl | assumption) ((congrFun ((zfI3 78 (by omega) (by omega)).trans (zfI2 78 (by omega) (by omega))) 21).trans i210) ?_
    refine r_iv2 hV dX12_plan_53 mv_X12_237 (n_findPlan I3 J P hM e ((congrFun ((zfI3 78 (by omega) (by omega)).trans (zfI2 78 (by omega) (by omega))) 8).trans i80) he6 U (z_ar_fr zU0 ((zfI3 82 (by omega) (by omega)).trans (zfI2 82 (by omega) (by omega)))) hUb (f_mt (mF F) W K 0 (S 0) 0 e) (f_mt (mF F) W K 1 (S 1) 0 e) hT0 hT1 hHb hGb dn g4 (S 2) (by omega)) (by first | decide | omega) (by first | rfl | assumption) (by decide) (Nat.le_refl _) (Nat.le_of_ble_eq_true rfl) (fun v4 I4 J4 P4 hq => ?_)
    have hlk := f_mpl_g (H := f_mt (mF F) W K 0 (S 0) 0 e) (G := f_mt (mF F) W K 1 (S 1) 0 e) (over := dn) (has := S 2) (a := (I3 78 33).toInt) (b := (I3 78 34).toInt) (c := (I3 78 35).toInt) hUb he6
    generalize zit (f_fpl (f_mt (mF F) W K 0 (S 0) 0 e) (f_mt (mF F) W K 1 (S 1) 0 e) U e dn (S 2)) (2 ^ e) (-9, (I3 78 33).toInt, (I3 78 34).toInt, (I3 78 35).toInt) = B at hq hlk
    obtain ⟨rfl, ej, ep, ⟨c1, c2, c3, c4⟩, ⟨⟨b1, b2⟩, b3⟩, uq, uk⟩ := hq
    rw [ej, ep]
    show V 108 I4 J P _ _ []
    clear ej ep
    refine r_aload_n hV dX12_plan_56 rfl rfl ?_
    refine r_getI hV dX12_plan_57 fl_X12_223 (by first | decide | omega) (by first | rfl | assumption) c1 ?_
    refine s_bipush hV dX12_plan_60 (-9) (by decide) ?_
    refine s_icmp_ne hV 68 dX12_plan_62 (by decide) (by unfold z_rg; first | omega | (split <;> omega)) (by unfold z_rg; first | omega | (split <;> omega)) (fun c62 => ?_) (fun c62 => ?_)
    · refine r_iload_n hV dX12_plan_68 rfl ?_
      refine s_if_ne hV 79 dX12_plan_69 (by decide) (by unfold z_rg; first | omega | (split <;> omega)) (fun c69 => ?_) (fun c69 => ?_)
      · refine r_iload_n hV dX12_plan_79 rfl ?_
        refine s_iconst hV dX12_plan_80 (1) (by decide) ?_
        refine s_icmp_ne hV 91 dX12_plan_81 (by decide) (by unfold z_rg; first | omega | (split <;> omega)) (by unfold z_rg; first | omega | (split <;> omega)) (fun c81 => ?_) (fun c81 => ?_)
        · refine r_iload_n hV dX12_plan_91 rfl ?_
          refine s_iconst hV dX12_plan_92 (2) (by decide) ?_
          refine s_icmp_ne hV 103 dX12_plan_93 (by decide) (by unfold z_rg; first | omega | (split <;> omega)) (by unfold z_rg; first | omega | (split <;> omega)) (fun c93 => ?_) (fun c93 => ?_)
          · refine r_aload_n hV dX12_plan_103 rfl rfl ?_
            refine r_getI hV dX12_plan_104 fl_X12_232 (by first | decide | omega) (by first | rfl | assumption) c4 ?_
            refine r_iret hV dX12_plan_107 rfl rfl ?_
            first
              | (refine ⟨?_, rfl, rfl, fun q a b c => (uq q a).trans ((zfI3 q b c).trans ((zfI2 q b c).trans (t0 q a))), fun k a b => (uk k b).trans ((congrFun ((zfI3 78 (by omega) (by omega)).trans (zfI2 78 (by omega) (by omega))) k).trans (t1 k (by omega)))⟩
                 rcases hlk with hlk | ⟨l1, l2⟩
                 · rw [← hlk]
                   unfold f_mplan
                   first | rw [if_neg (by omega), if_neg (by omega), if_pos (by omega)] | (exfalso; omega)
                 · first | (exfalso; omega) | (unfold f_mplan; rw [if_neg (by omega), if_pos l2]))
              | (refine ⟨?_, rfl, rfl, fun q a b c => (uq q a).trans ((zfI3 q b c).trans ((zfI2 q b c).trans (t0 q a))), fun k a b => (uk k b).trans ((congrFun ((zfI3 78 (by omega) (by omega)).trans (zfI2 78 (by omega) (by omega))) k).trans (t1 k (by omega)))⟩
                 rcases hlk with hlk | ⟨l1, l2⟩
                 · rw [← hlk]
                   unfold f_mplan
                   first | rw [if_neg (by omega), if_neg (by omega), if_neg (by omega), if_pos (by omega)] | (exfalso; omega)
                 · first | (exfalso; omega) | (unfold f_mplan; rw [if_neg (by omega), if_pos l2]))
              | (refine ⟨?_, rfl, rfl, fun q a b c => (uq q a).trans ((zfI3 q b c).trans ((zfI2 q b c).trans (t0 q a))), fun k a b => (uk k b).trans ((congrFun ((zfI3 78 (by omega) (by omega)).trans (zfI2 78 (by omega) (by omega))) k).trans (t1 k (by omega)))⟩
                 rcases hlk with hlk | ⟨l1, l2⟩
                 · rw [← hlk]
                   unfold f_mplan
                   first | rw [if_neg (by omega), if_neg (by omega), if_neg (by omega), if_neg (by omega), if_pos (by omega)] | (exfalso; omega)
                 · first | (exfalso; omega) | (unfold f_mplan; rw [if_neg (by omega), if_pos l2]))
              | (refine ⟨?_, rfl, rfl, fun q a b c => (uq q a).trans ((zfI3 q b c).trans ((zfI2 q b c).trans (t0 q a))), fun k a b => (uk k b).trans ((congrFun ((zfI3 78 (by omega) (by omega)).trans (zfI2 78 (by omega) (by omega))) k).trans (t1 k (by omega)))⟩
                 rcases hlk with hlk | ⟨l1, l2⟩
                 · rw [← hlk]
                   unfold f_mplan
                   first | rw [if_neg (by omega), if_neg (by omega), if_neg (by omega), if_neg (by omega), if_neg (by omega)] | (exfalso; omega)
                 · first | (exfalso; omega) | (unfold f_mplan; rw [if_neg (by omega), if_pos l2]))
          · refine r_aload_n hV dX12_plan_96 rfl rfl ?_
            refine r_getI hV dX12_plan_97 fl_X12_229 (by first | decide | omega) (by first | rfl | assumption) c3 ?_
            refine r_goto hV 107 dX12_plan_100 (by decide) ?_
            refine r_iret hV dX12_plan_107 rfl rfl ?_
            first
              | (refine ⟨?_, rfl, rfl, fun q a b c => (uq q a).trans ((zfI3 q b c).trans ((zfI2 q b c).trans (t0 q a))), fun k a b => (uk k b).trans ((congrFun ((zfI3 78 (by omega) (by omega)).trans (zfI2 78 (by omega) (by omega))) k).trans (t1 k (by omega)))⟩
                 rcases hlk with hlk | ⟨l1, l2⟩
                 · rw [← hlk]
                   unfold f_mplan
                   first | rw [if_neg (by omega), if_neg (by omega), if_pos (by omega)] | (exfalso; omega)
                 · first | (exfalso; omega) | (unfold f_mplan; rw [if_neg (by omega), if_pos l2]))
              | (refine ⟨?_, rfl, rfl, fun q a b c => (uq q a).trans ((zfI3 q b c).trans ((zfI2 q b c).trans (t0 q a))), fun k a b => (uk k b).trans ((congrFun ((zfI3 78 (by omega) (by omega)).trans (zfI2 78 (by omega) (by omega))) k).trans (t1 k (by omega)))⟩
                 rcases hlk with hlk | ⟨l1, l2⟩
                 · rw [← hlk]
                   unfold f_mplan
                   first | rw [if_neg (by omega), if_neg (by omega), if_neg (by omega), if_pos (by omega)] | (exfalso; omega)
                 · first | (exfalso; omega) | (unfold f_mplan; rw [if_neg (by omega), if_pos l2]))
              | (refine ⟨?_, rfl, rfl, fun q a b c => (uq q a).trans ((zfI3 q b c).trans ((zfI2 q b c).trans (t0 q a))), fun k a b => (uk k b).trans ((congrFun ((zfI3 78 (by omega) (by omega)).trans (zfI2 78 (by omega) (by omega))) k).trans (t1 k (by omega)))⟩
                 rcases hlk with hlk | ⟨l1, l2⟩
                 · rw [← hlk]
                   unfold f_mplan
                   first | rw [if_neg (by omega), if_neg (by omega), if_neg (by omega), if_neg (by omega), if_pos (by omega)] | (exfalso; omega)
                 · first | (exfalso; omega) | (unfold f_mplan; rw [if_neg (by omega), if_pos l2]))
              | (refine ⟨?_, rfl, rfl, fun q a b c => (uq q a).trans ((zfI3 q b c).trans ((zfI2 q b c).trans (t0 q a))), fun k a b => (uk k b).trans ((congrFun ((zfI3 78 (by omega) (by omega)).trans (zfI2 78 (by omega) (by omega))) k).trans (t1 k (by omega)))⟩
                 rcases hlk with hlk | ⟨l1, l2⟩
                 · rw [← hlk]
                   unfold f_mplan
                   first | rw [if_neg (by omega), if_neg (by omega), if_neg (by omega), if_neg (by omega), if_neg (by omega)] | (exfalso; omega)
                 · first | (exfalso; omega) | (unfold f_mplan; rw [if_neg (by omega), if_pos l2]))
        · refine r_aload_n hV dX12_plan_84 rfl rfl ?_
          refine r_getI hV dX12_plan_85 fl_X12_226 (by first | decide | omega) (by first | rfl | assumption) c2 ?_
          refine r_goto hV 107 dX12_plan_88 (by decide) ?_
          refine r_iret hV dX12_plan_107 rfl rfl ?_
          first
            | (refine ⟨?_, rfl, rfl, fun q a b c => (uq q a).trans ((zfI3 q b c).trans ((zfI2 q b c).trans (t0 q a))), fun k a b => (uk k b).trans ((congrFun ((zfI3 78 (by omega) (by omega)).trans (zfI2 78 (by omega) (by omega))) k).trans (t1 k (by omega)))⟩
               rcases hlk with hlk | ⟨l1, l2⟩
               · rw [← hlk]
                 unfold f_mplan
                 first | rw [if_neg (by omega), if_neg (by omega), if_pos (by omega)] | (exfalso; omega)
               · first | (exfalso; omega) | (unfold f_mplan; rw [if_neg (by omega), if_pos l2]))
            | (refine ⟨?_, rfl, rfl, fun q a b c => (uq q a).trans ((zfI3 q b c).trans ((zfI2 q b c).trans (t0 q a))), fun k a b => (uk k b).trans ((congrFun ((zfI3 78 (by omega) (by omega)).trans (zfI2 78 (by omega) (by omega))) k).trans (t1 k (by omega)))⟩
               rcases hlk with hlk | ⟨l1, l2⟩
               · rw [← hlk]
                 unfold f_mplan
                 first | rw [if_neg (by omega), if_neg (by omega), if_neg (by omega), if_pos (by omega)] | (exfalso; omega)
               · first | (exfalso; omega) | (unfold f_mplan; rw [if_neg (by omega), if_pos l2]))
            | (refine ⟨?_, rfl, rfl, fun q a b c => (uq q a).trans ((zfI3 q b c).trans ((zfI2 q b c).trans (t0 q a))), fun k a b => (uk k b).trans ((congrFun ((zfI3 78 (by omega) (by omega)).trans (zfI2 78 (by omega) (by omega))) k).trans (t1 k (by omega)))⟩
               rcases hlk with hlk | ⟨l1, l2⟩
               · rw [← hlk]
                 unfold f_mplan
                 first | rw [if_neg (by omega), if_neg (by omega), if_neg (by omega), if_neg (by omega), if_pos (by omega)] | (exfalso; omega)
               · first | (exfalso; omega) | (unfold f_mplan; rw [if_neg (by omega), if_pos l2]))
            | (refine ⟨?_, rfl, rfl, fun q a b c => (uq q a).trans ((zfI3 q b c).trans ((zfI2 q b c).trans (t0 q a))), fun k a b => (uk k b).trans ((congrFun ((zfI3 78 (by omega) (by omega)).trans (zfI2 78 (by omega) (by omega))) k).trans (t1 k (by omega)))⟩
               rcases hlk with hlk | ⟨l1, l2⟩
               · rw [← hlk]
                 unfold f_mplan
                 first | rw [if_neg (by omega), if_neg (by omega), if_neg (by omega), if_neg (by omega), if_neg (by omega)] | (exfalso; omega)
               · first | (exfalso; omega) | (unfold f_mplan; rw [if_neg (by omega), if_pos l2]))
      · refine r_aload_n hV dX12_plan_72 rfl rfl ?_
        refine r_getI hV dX12_plan_73 fl_X12_223 (by first | decide | omega) (by first | rfl | assumption) c1 ?_
        refine r_goto hV 107 dX12_plan_76 (by decide) ?_
        refine r_iret hV dX12_plan_107 rfl rfl ?_
        first
          | (refine ⟨?_, rfl, rfl, fun q a b c => (uq q a).trans ((zfI3 q b c).trans ((zfI2 q b c).trans (t0 q a))), fun k a b => (uk k b).trans ((congrFun ((zfI3 78 (by omega) (by omega)).trans (zfI2 78 (by omega) (by omega))) k).trans (t1 k (by omega)))⟩
             rcases hlk with hlk | ⟨l1, l2⟩
             · rw [← hlk]
               unfold f_mplan
               first | rw [if_neg (by omega), if_neg (by omega), if_pos (by omega)] | (exfalso; omega)
             · first | (exfalso; omega) | (unfold f_mplan; rw [if_neg (by omega), if_pos l2]))
          | (refine ⟨?_, rfl, rfl, fun q a b c => (uq q a).trans ((zfI3 q b c).trans ((zfI2 q b c).trans (t0 q a))), fun k a b => (uk k b).trans ((congrFun ((zfI3 78 (by omega) (by omega)).trans (zfI2 78 (by omega) (by omega))) k).trans (t1 k (by omega)))⟩
             rcases hlk with hlk | ⟨l1, l2⟩
             · rw [← hlk]
               unfold f_mplan
               first | rw [if_neg (by omega), if_neg (by omega), if_neg (by omega), if_pos (by omega)] | (exfalso; omega)
             · first | (exfalso; omega) | (unfold f_mplan; rw [if_neg (by omega), if_pos l2]))
          | (refine ⟨?_, rfl, rfl, fun q a b c => (uq q a).trans ((zfI3 q b c).trans ((zfI2 q b c).trans (t0 q a))), fun k a b => (uk k b).trans ((congrFun ((zfI3 78 (by omega) (by omega)).trans (zfI2 78 (by omega) (by omega))) k).trans (t1 k (by omega)))⟩
             rcases hlk with hlk | ⟨l1, l2⟩
             · rw [← hlk]
               unfold f_mplan
               first | rw [if_neg (by omega), if_neg (by omega), if_neg (by omega), if_neg (by omega), if_pos (by omega)] | (exfalso; omega)
             · first | (exfalso; omega) | (unfold f_mplan; rw [if_neg (by omega), if_pos l2]))
          | (refine ⟨?_, rfl, rfl, fun q a b c => (uq q a).trans ((zfI3 q b c).trans ((zfI2 q b c).trans (t0 q a))), fun k a b => (uk k b).trans ((congrFun ((zfI3 78 (by omega) (by omega)).trans (zfI2 78 (by omega) (by omega))) k).trans (t1 k (by omega)))⟩
             rcases hlk with hlk | ⟨l1, l2⟩
             · rw [← hlk]
               unfold f_mplan
               first | rw [if_neg (by omega), if_neg (by omega), if_neg (by omega), if_neg (by omega), if_neg (by omega)] | (exfalso; omega)
             · first | (exfalso; omega) | (unfold f_mplan; rw [if_neg (by omega), if_pos l2]))
    · refine s_bipush hV dX12_plan_65 (-9) (by decide) ?_
      refine r_iret hV dX12_plan_67 rfl rfl ?_
      refine ⟨?_, rfl, rfl, fun q a b c => (uq q a).trans ((zfI3 q b c).trans ((zfI2 q b c).trans (t0 q a))), fun k a b => (uk k b).trans ((congrFun ((zfI3 78 (by omega) (by omega)).trans (zfI2 78 (by omega) (by omega))) k).trans (t1 k (by omega)))⟩
      rcases hlk with hlk | ⟨l1, l2⟩
      · rw [← hlk]; unfold f_mplan; rw [if_neg (by omega), if_pos (by omega)]
      · unfold f_mplan; rw [if_neg (by omega), if_pos l2]
  · refine s_bipush hV dX12_plan_17 (-2) (by decide) ?_
    refine r_iret hV dX12_plan_19 rfl rfl ?_
    refine ⟨?_, rfl, rfl, fun q a _ _ => t0 q a, fun k a _ => t1 k (by omega)⟩
    unfold f_mplan
    rw [if_pos (by omega)]

def f_mlv (e : Nat) (F W U K : Int → Int) (st : Int) (p : Nat) (b : Int × Int) : Int × Int := if b.2 < (f_mpl (f_mt (mF F) W K 0 (p : Int) (p : Int) e) (f_mt (mF F) W K 1 (p : Int) (p : Int) e) U e 0 st).1 then ((p : Int), (f_mpl (f_mt (mF F) W K 0 (p : Int) (p : Int) e) (f_mt (mF F) W K 1 (p : Int) (p : Int) e) U e 0 st).1) else b
def f_mlive (n e : Nat) (F W U K : Int → Int) (st : Int) : Int := (zit (f_mlv e F W U K st) n (0, -9)).1
set_option maxRecDepth 20000 in
theorem n_live (I : zI) (J : zJ) (P : zP) (hM : mK P) (tl st r c : Int) (n e : Nat) (T F W U K S : Int → Int) (hI : mI I tl st r c n e T F W U K S) (hnb : 2 ≤ n ∧ n ≤ 6) (he6 : e ≤ 6) (hFd : zD F) (hWb : z_bd W e 0 (n - 1)) (hUb : z_bd U 6 0 9) (hKb : z_bd K 6 0 2) (hst : 0 ≤ st ∧ st ≤ 999) : z_Sp 3 yX12_live cX12_live 4 (some .int) 108 108 I J P [.ref 78] (q_mpn I J P (f_mlive n e F W U K st)) := by
  obtain ⟨o1, o7, o9, o10, o11, o16, o17, o18, o19, o20, o25, o26, o28, o29, o30, o31, o36, o37, o38, o39, o40, o41, o42, o43, o44, o45, o46, o47, o48⟩ := id hM
  have hMb := mF_b hFd
  refine z_met false (by decide +kernel) (fun h => by cases h) (Nat.le_of_ble_eq_true rfl) (by first | decide | omega) (fun V hV => ?_)
  show V 108 I J P 0 [.ref 78, .null, .null, .null] []
  refine r_aload_n hV dX12_live_0 rfl rfl ?_
  refine s_iconst hV dX12_live_1 (0) (by decide) ?_
  refine r_putI hV dX12_live_2 fl_X12_104 (pf_X12_104 _) (z_okI_int rfl _) (by first | decide | omega) (by first | rfl | assumption) ?_
  generalize hI0e : zu I 78 (zu (I 78) 0 (iI 0)) = I0
  have t0 : ∀ q, q ≠ 78 → I0 q = I q := fun q h => by rw [← hI0e, zu_n _ _ h]
  have t1 : ∀ k, k ≠ 0 → I0 78 k = I 78 k := fun k h => by rw [← hI0e, zu_s, zu_n _ _ h]
  clear hI0e
  have hI0 := mI_fr hI t0 t1
  obtain ⟨⟨i20, i40, i50, i60, i80, i210, i220, i230, i240, i270⟩, zT0, zF0, zW0, zU0, zK0, zA0, zN0⟩ := id hI0
  refine s_iconst hV dX12_live_5 (0) (by decide) ?_
  refine r_istore_n hV dX12_live_6 (Nat.le_of_ble_eq_true rfl) (z_st1_4_1 rfl) ?_
  refine s_bipush hV dX12_live_7 (-9) (by decide) ?_
  refine r_istore_n hV dX12_live_9 (Nat.le_of_ble_eq_true rfl) (z_st1_4_2 rfl) ?_
  refine s_iconst hV dX12_live_10 (0) (by decide) ?_
  refine r_istore_n hV dX12_live_11 (Nat.le_of_ble_eq_true rfl) (z_st1_4_3 rfl) ?_
  have L12 : ∀ (k12 p : Nat) (I1 : zI) (b : Int × Int), n - p < k12 → p ≤ n → (∀ q, q ≠ 78 → q ≠ 93 → q ≠ 94 → I1 q = I0 q) → (∀ k, k < 32 → I1 78 k = I0 78 k) → (b = zit (f_mlv e F W U K st) p (0, -9)) → (-9 ≤ b.2 ∧ b.2 ≤ 54) → V 108 I1 J P 12 [.ref 78, .int (iI b.1), .int (iI b.2), .int (iI (p : Int))] [] := by
    intro k12
    induction k12 with
    | zero => intro p I1  b  hk1 hk2; omega
    | succ k12 ih12 =>
      intro p I1  b  hk12 hl12 hfr hkr hb hbr
      refine r_iload_n hV dX12_live_12 rfl ?_
      refine r_aload_n hV dX12_live_13 rfl rfl ?_
      refine r_getI hV dX12_live_14 fl_X12_13 (by first | decide | omega) (by first | rfl | assumption) ((hkr 4 (by omega)).trans i40) ?_
      refine s_icmp_ge hV 80 dX12_live_17 (by decide) (by unfold z_rg; first | omega | (split <;> omega)) (by unfold z_rg; first | omega | (split <;> omega)) (fun c17 => ?_) (fun c17 => ?_)
      · refine r_iload_n hV dX12_live_80 rfl ?_
        refine r_iret hV dX12_live_81 rfl rfl ?_
        refine ⟨?_, rfl, rfl, fun q a b c => (hfr q a b c).trans (t0 q a), fun k a b => (hkr k b).trans (t1 k (by omega))⟩
        rw [show p = n by omega] at hb
        rw [hb]
        rfl
      · refine r_aload_n hV dX12_live_20 rfl rfl ?_
        refine s_iconst hV dX12_live_21 (0) (by decide) ?_
        refine r_iload_n hV dX12_live_22 rfl ?_
        refine r_iload_n hV dX12_live_23 rfl ?_
        refine r_iv3 hV dX12_live_24 mv_X12_219 (n_layTours I1 J P hM (mF F) W K (z_ar_fr zF0 (hfr 80 (by omega) (by omega) (by omega))) hMb n e ((hkr 8 (by omega)).trans i80) he6 hnb.2 (z_ar_fr zW0 (hfr 81 (by omega) (by omega) (by omega))) hWb (z_ar_fr zK0 (hfr 83 (by omega) (by omega) (by omega))) hKb 0 (p : Int) (p : Int) (by omega) (by omega) (by omega)) (by first | decide | omega) (by first | rfl | assumption) (by decide) (Nat.le_refl _) (Nat.le_of_ble_eq_true rfl) (fun vI2 I2 JI2 PI2 hq => ?_)
        obtain ⟨rfl, ej, ep, z1I2, z2I2, zfI2⟩ := hq
        rw [ej, ep]
        show V 108 I2 J P _ _ []
        clear ej ep
        
        refine r_aload_n hV dX12_live_27 rfl rfl ?_
        refine s_iconst hV dX12_live_28 (1) (by decide) ?_
        refine r_iload_n hV dX12_live_29 rfl ?_
        refine r_iload_n hV dX12_live_30 rfl ?_
        refine r_iv3 hV dX12_live_31 mv_X12_219 (n_layTours I2 J P hM (mF F) W K (z_ar_fr zF0 ((zfI2 80 (by omega) (by omega)).trans (hfr 80 (by omega) (by omega) (by omega)))) hMb n e ((congrFun (zfI2 78 (by omega) (by omega)) 8).trans ((hkr 8 (by omega)).trans i80)) he6 hnb.2 (z_ar_fr zW0 ((zfI2 81 (by omega) (by omega)).trans (hfr 81 (by omega) (by omega) (by omega)))) hWb (z_ar_fr zK0 ((zfI2 83 (by omega) (by omega)).trans (hfr 83 (by omega) (by omega) (by omega)))) hKb 1 (p : Int) (p : Int) (by omega) (by omega) (by omega)) (by first | decide | omega) (by first | rfl | assumption) (by decide) (Nat.le_refl _) (Nat.le_of_ble_eq_true rfl) (fun vI3 I3 JI3 PI3 hq => ?_)
        obtain ⟨rfl, ej, ep, z1I3, z2I3, zfI3⟩ := hq
        rw [ej, ep]
        show V 108 I3 J P _ _ []
        clear ej ep
        have hT0 : ∀ s : Nat, s < 64 → I3 93 s = iI (f_mt (mF F) W K 0 (p : Int) (p : Int) e s) := fun s hs => by
          have h1 := z2I3 (s : Int) (by omega) (by omega)
          rw [Int.toNat_natCast] at h1
          rw [h1, (f_lts_t (K := K) (w := 1) hMb hWb hnb.2 he6 (by omega) (by omega) 64).2 _ (by omega)]
          unfold f_w0
          have h2 := z2I2 (s : Int) (by omega) (by omega)
          rw [Int.toNat_natCast] at h2
          rw [Int.toNat_natCast, h2]
          have h3 := q_lts_mt (M := mF F) (W := W) (K := K) (w := 0) (fr := (p : Int)) (to := (p : Int)) (A := f_w0 I1 94) (B := f_w0 I1 93) he6 hs
          rw [show 64 * (0 : Int) + (s : Int) = (s : Int) by omega] at h3
          rw [h3, ← iI_of]
        have hT1 : ∀ s : Nat, s < 64 → I3 93 (64 + s) = iI (f_mt (mF F) W K 1 (p : Int) (p : Int) e s) := fun s hs => by
          have h1 := z2I3 (64 * 1 + (s : Int)) (by omega) (by omega)
          rw [show (64 * 1 + (s : Int)).toNat = 64 + s by omega] at h1
          rw [h1, q_lts_mt he6 hs]
        have hHb : ∀ s, s < 64 → 0 ≤ f_mt (mF F) W K 0 (p : Int) (p : Int) e s ∧ f_mt (mF F) W K 0 (p : Int) (p : Int) e s ≤ 99999 := fun s hs => f_mt_b hMb hWb hnb.2 he6 (by omega) (by omega) hs
        have hGb : ∀ s, s < 64 → 0 ≤ f_mt (mF F) W K 1 (p : Int) (p : Int) e s ∧ f_mt (mF F) W K 1 (p : Int) (p : Int) e s ≤ 99999 := fun s hs => f_mt_b hMb hWb hnb.2 he6 (by omega) (by omega) hs
        refine r_aload_n hV dX12_live_34 rfl rfl ?_
        refine s_iconst hV dX12_live_35 (0) (by decide) ?_
        refine r_aload_n hV dX12_live_36 rfl rfl ?_
        refine r_getI hV dX12_live_37 fl_X12_159 (by first | decide | omega) (by first | rfl | assumption) ((congrFun ((zfI3 78 (by omega) (by omega)).trans (zfI2 78 (by omega) (by omega))) 5).trans ((hkr 5 (by omega)).trans i50)) ?_
        refine r_iv2 hV dX12_live_40 mv_X12_237 (n_findPlan I3 J P hM e ((congrFun ((zfI3 78 (by omega) (by omega)).trans (zfI2 78 (by omega) (by omega))) 8).trans ((hkr 8 (by omega)).trans i80)) he6 U (z_ar_fr zU0 ((zfI3 82 (by omega) (by omega)).trans ((zfI2 82 (by omega) (by omega)).trans (hfr 82 (by omega) (by omega) (by omega))))) hUb (f_mt (mF F) W K 0 (p : Int) (p : Int) e) (f_mt (mF F) W K 1 (p : Int) (p : Int) e) hT0 hT1 hHb hGb 0 (by omega) st (by omega)) (by first | decide | omega) (by first | rfl | assumption) (by decide) (Nat.le_refl _) (Nat.le_of_ble_eq_true rfl) (fun v4 I4 J4 P4 hq => ?_)
        have hlk := f_mpl_g (H := f_mt (mF F) W K 0 (p : Int) (p : Int) e) (G := f_mt (mF F) W K 1 (p : Int) (p : Int) e) (over := 0) (has := st) (a := (I3 78 33).toInt) (b := (I3 78 34).toInt) (c := (I3 78 35).toInt) hUb he6
        generalize zit (f_fpl (f_mt (mF F) W K 0 (p : Int) (p : Int) e) (f_mt (mF F) W K 1 (p : Int) (p : Int) e) U e 0 st) (2 ^ e) (-9, (I3 78 33).toInt, (I3 78 34).toInt, (I3 78 35).toInt) = B at hq hlk
        obtain ⟨rfl, ej, ep, ⟨c1, c2, c3, c4⟩, ⟨⟨b1, b2⟩, b3⟩, uq, uk⟩ := hq
        rw [ej, ep]
        show V 108 I4 J P _ _ []
        clear ej ep
        refine r_aload_n hV dX12_live_43 rfl rfl ?_
        refine r_getI hV dX12_live_44 fl_X12_223 (by first | decide | omega) (by first | rfl | assumption) c1 ?_
        refine r_iload_n hV dX12_live_47 rfl ?_
        refine s_icmp_le hV 55 dX12_live_48 (by decide) (by unfold z_rg; first | omega | (split <;> omega)) (by unfold z_rg; first | omega | (split <;> omega)) (fun c48 => ?_) (fun c48 => ?_)
        · refine r_iload_n hV dX12_live_55 rfl ?_
          refine r_istore_n hV dX12_live_56 (Nat.le_of_ble_eq_true rfl) (z_st1_4_1 rfl) ?_
          refine r_aload_n hV dX12_live_57 rfl rfl ?_
          refine r_getI hV dX12_live_58 fl_X12_223 (by first | decide | omega) (by first | rfl | assumption) c1 ?_
          refine r_iload_n hV dX12_live_61 rfl ?_
          refine s_icmp_le hV 72 dX12_live_62 (by decide) (by unfold z_rg; first | omega | (split <;> omega)) (by unfold z_rg; first | omega | (split <;> omega)) (fun c62 => ?_) (fun c62 => ?_)
          · refine r_iload_n hV dX12_live_72 rfl ?_
            refine r_istore_n hV dX12_live_73 (Nat.le_of_ble_eq_true rfl) (z_st1_4_2 rfl) ?_
            refine s_iinc hV dX12_live_74 rfl (z_st1_4_3 rfl) ?_
            refine r_goto hV 12 dX12_live_77 (by decide) ?_
            first
              | exact ih12 (p + 1) I4 ((p : Int), B.1) (by omega) (by omega) (fun q a b c => (uq q a).trans ((zfI3 q b c).trans ((zfI2 q b c).trans (hfr q a b c)))) (fun k b => (uk k b).trans ((congrFun ((zfI3 78 (by omega) (by omega)).trans (zfI2 78 (by omega) (by omega))) k).trans (hkr k b))) (by
                  rw [zit, ← hb, f_mlv]
                  rcases hlk with hlk | ⟨l1, l2⟩
                  · rw [← hlk, if_pos (by omega)]
                  · exfalso; omega) (by simp only; omega)
              | exact ih12 (p + 1) I4 b (by omega) (by omega) (fun q a b c => (uq q a).trans ((zfI3 q b c).trans ((zfI2 q b c).trans (hfr q a b c)))) (fun k b => (uk k b).trans ((congrFun ((zfI3 78 (by omega) (by omega)).trans (zfI2 78 (by omega) (by omega))) k).trans (hkr k b))) (by
                  rw [zit, ← hb, f_mlv, if_neg]
                  rcases hlk with hlk | ⟨l1, l2⟩
                  · rw [← hlk]; omega
                  · omega) hbr
              | (exfalso; omega)
          · refine r_aload_n hV dX12_live_65 rfl rfl ?_
            refine r_getI hV dX12_live_66 fl_X12_223 (by first | decide | omega) (by first | rfl | assumption) c1 ?_
            refine r_goto hV 73 dX12_live_69 (by decide) ?_
            refine r_istore_n hV dX12_live_73 (Nat.le_of_ble_eq_true rfl) (z_st1_4_2 rfl) ?_
            refine s_iinc hV dX12_live_74 rfl (z_st1_4_3 rfl) ?_
            refine r_goto hV 12 dX12_live_77 (by decide) ?_
            first
              | exact ih12 (p + 1) I4 ((p : Int), B.1) (by omega) (by omega) (fun q a b c => (uq q a).trans ((zfI3 q b c).trans ((zfI2 q b c).trans (hfr q a b c)))) (fun k b => (uk k b).trans ((congrFun ((zfI3 78 (by omega) (by omega)).trans (zfI2 78 (by omega) (by omega))) k).trans (hkr k b))) (by
                  rw [zit, ← hb, f_mlv]
                  rcases hlk with hlk | ⟨l1, l2⟩
                  · rw [← hlk, if_pos (by omega)]
                  · exfalso; omega) (by simp only; omega)
              | exact ih12 (p + 1) I4 b (by omega) (by omega) (fun q a b c => (uq q a).trans ((zfI3 q b c).trans ((zfI2 q b c).trans (hfr q a b c)))) (fun k b => (uk k b).trans ((congrFun ((zfI3 78 (by omega) (by omega)).trans (zfI2 78 (by omega) (by omega))) k).trans (hkr k b))) (by
                  rw [zit, ← hb, f_mlv, if_neg]
                  rcases hlk with hlk | ⟨l1, l2⟩
                  · rw [← hlk]; omega
                  · omega) hbr
              | (exfalso; omega)
        · refine r_iload_n hV dX12_live_51 rfl ?_
          refine r_goto hV 56 dX12_live_52 (by decide) ?_
          refine r_istore_n hV dX12_live_56 (Nat.le_of_ble_eq_true rfl) (z_st1_4_1 rfl) ?_
          refine r_aload_n hV dX12_live_57 rfl rfl ?_
          refine r_getI hV dX12_live_58 fl_X12_223 (by first | decide | omega) (by first | rfl | assumption) c1 ?_
          refine r_iload_n hV dX12_live_61 rfl ?_
          refine s_icmp_le hV 72 dX12_live_62 (by decide) (by unfold z_rg; first | omega | (split <;> omega)) (by unfold z_rg; first | omega | (split <;> omega)) (fun c62 => ?_) (fun c62 => ?_)
          · refine r_iload_n hV dX12_live_72 rfl ?_
            refine r_istore_n hV dX12_live_73 (Nat.le_of_ble_eq_true rfl) (z_st1_4_2 rfl) ?_
            refine s_iinc hV dX12_live_74 rfl (z_st1_4_3 rfl) ?_
            refine r_goto hV 12 dX12_live_77 (by decide) ?_
            first
              | exact ih12 (p + 1) I4 ((p : Int), B.1) (by omega) (by omega) (fun q a b c => (uq q a).trans ((zfI3 q b c).trans ((zfI2 q b c).trans (hfr q a b c)))) (fun k b => (uk k b).trans ((congrFun ((zfI3 78 (by omega) (by omega)).trans (zfI2 78 (by omega) (by omega))) k).trans (hkr k b))) (by
                  rw [zit, ← hb, f_mlv]
                  rcases hlk with hlk | ⟨l1, l2⟩
                  · rw [← hlk, if_pos (by omega)]
                  · exfalso; omega) (by simp only; omega)
              | exact ih12 (p + 1) I4 b (by omega) (by omega) (fun q a b c => (uq q a).trans ((zfI3 q b c).trans ((zfI2 q b c).trans (hfr q a b c)))) (fun k b => (uk k b).trans ((congrFun ((zfI3 78 (by omega) (by omega)).trans (zfI2 78 (by omega) (by omega))) k).trans (hkr k b))) (by
                  rw [zit, ← hb, f_mlv, if_neg]
                  rcases hlk with hlk | ⟨l1, l2⟩
                  · rw [← hlk]; omega
                  · omega) hbr
              | (exfalso; omega)
          · refine r_aload_n hV dX12_live_65 rfl rfl ?_
            refine r_getI hV dX12_live_66 fl_X12_223 (by first | decide | omega) (by first | rfl | assumption) c1 ?_
            refine r_goto hV 73 dX12_live_69 (by decide) ?_
            refine r_istore_n hV dX12_live_73 (Nat.le_of_ble_eq_true rfl) (z_st1_4_2 rfl) ?_
            refine s_iinc hV dX12_live_74 rfl (z_st1_4_3 rfl) ?_
            refine r_goto hV 12 dX12_live_77 (by decide) ?_
            first
              | exact ih12 (p + 1) I4 ((p : Int), B.1) (by omega) (by omega) (fun q a b c => (uq q a).trans ((zfI3 q b c).trans ((zfI2 q b c).trans (hfr q a b c)))) (fun k b => (uk k b).trans ((congrFun ((zfI3 78 (by omega) (by omega)).trans (zfI2 78 (by omega) (by omega))) k).trans (hkr k b))) (by
                  rw [zit, ← hb, f_mlv]
                  rcases hlk with hlk | ⟨l1, l2⟩
                  · rw [← hlk, if_pos (by omega)]
                  · exfalso; omega) (by simp only; omega)
              | exact ih12 (p + 1) I4 b (by omega) (by omega) (fun q a b c => (uq q a).trans ((zfI3 q b c).trans ((zfI2 q b c).trans (hfr q a b c)))) (fun k b => (uk k b).trans ((congrFun ((zfI3 78 (by omega) (by omega)).trans (zfI2 78 (by omega) (by omega))) k).trans (hkr k b))) (by
                  rw [zit, ← hb, f_mlv, if_neg]
                  rcases hlk with hlk | ⟨l1, l2⟩
                  · rw [← hlk]; omega
                  · omega) hbr
              | (exfalso; omega)
  exact L12 (n + 1) 0 I0 (0, -9) (by omega) (by omega) (fun q _ _ _ => rfl) (fun k _ => rfl) rfl (by simp only; omega)

