/-! THE LAW's start: both objects new -/
theorem f_ms0 : ∀ a b : Nat, a < 6 → b < 6 → f_ms (fun _ => 0) ((a : Int) * 6 + b) = if a = b then 0 else 1000000 := by
  have key : ∀ g : Int → Int, (∀ a b : Nat, a < 6 → b < 6 → g ((a : Int) * 6 + b) = if a = b then 0 else 1000000) → ∀ k, k < 6 → ∀ a b : Nat, a < 6 → b < 6 → f_fk k g ((a : Int) * 6 + b) = if a = b then 0 else 1000000 := by
    intro g hg k hk a b ha hb
    have hn : ∀ z, 0 ≤ z → z < 36 → 0 ≤ g z := fun z h0 h1 => by
      have e := hg (z / 6).toNat (z % 6).toNat (by omega) (by omega)
      rw [show (((z / 6).toNat : Nat) : Int) * 6 + ((z % 6).toNat : Nat) = z by omega] at e
      rw [e]; split <;> omega
    have h0 := hg k k hk hk
    rw [if_pos rfl] at h0
    rw [f_fk_at hk h0 hn a b ha hb]
    unfold zvi
    rw [hg a b ha hb, hg a k ha hk, hg k b hk hb]
    by_cases e1 : a = b
    · rw [if_pos e1]; split <;> split <;> omega
    · rw [if_neg e1]; split <;> split <;> omega
  unfold f_ms
  refine zit_inv (p := fun _ g => ∀ a b : Nat, a < 6 → b < 6 → g ((a : Int) * 6 + b) = if a = b then 0 else 1000000) (n := 6) (fun k g hk hg => key g hg k hk) 6 (Nat.le_refl _) _ ?_
  have h2 := zit_inv (s := f_dg) (p := fun k g => ∀ a b : Nat, a < 6 → b < 6 → g ((a : Int) * 6 + b) = if a = b ∧ a < k then 0 else 1000000) (n := 6) (fun k g hk hg a b ha hb => by
    unfold f_dg zup
    by_cases e1 : (a : Int) * 6 + b = (k : Int) * 6 + k
    · rw [if_pos e1, if_pos (by omega)]
    · rw [if_neg e1, hg a b ha hb]
      by_cases e2 : a = b ∧ a < k
      · rw [if_pos e2, if_pos (by omega)]
      · rw [if_neg e2, if_neg (by omega)]) 6 (Nat.le_refl _) (f_c0 (fun _ => 0)) (fun a b ha hb => by
    show (if (0 : Int) < 0 then (0 : Int) else 1000000) = _
    rw [if_neg (by omega), if_neg (by omega)])
  intro a b ha hb
  rw [h2 a b ha hb]
  by_cases e1 : a = b
  · rw [if_pos ⟨e1, ha⟩, if_pos e1]
  · rw [if_neg (fun h => e1 h.1), if_neg e1]
theorem mRf_ms0 : ∀ z : Int, 0 ≤ z → z < 36 → mRf (fun _ => 0) z = mF (f_ms (fun _ => 0)) z := fun z h0 h1 => by
  have e := f_ms0 (z / 6).toNat (z % 6).toNat (by omega) (by omega)
  rw [show (((z / 6).toNat : Nat) : Int) * 6 + ((z % 6).toNat : Nat) = z by omega] at e
  unfold mRf mF
  rw [e]
  by_cases h : z / 6 = z % 6
  · rw [if_pos h, if_pos (show (z / 6).toNat = (z % 6).toNat by rw [h]), if_pos (by omega)]
  · rw [if_neg h, if_neg (show ¬ (z / 6).toNat = (z % 6).toNat by omega), if_pos rfl, if_neg (by omega)]
theorem z_ar_z {I : zI} {q : Nat} {N : Int} (h : I q = fun _ => 0) : z_ar I q N (fun _ => 0) := fun z _ _ => by rw [h]; rfl
theorem cSt_z {I : zI} {s : Nat} (h : I s = fun _ => 0) (h1 : I (s + 1) = fun _ => 0) : cSt I s (fun _ => 0) := ⟨z_ar_z h, z_ar_z h1⟩
theorem l_new {v v2 : Option Value} {I1 I2 : zI} {J1 J2 : zJ} {P1 P2 : zP} (h : q_i11 v I1 J1 P1) (h2 : q_i12 (zu I1 78 (fun _ => 0)) (zu P1 78 (fun _ => none)) v2 I2 J2 P2) : lInv 999 I2 P2 := by
  obtain ⟨_, hK, q10, q11, hRw, hz, ⟨a0, a1, a2, a3⟩, hF, ⟨hW, hU, hKk⟩, hW0, hU0, hK0⟩ := h
  obtain ⟨_, mK1, hm, m4, mk, mF0, mz⟩ := h2
  have hkm : lKm I1 P1 I2 P2 := fun q hq => ⟨by rw [(hm q hq).1, zu_n _ _ (by omega)], by rw [(hm q hq).2, zu_n _ _ (by omega)]⟩
  have k0 : ∀ k, k ≠ 4 → I2 78 k = iI 0 := fun k hk => by rw [mk k hk, zu_s]; rfl
  have hbz : z_bd (fun _ => 0) 36 0 99 := fun z _ _ => ⟨Int.le_refl 0, (by decide : (0 : Int) ≤ 99)⟩
  have hfk := zFk_ms hbz
  refine ⟨66, 72, 2, 0, 0, 0, 0, 0, 0, (fun _ => 0), f_ms (fun _ => 0), (fun _ => 0), (fun _ => 0), (fun _ => 0), (fun _ => 0), (fun _ _ => 0), (fun _ => 0), (fun _ _ => 0), lC_km (I := I1) (P := P1) ⟨hK, q10, q11, Or.inl ⟨rfl, rfl⟩, ⟨60, 61, hRw⟩, ⟨a0, a1, a2, a3⟩, ⟨hF, z_ar_z hW, z_ar_z hU, z_ar_z hKk⟩, ⟨_, _, _, z_ar_z hW0, z_ar_z hU0, z_ar_z hK0, fun z _ _ => ⟨Int.le_refl 0, (by decide : (0 : Int) ≤ 5)⟩, fun z _ _ => ⟨Int.le_refl 0, (by decide : (0 : Int) ≤ 9)⟩, fun z _ _ => ⟨Int.le_refl 0, (by decide : (0 : Int) ≤ 2)⟩⟩, cSt_z (hz 3 (by omega) (by omega)) (hz 4 (by omega) (by omega)), ⟨by rw [hz 5 (by omega) (by omega)]; rfl, by rw [hz 5 (by omega) (by omega)]; rfl⟩, fun i hi => absurd hi (by omega), z_ar_z (hz 41 (by omega) (by omega)), fun k _ _ hk => absurd (show (0 : Int) = 1 from hk) (by decide), by rw [hz 1 (by omega) (by omega)]; rfl, z_ar_z (hz 2 (by omega) (by omega))⟩ hkm, ⟨mK1, ⟨⟨k0 2 (by omega), m4, k0 5 (by omega), k0 6 (by omega), k0 8 (by omega), k0 21 (by omega), k0 22 (by omega), k0 23 (by omega), k0 24 (by omega), k0 27 (by omega)⟩, z_ar_z (mz 79 (by omega) (by omega) (by omega)), z_ar_eq mF0 mRf_ms0, z_ar_z (mz 81 (by omega) (by omega) (by omega)), z_ar_z (mz 82 (by omega) (by omega) (by omega)), z_ar_z (mz 83 (by omega) (by omega) (by omega)), z_ar_z (mz 88 (by omega) (by omega) (by omega)), z_ar_z (mz 89 (by omega) (by omega) (by omega))⟩, fun i z hi _ _ => absurd hi (by omega), z_ar_z (mz 92 (by omega) (by omega) (by omega)), fun k z _ _ hk _ _ => absurd (show (0 : Int) = 1 from hk) (by decide)⟩, ⟨by omega, by omega⟩, by omega, ⟨by omega, by omega⟩, fun z _ _ => ⟨Int.le_refl 0, (by decide : (0 : Int) ≤ 255)⟩, ⟨by omega, by omega⟩, ⟨by omega, by omega⟩, ⟨by omega, by omega⟩, hfk, fun z a b => by have := hfk.1 z a b; omega, ⟨fun z a b => absurd b (by omega), fun z _ _ => ⟨Int.le_refl 0, (by decide : (0 : Int) ≤ 5)⟩⟩, fun z _ _ => ⟨Int.le_refl 0, (by decide : (0 : Int) ≤ 9)⟩, fun z _ _ => ⟨Int.le_refl 0, (by decide : (0 : Int) ≤ 2)⟩, fun z _ _ => ⟨Int.le_refl 0, (by decide : (0 : Int) ≤ 1)⟩, ⟨0, 0, ⟨⟨Int.le_refl 0, (by decide : (0 : Int) < 2)⟩, ⟨Int.le_refl 0, (by decide : (0 : Int) < 2)⟩, ⟨Int.le_refl 0, (by decide : (0 : Int) ≤ 90000)⟩, rfl, by omega, rfl, by omega, ⟨Int.le_refl 0, (by decide : (0 : Int) ≤ 8)⟩, fun z _ _ => ⟨(by decide : (-99 : Int) ≤ 0), (by decide : (0 : Int) ≤ 99)⟩⟩, (by decide : (0 : Int) ≤ 999)⟩, fun i hi => absurd hi (by omega), fun k _ _ hk => absurd (show (0 : Int) = 1 from hk) (by decide)⟩
set_option maxRecDepth 20000 in
theorem l_start {V : Nat → zI → zJ → zP → Nat → List Value → List Value → Prop} {post : Option Value → zI → zJ → zP → Prop} {L : Nat} {xs : Nat → Int32} (hV : z_Cl RL cL_law 11 108 false (some (L, xs)) (some .boolean) post V) (hL : L ≤ 2048) (hpost : ∀ (I : zI) (J : zJ) (P : zP), post (some (.int (iI 1))) I J P) {f : UInt32} (I : zI) (J : zJ) (P : zP) : V 0 I J P 0 [.float f, .null, .null, .null] [] := by
  refine r_new hV dL_law_0 nw_L_7 (by first | rfl | assumption) (by first | decide | omega) ?_
  refine r_dup hV dL_law_3 rfl ?_
  refine r_in0 hV dL_law_4 mi_L_9 (i_own _ _ _) (by decide) (by omega) (Nat.le_of_ble_eq_true rfl) (fun v I1 J1 P1 hq => ?_)
  have hv := hq.1
  subst hv
  show V 78 I1 J1 P1 _ _ [.ref 0]
  refine r_astore_n hV dL_law_7 (Nat.le_of_ble_eq_true rfl) rfl ?_
  refine r_new hV dL_law_8 nw_L_10 (by first | rfl | assumption) (by first | decide | omega) ?_
  refine r_dup hV dL_law_11 rfl ?_
  refine r_in0 hV dL_law_12 mi_L_12 (i_mod _ _ _) (by decide) (by omega) (Nat.le_of_ble_eq_true rfl) (fun v2 I2 J2 P2 hq2 => ?_)
  have hv := hq2.1
  subst hv
  show V 108 I2 J2 P2 _ _ [.ref 78]
  refine r_astore_n hV dL_law_15 (Nat.le_of_ble_eq_true rfl) rfl ?_
  refine s_iconst hV dL_law_16 (0) (by decide) ?_
  refine r_istore_n hV dL_law_17 (Nat.le_of_ble_eq_true rfl) rfl ?_
  have h := l_loop hV hL hpost (f := f) 514 0 I2 J2 P2 (by omega) (by omega) (l_new hq hq2)
  rw [show (4 : Int) * ((0 : Nat) : Int) = 0 from rfl] at h
  exact h
