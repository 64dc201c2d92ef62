def zCS (w H0 : Nat) : Prop := (w = 0 ∧ H0 = 0) ∨ (w = 0 ∧ H0 = 2) ∨ (w = 1 ∧ H0 = 0) ∨ (w = 1 ∧ H0 = 1)
/-- from a state at a depth on, what is taken there in the end -/
def zBT (V : Nat → zI → zJ → zP → Nat → List Value → List Value → Prop) (I0 : zI) (J : zJ) (P : zP) (w0 o0 : Int) (n e : Nat) (F W U K : Int → Int) (k : Nat) : Prop := ∀ (w H0 D : Nat) (hp ip rest : Int) (gone : Nat) (ha hb : Int) (I : zI), zCS w H0 → D + k ≤ 7 → (0 ≤ hp ∧ hp < n) → (0 ≤ ip ∧ ip < n) → (H0 = 1 → hp = 0) → (H0 = 2 → ip = 0) → F (hp * 6) + F (ip * 6) ≤ rest → rest ≤ 90000 → gone < 64 → (0 ≤ ha ∧ ha + 9 * k ≤ 100) → (0 ≤ hb ∧ hb + 9 * k ≤ 100) → zpop (zdf (2 ^ e - 1) gone) + (if H0 = 0 then 2 else 1) ≤ k → mFr I D hp ip rest gone H0 w ha hb → I 101 D = iI 0 → I 104 D = iI (-9) → I 105 D = iI (-9) → (∀ q, (q < 95 ∨ 105 < q) → I q = I0 q) → (∀ (I' : zI) (a b : Int), a = ha + (((f_play F W U K e k w (zdf (2 ^ e - 1) gone) (if H0 = 1 then -1 else hp) (if H0 = 2 then -1 else ip) rest).1 : Nat) : Int) → b = hb + (((f_play F W U K e k w (zdf (2 ^ e - 1) gone) (if H0 = 1 then -1 else hp) (if H0 = 2 then -1 else ip) rest).2 : Nat) : Int) → (∀ q, (q < 95 ∨ 105 < q) → I' q = I0 q) → (∀ q i, i < D → I' q i = I q i) → I' 104 D = iI a → I' 105 D = iI b → V 108 I' J P 252 [.ref 78, .int (iI w0), .int (iI o0), .int (iI (D : Int)), .null, .int (iI a), .int (iI b)] []) → V 108 I J P 167 [.ref 78, .int (iI w0), .int (iI o0), .int (iI (D : Int)), .null, .null, .null] []
theorem zpop_df {a x : Nat} (ha : a < 64) (hx : x < 6) (h : a.testBit x = true) : zpop (zdf a (2 ^ x)) + 1 = zpop a := by
  have key : ∀ a, a < 64 → ∀ x, x < 6 → (a.testBit x = true → zpop (zdf a (2 ^ x)) + 1 = zpop a) := by decide +kernel
  exact key a ha x hx h
theorem zdf_or {a g x : Nat} (ha : a < 64) (hg : g < 64) (hx : x < 6) : zdf a (g ||| 2 ^ x) = zdf (zdf a g) (2 ^ x) := by
  refine z_bits (z_df_lt ha) (z_df_lt (z_df_lt ha)) (fun k hk => ?_)
  rw [z_df_bit hk, z_df_bit hk, z_df_bit hk, Nat.testBit_or, Bool.not_or, Bool.and_assoc]
theorem zdf_all {e g x : Nat} (he : e ≤ 6) (hx : x < e) : (zdf (2 ^ e - 1) g).testBit x = !g.testBit x := by
  rw [z_df_bit (by omega), Nat.testBit_two_pow_sub_one, decide_eq_true hx, Bool.true_and]
theorem zit_tail {α : Type} {s : Nat → α → α} {m n : Nat} (h : ∀ k x, m ≤ k → s k x = x) (hm : m ≤ n) (x : α) : zit s n x = zit s m x := by
  induction n with
  | zero => rw [show m = 0 by omega]
  | succ n ih =>
    rcases (show m = n + 1 ∨ m ≤ n by omega) with q | q
    · rw [q]
    · rw [zit, h n _ q, ih q]
theorem mFr_fr {I I1 : zI} {D : Nat} {hp ip rest : Int} {gone home : Nat} {who ha hb : Int} (h : mFr I D hp ip rest gone home who ha hb) (hq : ∀ q, q ≠ 101 → q ≠ 104 → q ≠ 105 → I1 q D = I q D) : mFr I1 D hp ip rest gone home who ha hb := by
  obtain ⟨a, b, c, d, g, i, j, k⟩ := h
  exact ⟨(hq _ (by omega) (by omega) (by omega)).trans a, (hq _ (by omega) (by omega) (by omega)).trans b, (hq _ (by omega) (by omega) (by omega)).trans c, (hq _ (by omega) (by omega) (by omega)).trans d, (hq _ (by omega) (by omega) (by omega)).trans g, (hq _ (by omega) (by omega) (by omega)).trans i, (hq _ (by omega) (by omega) (by omega)).trans j, (hq _ (by omega) (by omega) (by omega)).trans k⟩
theorem n_bt00 {V : Nat → zI → zJ → zP → Nat → List Value → List Value → Prop} {ini : Bool} {ret : Option FieldType} {post : Option Value → zI → zJ → zP → Prop} (J : zJ) (P : zP) (hM : mK P) (w0 o0 : Int) (n e : Nat) (hnb : 2 ≤ n ∧ n ≤ 6) (F W U K : Int → Int) (hFd : zD F) (hF0 : F 0 = 0) (hWb : z_bd W e 0 (n - 1)) (hUb : z_bd U 6 0 9) (hKb : z_bd K 6 0 2) (he6 : e ≤ 6) (I0 : zI) (h8 : I0 78 8 = iI (e : Int)) (zF : z_ar I0 80 36 (mF F)) (zW : z_ar I0 81 e W) (zU : z_ar I0 82 e U) (zK : z_ar I0 83 e K) (hV : z_Cl yX12_byTurns.cls cX12_byTurns 5 108 ini none ret post V) (k : Nat) (rec : zBT V I0 J P w0 o0 n e F W U K k) (D : Nat) (hp ip rest : Int) (gone : Nat) (ha hb : Int) (I : zI) (hDk : D + (k + 1) ≤ 7) (hhp : 0 ≤ hp ∧ hp < n) (hip : 0 ≤ ip ∧ ip < n)  (hsum : F (hp * 6) + F (ip * 6) ≤ rest) (hr9 : rest ≤ 90000) (hg64 : gone < 64) (hha : 0 ≤ ha ∧ ha + 9 * ((k : Int) + 1) ≤ 100) (hhb : 0 ≤ hb ∧ hb + 9 * ((k : Int) + 1) ≤ 100) (hpop : zpop (zdf (2 ^ e - 1) gone) + 2 ≤ k + 1) (hFr : mFr I D hp ip rest gone 0 0 ha hb) (e101 : I 101 D = iI 0) (e104 : I 104 D = iI (-9)) (e105 : I 105 D = iI (-9)) (hbase : ∀ q, (q < 95 ∨ 105 < q) → I q = I0 q) (hK : ∀ (I' : zI) (a b : Int), a = ha + (((f_play F W U K e (k + 1) 0 (zdf (2 ^ e - 1) gone) hp ip rest).1 : Nat) : Int) → b = hb + (((f_play F W U K e (k + 1) 0 (zdf (2 ^ e - 1) gone) hp ip rest).2 : Nat) : Int) → (∀ q, (q < 95 ∨ 105 < q) → I' q = I0 q) → (∀ q i, i < D → I' q i = I q i) → I' 104 D = iI a → I' 105 D = iI b → V 108 I' J P 252 [.ref 78, .int (iI w0), .int (iI o0), .int (iI (D : Int)), .null, .int (iI a), .int (iI b)] []) : V 108 I J P 167 [.ref 78, .int (iI w0), .int (iI o0), .int (iI (D : Int)), .null, .null, .null] [] := by
  have h2e := z_pn he6
  have ho64 : (zdf (2 ^ e - 1) gone) < 64 := z_df_lt (by omega)
  have fb1 := hFd (hp * 6) (by omega) (by omega)
  have fb2 := hFd (ip * 6) (by omega) (by omega)
  have hfp : f_play F W U K e (k + 1) 0 (zdf (2 ^ e - 1) gone) hp ip rest = (zit (f_ps0 F W U K e (f_play F W U K e k) 1 (zdf (2 ^ e - 1) gone) hp ip rest) e (f_play F W U K e k 1 (zdf (2 ^ e - 1) gone) (-1) ip (rest - f_hw F hp))) := by
    have h1 : f_play F W U K e (k + 1) 0 (zdf (2 ^ e - 1) gone) hp ip rest = (zit (f_ps0 F W U K e (f_play F W U K e k) 1 (zdf (2 ^ e - 1) gone) hp ip rest) 6 (f_play F W U K e k 1 (zdf (2 ^ e - 1) gone) (-1) ip (rest - f_hw F hp))) := by simp [f_play, show ¬ ip = -1 by omega]
    rw [h1]
    refine zit_tail (fun a x ha => ?_) he6 _
    obtain ⟨x1, x2⟩ := x
    unfold f_ps0
    rw [if_neg (fun hh => by have := hh.2.1.1; omega)]
  have hb0 : (f_play F W U K e k 1 (zdf (2 ^ e - 1) gone) (-1) ip (rest - f_hw F hp)).1 ≤ 9 * (k + 1) ∧ (f_play F W U K e k 1 (zdf (2 ^ e - 1) gone) (-1) ip (rest - f_hw F hp)).2 ≤ 9 * (k + 1) := by have := f_play_b (D := F) (W := W) (K := K) (e := e) hUb k 1 (zdf (2 ^ e - 1) gone) (-1) ip (rest - f_hw F hp); omega
  have hGb : ∀ j, j ≤ 6 → (zit (f_ps0 F W U K e (f_play F W U K e k) 1 (zdf (2 ^ e - 1) gone) hp ip rest) j (f_play F W U K e k 1 (zdf (2 ^ e - 1) gone) (-1) ip (rest - f_hw F hp))).1 ≤ 9 * (k + 1) ∧ (zit (f_ps0 F W U K e (f_play F W U K e k) 1 (zdf (2 ^ e - 1) gone) hp ip rest) j (f_play F W U K e k 1 (zdf (2 ^ e - 1) gone) (-1) ip (rest - f_hw F hp))).2 ≤ 9 * (k + 1) := fun j hj =>
    zit_ind (p := fun b : Nat × Nat => b.1 ≤ 9 * (k + 1) ∧ b.2 ≤ 9 * (k + 1)) (n := 6) (fun a b ha hb => f_ps0_b hUb hb) j hj _ hb0
  -- the errands, one by one
  have L : ∀ (m j : Nat) (I1 : zI), e - j < m → j ≤ e → mFr I1 D hp ip rest gone 0 0 ha hb → I1 101 D = iI ((j : Int) + 1) → I1 104 D = iI (ha + (((zit (f_ps0 F W U K e (f_play F W U K e k) 1 (zdf (2 ^ e - 1) gone) hp ip rest) j (f_play F W U K e k 1 (zdf (2 ^ e - 1) gone) (-1) ip (rest - f_hw F hp))).1 : Nat) : Int)) → I1 105 D = iI (hb + (((zit (f_ps0 F W U K e (f_play F W U K e k) 1 (zdf (2 ^ e - 1) gone) hp ip rest) j (f_play F W U K e k 1 (zdf (2 ^ e - 1) gone) (-1) ip (rest - f_hw F hp))).2 : Nat) : Int)) → (∀ q, (q < 95 ∨ 105 < q) → I1 q = I0 q) → (∀ q i, i < D → I1 q i = I q i) → V 108 I1 J P 167 [.ref 78, .int (iI w0), .int (iI o0), .int (iI (D : Int)), .null, .null, .null] [] := by
    intro m
    induction m with
    | zero => intro j I1 h; omega
    | succ m ih =>
      intro j I1 hm hj hF1 n101 n104 n105 hb1 hl1
      have hGj := hGb j (by omega)
      by_cases hje : j = e
      · rw [hje] at n101 n104 n105
        exact n_btB I1 J P hM w0 o0 D (by omega) _ n101 (by omega) e ((congrFun (hb1 78 (by omega)) 8).trans h8) he6 0 hF1.2.2.2.2.1 (by omega) (by omega) (by omega) _ _ n104 n105 hV (hK I1 _ _ (by rw [hfp]) (by rw [hfp]) hb1 hl1 n104 n105)
      · have hwx := hWb (j : Int) (by omega) (by omega)
        have hux := hUb (j : Int) (by omega) (by omega)
        have hfx := hFd (hp * 6 + W (j : Int)) (by omega) (by omega)
        have hfw := hFd (W (j : Int) * 6) (by omega) (by omega)
        generalize hI2 : zu I1 101 (zu (I1 101) D (iI ((j : Int) + 1 + 1))) = I2
        have u2 : ∀ q, q ≠ 101 → I2 q = I1 q := fun q h => by rw [← hI2, zu_n _ _ h]
        have v2 : I2 101 D = iI ((j : Int) + 1 + 1) := by rw [← hI2, zu_s, zu_s]
        have l2 : ∀ q i, i < D → I2 q i = I1 q i := fun q i h => by
          by_cases hq : q = 101
          · rw [hq, ← hI2, zu_s, zu_n _ _ (by omega)]
          · rw [u2 q hq]
        have hb2 : ∀ q, (q < 95 ∨ 105 < q) → I2 q = I0 q := fun q h => (u2 q (by omega)).trans (hb1 q h)
        have hF2 : mFr I2 D hp ip rest gone 0 0 ha hb := mFr_fr hF1 (fun q a _ _ => congrFun (u2 q a) D)
        have key : ∀ (post1 : Option Value → zI → zJ → zP → Prop), z_Sp 2 yX12_choose cX12_choose 8 (some .boolean) 108 108 I2 J P [.ref 78, .int (iI (D : Int)), .int (iI ((j : Int) + 1))] post1 → (∀ v3 I3 J3 P3, post1 v3 I3 J3 P3 → V 108 I3 J3 P3 289 [.ref 78, .int (iI w0), .int (iI o0), .int (iI (D : Int)), .int (iI ((j : Int) + 1)), .null, .null] (v3.toList ++ [.int (iI (D : Int))])) → V 108 I1 J P 167 [.ref 78, .int (iI w0), .int (iI o0), .int (iI (D : Int)), .null, .null, .null] [] := fun post1 hsp hk => n_btA I1 J P hM w0 o0 D (by omega) _ n101 (by omega) e ((congrFun (hb1 78 (by omega)) 8).trans h8) he6 0 hF1.2.2.2.2.1 (by omega) (by omega) (by omega) (by rw [hI2]; exact hsp) hV hk
        refine key _ (n_ch00e I2 J P hM n e hnb ((congrFun (hb2 78 (by omega)) 8).trans h8) he6 F W U K (z_ar_fr zF (hb2 80 (by omega))) hFd (z_ar_fr zW (hb2 81 (by omega))) hWb (z_ar_fr zU (hb2 82 (by omega))) hUb (z_ar_fr zK (hb2 83 (by omega))) hKb D (by omega) hp ip rest gone hg64 ha hb hF2 hhp hip (by omega) j (by omega)) (fun v3 I3 J3 P3 hq => ?_)
        obtain ⟨rfl, ej, ep, z3, f3, hok⟩ := hq
        rw [ej, ep]
        clear ej ep
        have hopn : (zdf (2 ^ e - 1) gone).testBit j = !gone.testBit j := zdf_all he6 (by omega)
        have hcond : ((zdf (2 ^ e - 1) gone).testBit j = true ∧ (j < e ∧ (K (j : Int) = 2 ∨ K (j : Int) = 0)) ∧ f_hw F (W (j : Int)) + f_hw F ip ≤ rest - F (hp * 6 + W (j : Int))) ↔ ((¬ gone.testBit j = true ∧ (K (j : Int) = 2 ∨ K (j : Int) = 0) ∧ F (hp * 6 + W (j : Int)) < 1000000) ∧ F ((W (j : Int)) * 6) + F ((ip) * 6) ≤ rest - F (hp * 6 + W (j : Int))) := by
          have e1 : f_hw F (W (j : Int)) = F (W (j : Int) * 6) := by unfold f_hw; rw [if_neg (by omega)]
          have e2 : f_hw F ip = F (ip * 6) := by unfold f_hw; rw [if_neg (by omega)]
          skip
          rw [hopn, e1, e2]
          constructor
          · rintro ⟨a1, a2, a3⟩
            exact ⟨⟨by cases hgb : gone.testBit j <;> simp_all, a2.2, by omega⟩, by omega⟩
          · rintro ⟨⟨a1, a2, a3⟩, a4⟩
            exact ⟨by cases hgb : gone.testBit j <;> simp_all, ⟨by omega, a2⟩, by omega⟩
        by_cases hk : (¬ gone.testBit j = true ∧ (K (j : Int) = 2 ∨ K (j : Int) = 0) ∧ F (hp * 6 + W (j : Int)) < 1000000) ∧ F ((W (j : Int)) * 6) + F ((ip) * 6) ≤ rest - F (hp * 6 + W (j : Int))
        · have hcd := hcond.mpr hk
          rw [if_pos hk]
          refine n_btE1 I3 J P hM w0 o0 D (by omega) _ hV ?_
          obtain ⟨hFc, c101, c104, c105⟩ := hok hk
          have hob : (zdf (2 ^ e - 1) gone).testBit j = true := hcd.1
          have hzp := zpop_df ho64 (show j < 6 by omega) hob
          have hdo := zdf_or (a := 2 ^ e - 1) (g := gone) (x := j) (by omega) hg64 (by omega)
          have hpw := z_pw (k := j) (by omega)
          have hrb := f_play_b (D := F) (W := W) (K := K) (e := e) hUb k 1 (zdf (zdf (2 ^ e - 1) gone) (2 ^ j)) (W (j : Int)) ip (rest - F (hp * 6 + W (j : Int)))
          have hgo := rec 1 0 (D + 1) (W (j : Int)) (ip) (rest - F (hp * 6 + W (j : Int))) (gone ||| 2 ^ j) (ha + U (j : Int)) hb I3 (by unfold zCS; omega) (by omega) (by omega) (by omega) (fun h => by omega) (fun h => by omega) hk.2 (by omega) (z_or_lt hg64 hpw) (by omega) (by omega) (by rw [hdo]; rw [if_pos rfl]; omega) hFc c101 c104 c105 (fun q h => (z3 q h).trans (hb2 q h))
          rw [hdo] at hgo
          refine hgo ?_
          intro I' a b ea eb z' f' h104 h105
          rw [if_neg (by omega)] at ea eb
          rw [if_neg (by omega)] at ea eb
          have d1 : ∀ q, q ≠ 101 → I' q D = I1 q D := fun q h => (f' q D (by omega)).trans ((f3 q D (by omega)).trans (congrFun (u2 q h) D))
          refine n_btD I' J P hM w0 o0 D (by omega) (by omega) a b (n_take I' J P hM D (by omega) 0 _ _ a b ((d1 100 (by omega)).trans hF1.2.2.2.2.2.1) ((d1 104 (by omega)).trans n104) ((d1 105 (by omega)).trans n105) (by omega) (by omega) (by omega) (by omega) (by omega)) hV (fun v4 I4 J4 P4 hq4 => ?_)
          obtain ⟨hv4, ej4, ep4, y4, y5, z4, f4⟩ := hq4
          refine ⟨hv4, ?_⟩
          rw [ej4, ep4]
          have hst : (zit (f_ps0 F W U K e (f_play F W U K e k) 1 (zdf (2 ^ e - 1) gone) hp ip rest) (j + 1) (f_play F W U K e k 1 (zdf (2 ^ e - 1) gone) (-1) ip (rest - f_hw F hp))) = if (zit (f_ps0 F W U K e (f_play F W U K e k) 1 (zdf (2 ^ e - 1) gone) hp ip rest) j (f_play F W U K e k 1 (zdf (2 ^ e - 1) gone) (-1) ip (rest - f_hw F hp))).1 < (f_play F W U K e k 1 (zdf (zdf (2 ^ e - 1) gone) (2 ^ j)) (W (j : Int)) ip (rest - F (hp * 6 + W (j : Int)))).1 + (U (j : Int)).toNat then ((f_play F W U K e k 1 (zdf (zdf (2 ^ e - 1) gone) (2 ^ j)) (W (j : Int)) ip (rest - F (hp * 6 + W (j : Int)))).1 + (U (j : Int)).toNat, (f_play F W U K e k 1 (zdf (zdf (2 ^ e - 1) gone) (2 ^ j)) (W (j : Int)) ip (rest - F (hp * 6 + W (j : Int)))).2) else (zit (f_ps0 F W U K e (f_play F W U K e k) 1 (zdf (2 ^ e - 1) gone) hp ip rest) j (f_play F W U K e k 1 (zdf (2 ^ e - 1) gone) (-1) ip (rest - f_hw F hp))) := by
            rw [zit]
            generalize (zit (f_ps0 F W U K e (f_play F W U K e k) 1 (zdf (2 ^ e - 1) gone) hp ip rest) j (f_play F W U K e k 1 (zdf (2 ^ e - 1) gone) (-1) ip (rest - f_hw F hp))) = bj
            unfold f_ps0
            by_cases hlt : bj.1 < (f_play F W U K e k 1 (zdf (zdf (2 ^ e - 1) gone) (2 ^ j)) (W (j : Int)) ip (rest - F (hp * 6 + W (j : Int)))).1 + (U (j : Int)).toNat
            · rw [if_pos ⟨hcd.1, hcd.2.1, hcd.2.2, hlt⟩, if_pos hlt]
            · rw [if_neg (fun hh => hlt hh.2.2.2), if_neg hlt]
          have hcc : (ha + (((zit (f_ps0 F W U K e (f_play F W U K e k) 1 (zdf (2 ^ e - 1) gone) hp ip rest) j (f_play F W U K e k 1 (zdf (2 ^ e - 1) gone) (-1) ip (rest - f_hw F hp))).1 : Nat) : Int) = -9 ∨ (if (0 : Int) = 0 then ha + (((zit (f_ps0 F W U K e (f_play F W U K e k) 1 (zdf (2 ^ e - 1) gone) hp ip rest) j (f_play F W U K e k 1 (zdf (2 ^ e - 1) gone) (-1) ip (rest - f_hw F hp))).1 : Nat) : Int) < a else hb + (((zit (f_ps0 F W U K e (f_play F W U K e k) 1 (zdf (2 ^ e - 1) gone) hp ip rest) j (f_play F W U K e k 1 (zdf (2 ^ e - 1) gone) (-1) ip (rest - f_hw F hp))).2 : Nat) : Int) < b)) ↔ (zit (f_ps0 F W U K e (f_play F W U K e k) 1 (zdf (2 ^ e - 1) gone) hp ip rest) j (f_play F W U K e k 1 (zdf (2 ^ e - 1) gone) (-1) ip (rest - f_hw F hp))).1 < (f_play F W U K e k 1 (zdf (zdf (2 ^ e - 1) gone) (2 ^ j)) (W (j : Int)) ip (rest - F (hp * 6 + W (j : Int)))).1 + (U (j : Int)).toNat := by
            rw [if_pos rfl]
            omega
          refine ih (j + 1) I4 (by omega) (by omega) (mFr_fr hF1 (fun q h1 h2 h3 => (congrFun (z4 q h2 h3) D).trans (d1 q h1))) ?_ ?_ ?_ (fun q h => (z4 q (by omega) (by omega)).trans (z' q h)) (fun q i h => (f4 q i (by omega)).trans ((f' q i (by omega)).trans ((f3 q i (by omega)).trans ((l2 q i h).trans (hl1 q i h)))))
          · rw [congrFun (z4 101 (by omega) (by omega)) D, f' 101 D (by omega), f3 101 D (by omega), v2]
            exact congrArg iI (by omega)
          · rw [y4, hst]
            by_cases hlt : (zit (f_ps0 F W U K e (f_play F W U K e k) 1 (zdf (2 ^ e - 1) gone) hp ip rest) j (f_play F W U K e k 1 (zdf (2 ^ e - 1) gone) (-1) ip (rest - f_hw F hp))).1 < (f_play F W U K e k 1 (zdf (zdf (2 ^ e - 1) gone) (2 ^ j)) (W (j : Int)) ip (rest - F (hp * 6 + W (j : Int)))).1 + (U (j : Int)).toNat
            · rw [if_pos (hcc.mpr hlt), if_pos hlt]; exact congrArg iI (by simp only; omega)
            · rw [if_neg (fun hh => hlt (hcc.mp hh)), if_neg hlt]
          · rw [y5, hst]
            by_cases hlt : (zit (f_ps0 F W U K e (f_play F W U K e k) 1 (zdf (2 ^ e - 1) gone) hp ip rest) j (f_play F W U K e k 1 (zdf (2 ^ e - 1) gone) (-1) ip (rest - f_hw F hp))).1 < (f_play F W U K e k 1 (zdf (zdf (2 ^ e - 1) gone) (2 ^ j)) (W (j : Int)) ip (rest - F (hp * 6 + W (j : Int)))).1 + (U (j : Int)).toNat
            · rw [if_pos (hcc.mpr hlt), if_pos hlt]; exact congrArg iI (by simp only; omega)
            · rw [if_neg (fun hh => hlt (hcc.mp hh)), if_neg hlt]
        · rw [if_neg hk]
          refine n_btE0 I3 J P hM w0 o0 D (by omega) _ hV ?_
          have hst : (zit (f_ps0 F W U K e (f_play F W U K e k) 1 (zdf (2 ^ e - 1) gone) hp ip rest) (j + 1) (f_play F W U K e k 1 (zdf (2 ^ e - 1) gone) (-1) ip (rest - f_hw F hp))) = (zit (f_ps0 F W U K e (f_play F W U K e k) 1 (zdf (2 ^ e - 1) gone) hp ip rest) j (f_play F W U K e k 1 (zdf (2 ^ e - 1) gone) (-1) ip (rest - f_hw F hp))) := by
            rw [zit]
            generalize (zit (f_ps0 F W U K e (f_play F W U K e k) 1 (zdf (2 ^ e - 1) gone) hp ip rest) j (f_play F W U K e k 1 (zdf (2 ^ e - 1) gone) (-1) ip (rest - f_hw F hp))) = bj
            unfold f_ps0
            rw [if_neg (fun hh => hk (hcond.mp ⟨hh.1, hh.2.1, hh.2.2.1⟩))]
          have d1 : ∀ q, q ≠ 101 → I3 q D = I1 q D := fun q h => (f3 q D (by omega)).trans (congrFun (u2 q h) D)
          refine ih (j + 1) I3 (by omega) (by omega) (mFr_fr hF1 (fun q h1 h2 h3 => d1 q h1)) ?_ ?_ ?_ (fun q h => (z3 q h).trans (hb2 q h)) (fun q i h => (f3 q i (by omega)).trans ((l2 q i h).trans (hl1 q i h)))
          · rw [f3 101 D (by omega), v2]
            exact congrArg iI (by omega)
          · rw [d1 104 (by omega), n104, hst]
          · rw [d1 105 (by omega), n105, hst]
  -- home first
  generalize hI2 : zu I 101 (zu (I 101) D (iI (0 + 1))) = I2
  have u2 : ∀ q, q ≠ 101 → I2 q = I q := fun q h => by rw [← hI2, zu_n _ _ h]
  have v2 : I2 101 D = iI (0 + 1) := by rw [← hI2, zu_s, zu_s]
  have l2 : ∀ q i, i < D → I2 q i = I q i := fun q i h => by
    by_cases hq : q = 101
    · rw [hq, ← hI2, zu_s, zu_n _ _ (by omega)]
    · rw [u2 q hq]
  have hb2 : ∀ q, (q < 95 ∨ 105 < q) → I2 q = I0 q := fun q h => (u2 q (by omega)).trans (hbase q h)
  have hF2 : mFr I2 D hp ip rest gone 0 0 ha hb := mFr_fr hFr (fun q a _ _ => congrFun (u2 q a) D)
  have key : ∀ (post1 : Option Value → zI → zJ → zP → Prop), z_Sp 2 yX12_choose cX12_choose 8 (some .boolean) 108 108 I2 J P [.ref 78, .int (iI (D : Int)), .int (iI 0)] post1 → (∀ v3 I3 J3 P3, post1 v3 I3 J3 P3 → V 108 I3 J3 P3 289 [.ref 78, .int (iI w0), .int (iI o0), .int (iI (D : Int)), .int (iI 0), .null, .null] (v3.toList ++ [.int (iI (D : Int))])) → V 108 I J P 167 [.ref 78, .int (iI w0), .int (iI o0), .int (iI (D : Int)), .null, .null, .null] [] := fun post1 hsp hk => n_btA I J P hM w0 o0 D (by omega) 0 e101 (by omega) e ((congrFun (hbase 78 (by omega)) 8).trans h8) he6 0 hFr.2.2.2.2.1 (by omega) (by omega) (by omega) (by rw [hI2]; exact hsp) hV hk
  refine key _ (n_ch00h I2 J P hM n e hnb ((congrFun (hb2 78 (by omega)) 8).trans h8) he6 F W U K (z_ar_fr zF (hb2 80 (by omega))) hFd (z_ar_fr zW (hb2 81 (by omega))) hWb (z_ar_fr zU (hb2 82 (by omega))) hUb (z_ar_fr zK (hb2 83 (by omega))) hKb D (by omega) hp ip rest gone hg64 ha hb hF2 hhp hip (by omega) (by omega)) (fun v3 I3 J3 P3 hq => ?_)
  obtain ⟨rfl, ej, ep, z3, f3, hok⟩ := hq
  rw [ej, ep]
  clear ej ep
  have hk : F ((0) * 6) + F ((ip) * 6) ≤ rest - F (hp * 6) := by
    rw [show F (0 * 6) = 0 from hF0]
    omega
  rw [if_pos hk]
  refine n_btE1 I3 J P hM w0 o0 D (by omega) _ hV ?_
  obtain ⟨hFc, c101, c104, c105⟩ := hok hk
  have d1 : ∀ q, q ≠ 101 → I3 q D = I q D := fun q h => (f3 q D (by omega)).trans (congrFun (u2 q h) D)
  have fin : ∀ (I' : zI) (a b : Int), a = ha + (((f_play F W U K e k 1 (zdf (2 ^ e - 1) gone) (-1) ip (rest - f_hw F hp)).1 : Nat) : Int) → b = hb + (((f_play F W U K e k 1 (zdf (2 ^ e - 1) gone) (-1) ip (rest - f_hw F hp)).2 : Nat) : Int) → (∀ q, (q < 95 ∨ 105 < q) → I' q = I0 q) → (∀ q i, i < D + 1 → I' q i = I3 q i) → V 108 I' J P 252 [.ref 78, .int (iI w0), .int (iI o0), .int (iI ((D : Int) + 1)), .null, .int (iI a), .int (iI b)] [] := by
    intro I' a b ea eb z' f'
    have d2 : ∀ q, q ≠ 101 → I' q D = I q D := fun q h => (f' q D (by omega)).trans (d1 q h)
    refine n_btD I' J P hM w0 o0 D (by omega) (by omega) a b (n_take I' J P hM D (by omega) 0 (-9) (-9) a b ((d2 100 (by omega)).trans hFr.2.2.2.2.2.1) ((d2 104 (by omega)).trans e104) ((d2 105 (by omega)).trans e105) (by omega) (by omega) (by omega) (by omega) (by omega)) hV (fun v4 I4 J4 P4 hq4 => ?_)
    obtain ⟨hv4, ej4, ep4, y4, y5, z4, f4⟩ := hq4
    refine ⟨hv4, ?_⟩
    rw [ej4, ep4]
    rw [if_pos (Or.inl rfl)] at y4 y5
    refine L (e + 1) 0 I4 (by omega) (by omega) (mFr_fr hFr (fun q h1 h2 h3 => (congrFun (z4 q h2 h3) D).trans (d2 q h1))) ?_ (by rw [y4, ea]; rfl) (by rw [y5, eb]; rfl) (fun q h => (z4 q (by omega) (by omega)).trans (z' q h)) (fun q i h => (f4 q i (by omega)).trans ((f' q i (by omega)).trans ((f3 q i (by omega)).trans (l2 q i h))))
    rw [congrFun (z4 101 (by omega) (by omega)) D, f' 101 D (by omega), f3 101 D (by omega), v2]
    exact congrArg iI (by omega)
  have hfb := f_play_b (D := F) (W := W) (K := K) (e := e) hUb k 1 (zdf (2 ^ e - 1) gone) (-1) ip (rest - f_hw F hp)
  have hgo := rec 1 1 (D + 1) (0) (ip) (rest - F (hp * 6)) gone ha hb I3 (by unfold zCS; omega) (by omega) (by omega) (by omega) (fun _ => rfl) (fun h => by omega) hk (by omega) hg64 (by omega) (by omega) (by rw [if_neg (by omega)]; omega) hFc c101 c104 c105 (fun q h => (z3 q h).trans (hb2 q h))
  refine hgo ?_
  intro I' a b ea eb z' f' _ _
  rw [if_pos rfl] at ea eb
  rw [if_neg (by omega)] at ea eb
  have e1 : f_hw F hp = F (hp * 6) := by unfold f_hw; rw [if_neg (by omega)]
  exact fin I' a b (by rw [e1]; exact ea) (by rw [e1]; exact eb) z' f'
theorem n_bt02 {V : Nat → zI → zJ → zP → Nat → List Value → List Value → Prop} {ini : Bool} {ret : Option FieldType} {post : Option Value → zI → zJ → zP → Prop} (J : zJ) (P : zP) (hM : mK P) (w0 o0 : Int) (n e : Nat) (hnb : 2 ≤ n ∧ n ≤ 6) (F W U K : Int → Int) (hFd : zD F) (hF0 : F 0 = 0) (hWb : z_bd W e 0 (n - 1)) (hUb : z_bd U 6 0 9) (hKb : z_bd K 6 0 2) (he6 : e ≤ 6) (I0 : zI) (h8 : I0 78 8 = iI (e : Int)) (zF : z_ar I0 80 36 (mF F)) (zW : z_ar I0 81 e W) (zU : z_ar I0 82 e U) (zK : z_ar I0 83 e K) (hV : z_Cl yX12_byTurns.cls cX12_byTurns 5 108 ini none ret post V) (k : Nat) (rec : zBT V I0 J P w0 o0 n e F W U K k) (D : Nat) (hp ip rest : Int) (gone : Nat) (ha hb : Int) (I : zI) (hDk : D + (k + 1) ≤ 7) (hhp : 0 ≤ hp ∧ hp < n) (hip : 0 ≤ ip ∧ ip < n) (hat : ip = 0) (hsum : F (hp * 6) + F (ip * 6) ≤ rest) (hr9 : rest ≤ 90000) (hg64 : gone < 64) (hha : 0 ≤ ha ∧ ha + 9 * ((k : Int) + 1) ≤ 100) (hhb : 0 ≤ hb ∧ hb + 9 * ((k : Int) + 1) ≤ 100) (hpop : zpop (zdf (2 ^ e - 1) gone) + 1 ≤ k + 1) (hFr : mFr I D hp ip rest gone 2 0 ha hb) (e101 : I 101 D = iI 0) (e104 : I 104 D = iI (-9)) (e105 : I 105 D = iI (-9)) (hbase : ∀ q, (q < 95 ∨ 105 < q) → I q = I0 q) (hK : ∀ (I' : zI) (a b : Int), a = ha + (((f_play F W U K e (k + 1) 0 (zdf (2 ^ e - 1) gone) hp (-1) rest).1 : Nat) : Int) → b = hb + (((f_play F W U K e (k + 1) 0 (zdf (2 ^ e - 1) gone) hp (-1) rest).2 : Nat) : Int) → (∀ q, (q < 95 ∨ 105 < q) → I' q = I0 q) → (∀ q i, i < D → I' q i = I q i) → I' 104 D = iI a → I' 105 D = iI b → V 108 I' J P 252 [.ref 78, .int (iI w0), .int (iI o0), .int (iI (D : Int)), .null, .int (iI a), .int (iI b)] []) : V 108 I J P 167 [.ref 78, .int (iI w0), .int (iI o0), .int (iI (D : Int)), .null, .null, .null] [] := by
  have h2e := z_pn he6
  have ho64 : (zdf (2 ^ e - 1) gone) < 64 := z_df_lt (by omega)
  have fb1 := hFd (hp * 6) (by omega) (by omega)
  have fb2 := hFd (ip * 6) (by omega) (by omega)
  have hfp : f_play F W U K e (k + 1) 0 (zdf (2 ^ e - 1) gone) hp (-1) rest = (zit (f_ps0 F W U K e (f_play F W U K e k) 0 (zdf (2 ^ e - 1) gone) hp (-1) rest) e ((0 : Nat), (0 : Nat))) := by
    have h1 : f_play F W U K e (k + 1) 0 (zdf (2 ^ e - 1) gone) hp (-1) rest = (zit (f_ps0 F W U K e (f_play F W U K e k) 0 (zdf (2 ^ e - 1) gone) hp (-1) rest) 6 ((0 : Nat), (0 : Nat))) := by simp [f_play]
    rw [h1]
    refine zit_tail (fun a x ha => ?_) he6 _
    obtain ⟨x1, x2⟩ := x
    unfold f_ps0
    rw [if_neg (fun hh => by have := hh.2.1.1; omega)]
  have hb0 : ((0 : Nat), (0 : Nat)).1 ≤ 9 * (k + 1) ∧ ((0 : Nat), (0 : Nat)).2 ≤ 9 * (k + 1) := by exact ⟨Nat.zero_le _, Nat.zero_le _⟩
  have hGb : ∀ j, j ≤ 6 → (zit (f_ps0 F W U K e (f_play F W U K e k) 0 (zdf (2 ^ e - 1) gone) hp (-1) rest) j ((0 : Nat), (0 : Nat))).1 ≤ 9 * (k + 1) ∧ (zit (f_ps0 F W U K e (f_play F W U K e k) 0 (zdf (2 ^ e - 1) gone) hp (-1) rest) j ((0 : Nat), (0 : Nat))).2 ≤ 9 * (k + 1) := fun j hj =>
    zit_ind (p := fun b : Nat × Nat => b.1 ≤ 9 * (k + 1) ∧ b.2 ≤ 9 * (k + 1)) (n := 6) (fun a b ha hb => f_ps0_b hUb hb) j hj _ hb0
  -- the errands, one by one
  have L : ∀ (m j : Nat) (I1 : zI), e - j < m → j ≤ e → mFr I1 D hp ip rest gone 2 0 ha hb → I1 101 D = iI ((j : Int) + 1) → I1 104 D = iI (ha + (((zit (f_ps0 F W U K e (f_play F W U K e k) 0 (zdf (2 ^ e - 1) gone) hp (-1) rest) j ((0 : Nat), (0 : Nat))).1 : Nat) : Int)) → I1 105 D = iI (hb + (((zit (f_ps0 F W U K e (f_play F W U K e k) 0 (zdf (2 ^ e - 1) gone) hp (-1) rest) j ((0 : Nat), (0 : Nat))).2 : Nat) : Int)) → (∀ q, (q < 95 ∨ 105 < q) → I1 q = I0 q) → (∀ q i, i < D → I1 q i = I q i) → V 108 I1 J P 167 [.ref 78, .int (iI w0), .int (iI o0), .int (iI (D : Int)), .null, .null, .null] [] := by
    intro m
    induction m with
    | zero => intro j I1 h; omega
    | succ m ih =>
      intro j I1 hm hj hF1 n101 n104 n105 hb1 hl1
      have hGj := hGb j (by omega)
      by_cases hje : j = e
      · rw [hje] at n101 n104 n105
        exact n_btB I1 J P hM w0 o0 D (by omega) _ n101 (by omega) e ((congrFun (hb1 78 (by omega)) 8).trans h8) he6 2 hF1.2.2.2.2.1 (by omega) (by omega) (by omega) _ _ n104 n105 hV (hK I1 _ _ (by rw [hfp]) (by rw [hfp]) hb1 hl1 n104 n105)
      · have hwx := hWb (j : Int) (by omega) (by omega)
        have hux := hUb (j : Int) (by omega) (by omega)
        have hfx := hFd (hp * 6 + W (j : Int)) (by omega) (by omega)
        have hfw := hFd (W (j : Int) * 6) (by omega) (by omega)
        generalize hI2 : zu I1 101 (zu (I1 101) D (iI ((j : Int) + 1 + 1))) = I2
        have u2 : ∀ q, q ≠ 101 → I2 q = I1 q := fun q h => by rw [← hI2, zu_n _ _ h]
        have v2 : I2 101 D = iI ((j : Int) + 1 + 1) := by rw [← hI2, zu_s, zu_s]
        have l2 : ∀ q i, i < D → I2 q i = I1 q i := fun q i h => by
          by_cases hq : q = 101
          · rw [hq, ← hI2, zu_s, zu_n _ _ (by omega)]
          · rw [u2 q hq]
        have hb2 : ∀ q, (q < 95 ∨ 105 < q) → I2 q = I0 q := fun q h => (u2 q (by omega)).trans (hb1 q h)
        have hF2 : mFr I2 D hp ip rest gone 2 0 ha hb := mFr_fr hF1 (fun q a _ _ => congrFun (u2 q a) D)
        have key : ∀ (post1 : Option Value → zI → zJ → zP → Prop), z_Sp 2 yX12_choose cX12_choose 8 (some .boolean) 108 108 I2 J P [.ref 78, .int (iI (D : Int)), .int (iI ((j : Int) + 1))] post1 → (∀ v3 I3 J3 P3, post1 v3 I3 J3 P3 → V 108 I3 J3 P3 289 [.ref 78, .int (iI w0), .int (iI o0), .int (iI (D : Int)), .int (iI ((j : Int) + 1)), .null, .null] (v3.toList ++ [.int (iI (D : Int))])) → V 108 I1 J P 167 [.ref 78, .int (iI w0), .int (iI o0), .int (iI (D : Int)), .null, .null, .null] [] := fun post1 hsp hk => n_btA I1 J P hM w0 o0 D (by omega) _ n101 (by omega) e ((congrFun (hb1 78 (by omega)) 8).trans h8) he6 2 hF1.2.2.2.2.1 (by omega) (by omega) (by omega) (by rw [hI2]; exact hsp) hV hk
        refine key _ (n_ch02e I2 J P hM n e hnb ((congrFun (hb2 78 (by omega)) 8).trans h8) he6 F W U K (z_ar_fr zF (hb2 80 (by omega))) hFd (z_ar_fr zW (hb2 81 (by omega))) hWb (z_ar_fr zU (hb2 82 (by omega))) hUb (z_ar_fr zK (hb2 83 (by omega))) hKb D (by omega) hp ip rest gone hg64 ha hb hF2 hhp hip (by omega) j (by omega)) (fun v3 I3 J3 P3 hq => ?_)
        obtain ⟨rfl, ej, ep, z3, f3, hok⟩ := hq
        rw [ej, ep]
        clear ej ep
        have hopn : (zdf (2 ^ e - 1) gone).testBit j = !gone.testBit j := zdf_all he6 (by omega)
        have hcond : ((zdf (2 ^ e - 1) gone).testBit j = true ∧ (j < e ∧ (K (j : Int) = 2 ∨ K (j : Int) = 0)) ∧ f_hw F (W (j : Int)) + f_hw F (-1) ≤ rest - F (hp * 6 + W (j : Int))) ↔ ((¬ gone.testBit j = true ∧ (K (j : Int) = 2 ∨ K (j : Int) = 0) ∧ F (hp * 6 + W (j : Int)) < 1000000) ∧ F ((W (j : Int)) * 6) + F ((ip) * 6) ≤ rest - F (hp * 6 + W (j : Int))) := by
          have e1 : f_hw F (W (j : Int)) = F (W (j : Int) * 6) := by unfold f_hw; rw [if_neg (by omega)]
          have e2 : f_hw F (-1) = 0 := by rfl
          have e3 : F (ip * 6) = 0 := by rw [hat]; exact hF0
          rw [hopn, e1, e2]
          constructor
          · rintro ⟨a1, a2, a3⟩
            exact ⟨⟨by cases hgb : gone.testBit j <;> simp_all, a2.2, by omega⟩, by omega⟩
          · rintro ⟨⟨a1, a2, a3⟩, a4⟩
            exact ⟨by cases hgb : gone.testBit j <;> simp_all, ⟨by omega, a2⟩, by omega⟩
        by_cases hk : (¬ gone.testBit j = true ∧ (K (j : Int) = 2 ∨ K (j : Int) = 0) ∧ F (hp * 6 + W (j : Int)) < 1000000) ∧ F ((W (j : Int)) * 6) + F ((ip) * 6) ≤ rest - F (hp * 6 + W (j : Int))
        · have hcd := hcond.mpr hk
          rw [if_pos hk]
          refine n_btE1 I3 J P hM w0 o0 D (by omega) _ hV ?_
          obtain ⟨hFc, c101, c104, c105⟩ := hok hk
          have hob : (zdf (2 ^ e - 1) gone).testBit j = true := hcd.1
          have hzp := zpop_df ho64 (show j < 6 by omega) hob
          have hdo := zdf_or (a := 2 ^ e - 1) (g := gone) (x := j) (by omega) hg64 (by omega)
          have hpw := z_pw (k := j) (by omega)
          have hrb := f_play_b (D := F) (W := W) (K := K) (e := e) hUb k 0 (zdf (zdf (2 ^ e - 1) gone) (2 ^ j)) (W (j : Int)) (-1) (rest - F (hp * 6 + W (j : Int)))
          have hgo := rec 0 2 (D + 1) (W (j : Int)) (ip) (rest - F (hp * 6 + W (j : Int))) (gone ||| 2 ^ j) (ha + U (j : Int)) hb I3 (by unfold zCS; omega) (by omega) (by omega) (by omega) (fun h => by omega) (fun _ => hat) hk.2 (by omega) (z_or_lt hg64 hpw) (by omega) (by omega) (by rw [hdo]; rw [if_neg (by omega)]; omega) hFc c101 c104 c105 (fun q h => (z3 q h).trans (hb2 q h))
          rw [hdo] at hgo
          refine hgo ?_
          intro I' a b ea eb z' f' h104 h105
          rw [if_neg (by omega)] at ea eb
          rw [if_pos rfl] at ea eb
          have d1 : ∀ q, q ≠ 101 → I' q D = I1 q D := fun q h => (f' q D (by omega)).trans ((f3 q D (by omega)).trans (congrFun (u2 q h) D))
          refine n_btD I' J P hM w0 o0 D (by omega) (by omega) a b (n_take I' J P hM D (by omega) 0 _ _ a b ((d1 100 (by omega)).trans hF1.2.2.2.2.2.1) ((d1 104 (by omega)).trans n104) ((d1 105 (by omega)).trans n105) (by omega) (by omega) (by omega) (by omega) (by omega)) hV (fun v4 I4 J4 P4 hq4 => ?_)
          obtain ⟨hv4, ej4, ep4, y4, y5, z4, f4⟩ := hq4
          refine ⟨hv4, ?_⟩
          rw [ej4, ep4]
          have hst : (zit (f_ps0 F W U K e (f_play F W U K e k) 0 (zdf (2 ^ e - 1) gone) hp (-1) rest) (j + 1) ((0 : Nat), (0 : Nat))) = if (zit (f_ps0 F W U K e (f_play F W U K e k) 0 (zdf (2 ^ e - 1) gone) hp (-1) rest) j ((0 : Nat), (0 : Nat))).1 < (f_play F W U K e k 0 (zdf (zdf (2 ^ e - 1) gone) (2 ^ j)) (W (j : Int)) (-1) (rest - F (hp * 6 + W (j : Int)))).1 + (U (j : Int)).toNat then ((f_play F W U K e k 0 (zdf (zdf (2 ^ e - 1) gone) (2 ^ j)) (W (j : Int)) (-1) (rest - F (hp * 6 + W (j : Int)))).1 + (U (j : Int)).toNat, (f_play F W U K e k 0 (zdf (zdf (2 ^ e - 1) gone) (2 ^ j)) (W (j : Int)) (-1) (rest - F (hp * 6 + W (j : Int)))).2) else (zit (f_ps0 F W U K e (f_play F W U K e k) 0 (zdf (2 ^ e - 1) gone) hp (-1) rest) j ((0 : Nat), (0 : Nat))) := by
            rw [zit]
            generalize (zit (f_ps0 F W U K e (f_play F W U K e k) 0 (zdf (2 ^ e - 1) gone) hp (-1) rest) j ((0 : Nat), (0 : Nat))) = bj
            unfold f_ps0
            by_cases hlt : bj.1 < (f_play F W U K e k 0 (zdf (zdf (2 ^ e - 1) gone) (2 ^ j)) (W (j : Int)) (-1) (rest - F (hp * 6 + W (j : Int)))).1 + (U (j : Int)).toNat
            · rw [if_pos ⟨hcd.1, hcd.2.1, hcd.2.2, hlt⟩, if_pos hlt]
            · rw [if_neg (fun hh => hlt hh.2.2.2), if_neg hlt]
          have hcc : (ha + (((zit (f_ps0 F W U K e (f_play F W U K e k) 0 (zdf (2 ^ e - 1) gone) hp (-1) rest) j ((0 : Nat), (0 : Nat))).1 : Nat) : Int) = -9 ∨ (if (0 : Int) = 0 then ha + (((zit (f_ps0 F W U K e (f_play F W U K e k) 0 (zdf (2 ^ e - 1) gone) hp (-1) rest) j ((0 : Nat), (0 : Nat))).1 : Nat) : Int) < a else hb + (((zit (f_ps0 F W U K e (f_play F W U K e k) 0 (zdf (2 ^ e - 1) gone) hp (-1) rest) j ((0 : Nat), (0 : Nat))).2 : Nat) : Int) < b)) ↔ (zit (f_ps0 F W U K e (f_play F W U K e k) 0 (zdf (2 ^ e - 1) gone) hp (-1) rest) j ((0 : Nat), (0 : Nat))).1 < (f_play F W U K e k 0 (zdf (zdf (2 ^ e - 1) gone) (2 ^ j)) (W (j : Int)) (-1) (rest - F (hp * 6 + W (j : Int)))).1 + (U (j : Int)).toNat := by
            rw [if_pos rfl]
            omega
          refine ih (j + 1) I4 (by omega) (by omega) (mFr_fr hF1 (fun q h1 h2 h3 => (congrFun (z4 q h2 h3) D).trans (d1 q h1))) ?_ ?_ ?_ (fun q h => (z4 q (by omega) (by omega)).trans (z' q h)) (fun q i h => (f4 q i (by omega)).trans ((f' q i (by omega)).trans ((f3 q i (by omega)).trans ((l2 q i h).trans (hl1 q i h)))))
          · rw [congrFun (z4 101 (by omega) (by omega)) D, f' 101 D (by omega), f3 101 D (by omega), v2]
            exact congrArg iI (by omega)
          · rw [y4, hst]
            by_cases hlt : (zit (f_ps0 F W U K e (f_play F W U K e k) 0 (zdf (2 ^ e - 1) gone) hp (-1) rest) j ((0 : Nat), (0 : Nat))).1 < (f_play F W U K e k 0 (zdf (zdf (2 ^ e - 1) gone) (2 ^ j)) (W (j : Int)) (-1) (rest - F (hp * 6 + W (j : Int)))).1 + (U (j : Int)).toNat
            · rw [if_pos (hcc.mpr hlt), if_pos hlt]; exact congrArg iI (by simp only; omega)
            · rw [if_neg (fun hh => hlt (hcc.mp hh)), if_neg hlt]
          · rw [y5, hst]
            by_cases hlt : (zit (f_ps0 F W U K e (f_play F W U K e k) 0 (zdf (2 ^ e - 1) gone) hp (-1) rest) j ((0 : Nat), (0 : Nat))).1 < (f_play F W U K e k 0 (zdf (zdf (2 ^ e - 1) gone) (2 ^ j)) (W (j : Int)) (-1) (rest - F (hp * 6 + W (j : Int)))).1 + (U (j : Int)).toNat
            · rw [if_pos (hcc.mpr hlt), if_pos hlt]; exact congrArg iI (by simp only; omega)
            · rw [if_neg (fun hh => hlt (hcc.mp hh)), if_neg hlt]
        · rw [if_neg hk]
          refine n_btE0 I3 J P hM w0 o0 D (by omega) _ hV ?_
          have hst : (zit (f_ps0 F W U K e (f_play F W U K e k) 0 (zdf (2 ^ e - 1) gone) hp (-1) rest) (j + 1) ((0 : Nat), (0 : Nat))) = (zit (f_ps0 F W U K e (f_play F W U K e k) 0 (zdf (2 ^ e - 1) gone) hp (-1) rest) j ((0 : Nat), (0 : Nat))) := by
            rw [zit]
            generalize (zit (f_ps0 F W U K e (f_play F W U K e k) 0 (zdf (2 ^ e - 1) gone) hp (-1) rest) j ((0 : Nat), (0 : Nat))) = bj
            unfold f_ps0
            rw [if_neg (fun hh => hk (hcond.mp ⟨hh.1, hh.2.1, hh.2.2.1⟩))]
          have d1 : ∀ q, q ≠ 101 → I3 q D = I1 q D := fun q h => (f3 q D (by omega)).trans (congrFun (u2 q h) D)
          refine ih (j + 1) I3 (by omega) (by omega) (mFr_fr hF1 (fun q h1 h2 h3 => d1 q h1)) ?_ ?_ ?_ (fun q h => (z3 q h).trans (hb2 q h)) (fun q i h => (f3 q i (by omega)).trans ((l2 q i h).trans (hl1 q i h)))
          · rw [f3 101 D (by omega), v2]
            exact congrArg iI (by omega)
          · rw [d1 104 (by omega), n104, hst]
          · rw [d1 105 (by omega), n105, hst]
  -- home first
  generalize hI2 : zu I 101 (zu (I 101) D (iI (0 + 1))) = I2
  have u2 : ∀ q, q ≠ 101 → I2 q = I q := fun q h => by rw [← hI2, zu_n _ _ h]
  have v2 : I2 101 D = iI (0 + 1) := by rw [← hI2, zu_s, zu_s]
  have l2 : ∀ q i, i < D → I2 q i = I q i := fun q i h => by
    by_cases hq : q = 101
    · rw [hq, ← hI2, zu_s, zu_n _ _ (by omega)]
    · rw [u2 q hq]
  have hb2 : ∀ q, (q < 95 ∨ 105 < q) → I2 q = I0 q := fun q h => (u2 q (by omega)).trans (hbase q h)
  have hF2 : mFr I2 D hp ip rest gone 2 0 ha hb := mFr_fr hFr (fun q a _ _ => congrFun (u2 q a) D)
  have key : ∀ (post1 : Option Value → zI → zJ → zP → Prop), z_Sp 2 yX12_choose cX12_choose 8 (some .boolean) 108 108 I2 J P [.ref 78, .int (iI (D : Int)), .int (iI 0)] post1 → (∀ v3 I3 J3 P3, post1 v3 I3 J3 P3 → V 108 I3 J3 P3 289 [.ref 78, .int (iI w0), .int (iI o0), .int (iI (D : Int)), .int (iI 0), .null, .null] (v3.toList ++ [.int (iI (D : Int))])) → V 108 I J P 167 [.ref 78, .int (iI w0), .int (iI o0), .int (iI (D : Int)), .null, .null, .null] [] := fun post1 hsp hk => n_btA I J P hM w0 o0 D (by omega) 0 e101 (by omega) e ((congrFun (hbase 78 (by omega)) 8).trans h8) he6 2 hFr.2.2.2.2.1 (by omega) (by omega) (by omega) (by rw [hI2]; exact hsp) hV hk
  refine key _ (n_ch02h I2 J P hM n e hnb ((congrFun (hb2 78 (by omega)) 8).trans h8) he6 F W U K (z_ar_fr zF (hb2 80 (by omega))) hFd (z_ar_fr zW (hb2 81 (by omega))) hWb (z_ar_fr zU (hb2 82 (by omega))) hUb (z_ar_fr zK (hb2 83 (by omega))) hKb D (by omega) hp ip rest gone hg64 ha hb hF2 hhp hip (by omega) (by omega)) (fun v3 I3 J3 P3 hq => ?_)
  obtain ⟨rfl, ej, ep, z3, f3, hok⟩ := hq
  rw [ej, ep]
  clear ej ep
  have hk : F ((0) * 6) + F ((ip) * 6) ≤ rest - F (hp * 6) := by
    rw [show F (0 * 6) = 0 from hF0]
    omega
  rw [if_pos hk]
  refine n_btE1 I3 J P hM w0 o0 D (by omega) _ hV ?_
  obtain ⟨hFc, c101, c104, c105⟩ := hok hk
  have d1 : ∀ q, q ≠ 101 → I3 q D = I q D := fun q h => (f3 q D (by omega)).trans (congrFun (u2 q h) D)
  have fin : ∀ (I' : zI) (a b : Int), a = ha + ((((0 : Nat), (0 : Nat)).1 : Nat) : Int) → b = hb + ((((0 : Nat), (0 : Nat)).2 : Nat) : Int) → (∀ q, (q < 95 ∨ 105 < q) → I' q = I0 q) → (∀ q i, i < D + 1 → I' q i = I3 q i) → V 108 I' J P 252 [.ref 78, .int (iI w0), .int (iI o0), .int (iI ((D : Int) + 1)), .null, .int (iI a), .int (iI b)] [] := by
    intro I' a b ea eb z' f'
    have d2 : ∀ q, q ≠ 101 → I' q D = I q D := fun q h => (f' q D (by omega)).trans (d1 q h)
    refine n_btD I' J P hM w0 o0 D (by omega) (by omega) a b (n_take I' J P hM D (by omega) 0 (-9) (-9) a b ((d2 100 (by omega)).trans hFr.2.2.2.2.2.1) ((d2 104 (by omega)).trans e104) ((d2 105 (by omega)).trans e105) (by omega) (by omega) (by omega) (by omega) (by omega)) hV (fun v4 I4 J4 P4 hq4 => ?_)
    obtain ⟨hv4, ej4, ep4, y4, y5, z4, f4⟩ := hq4
    refine ⟨hv4, ?_⟩
    rw [ej4, ep4]
    rw [if_pos (Or.inl rfl)] at y4 y5
    refine L (e + 1) 0 I4 (by omega) (by omega) (mFr_fr hFr (fun q h1 h2 h3 => (congrFun (z4 q h2 h3) D).trans (d2 q h1))) ?_ (by rw [y4, ea]; rfl) (by rw [y5, eb]; rfl) (fun q h => (z4 q (by omega) (by omega)).trans (z' q h)) (fun q i h => (f4 q i (by omega)).trans ((f' q i (by omega)).trans ((f3 q i (by omega)).trans (l2 q i h))))
    rw [congrFun (z4 101 (by omega) (by omega)) D, f' 101 D (by omega), f3 101 D (by omega), v2]
    exact congrArg iI (by omega)
  exact n_btC I3 J P hM w0 o0 (D + 1) (by omega) 0 c101 (by omega) hFc.2.2.2.2.1 ha hb hFc.2.2.2.2.2.2.1 hFc.2.2.2.2.2.2.2 hV (fin I3 ha hb (by simp) (by simp) (fun q h => (z3 q h).trans (hb2 q h)) (fun q i _ => rfl))
theorem n_bt10 {V : Nat → zI → zJ → zP → Nat → List Value → List Value → Prop} {ini : Bool} {ret : Option FieldType} {post : Option Value → zI → zJ → zP → Prop} (J : zJ) (P : zP) (hM : mK P) (w0 o0 : Int) (n e : Nat) (hnb : 2 ≤ n ∧ n ≤ 6) (F W U K : Int → Int) (hFd : zD F) (hF0 : F 0 = 0) (hWb : z_bd W e 0 (n - 1)) (hUb : z_bd U 6 0 9) (hKb : z_bd K 6 0 2) (he6 : e ≤ 6) (I0 : zI) (h8 : I0 78 8 = iI (e : Int)) (zF : z_ar I0 80 36 (mF F)) (zW : z_ar I0 81 e W) (zU : z_ar I0 82 e U) (zK : z_ar I0 83 e K) (hV : z_Cl yX12_byTurns.cls cX12_byTurns 5 108 ini none ret post V) (k : Nat) (rec : zBT V I0 J P w0 o0 n e F W U K k) (D : Nat) (hp ip rest : Int) (gone : Nat) (ha hb : Int) (I : zI) (hDk : D + (k + 1) ≤ 7) (hhp : 0 ≤ hp ∧ hp < n) (hip : 0 ≤ ip ∧ ip < n)  (hsum : F (hp * 6) + F (ip * 6) ≤ rest) (hr9 : rest ≤ 90000) (hg64 : gone < 64) (hha : 0 ≤ ha ∧ ha + 9 * ((k : Int) + 1) ≤ 100) (hhb : 0 ≤ hb ∧ hb + 9 * ((k : Int) + 1) ≤ 100) (hpop : zpop (zdf (2 ^ e - 1) gone) + 2 ≤ k + 1) (hFr : mFr I D hp ip rest gone 0 1 ha hb) (e101 : I 101 D = iI 0) (e104 : I 104 D = iI (-9)) (e105 : I 105 D = iI (-9)) (hbase : ∀ q, (q < 95 ∨ 105 < q) → I q = I0 q) (hK : ∀ (I' : zI) (a b : Int), a = ha + (((f_play F W U K e (k + 1) 1 (zdf (2 ^ e - 1) gone) hp ip rest).1 : Nat) : Int) → b = hb + (((f_play F W U K e (k + 1) 1 (zdf (2 ^ e - 1) gone) hp ip rest).2 : Nat) : Int) → (∀ q, (q < 95 ∨ 105 < q) → I' q = I0 q) → (∀ q i, i < D → I' q i = I q i) → I' 104 D = iI a → I' 105 D = iI b → V 108 I' J P 252 [.ref 78, .int (iI w0), .int (iI o0), .int (iI (D : Int)), .null, .int (iI a), .int (iI b)] []) : V 108 I J P 167 [.ref 78, .int (iI w0), .int (iI o0), .int (iI (D : Int)), .null, .null, .null] [] := by
  have h2e := z_pn he6
  have ho64 : (zdf (2 ^ e - 1) gone) < 64 := z_df_lt (by omega)
  have fb1 := hFd (hp * 6) (by omega) (by omega)
  have fb2 := hFd (ip * 6) (by omega) (by omega)
  have hfp : f_play F W U K e (k + 1) 1 (zdf (2 ^ e - 1) gone) hp ip rest = (zit (f_ps1 F W U K e (f_play F W U K e k) 0 (zdf (2 ^ e - 1) gone) hp ip rest) e (f_play F W U K e k 0 (zdf (2 ^ e - 1) gone) hp (-1) (rest - f_hw F ip))) := by
    have h1 : f_play F W U K e (k + 1) 1 (zdf (2 ^ e - 1) gone) hp ip rest = (zit (f_ps1 F W U K e (f_play F W U K e k) 0 (zdf (2 ^ e - 1) gone) hp ip rest) 6 (f_play F W U K e k 0 (zdf (2 ^ e - 1) gone) hp (-1) (rest - f_hw F ip))) := by simp [f_play, show ¬ hp = -1 by omega]
    rw [h1]
    refine zit_tail (fun a x ha => ?_) he6 _
    obtain ⟨x1, x2⟩ := x
    unfold f_ps1
    rw [if_neg (fun hh => by have := hh.2.1.1; omega)]
  have hb0 : (f_play F W U K e k 0 (zdf (2 ^ e - 1) gone) hp (-1) (rest - f_hw F ip)).1 ≤ 9 * (k + 1) ∧ (f_play F W U K e k 0 (zdf (2 ^ e - 1) gone) hp (-1) (rest - f_hw F ip)).2 ≤ 9 * (k + 1) := by have := f_play_b (D := F) (W := W) (K := K) (e := e) hUb k 0 (zdf (2 ^ e - 1) gone) hp (-1) (rest - f_hw F ip); omega
  have hGb : ∀ j, j ≤ 6 → (zit (f_ps1 F W U K e (f_play F W U K e k) 0 (zdf (2 ^ e - 1) gone) hp ip rest) j (f_play F W U K e k 0 (zdf (2 ^ e - 1) gone) hp (-1) (rest - f_hw F ip))).1 ≤ 9 * (k + 1) ∧ (zit (f_ps1 F W U K e (f_play F W U K e k) 0 (zdf (2 ^ e - 1) gone) hp ip rest) j (f_play F W U K e k 0 (zdf (2 ^ e - 1) gone) hp (-1) (rest - f_hw F ip))).2 ≤ 9 * (k + 1) := fun j hj =>
    zit_ind (p := fun b : Nat × Nat => b.1 ≤ 9 * (k + 1) ∧ b.2 ≤ 9 * (k + 1)) (n := 6) (fun a b ha hb => f_ps1_b hUb hb) j hj _ hb0
  -- the errands, one by one
  have L : ∀ (m j : Nat) (I1 : zI), e - j < m → j ≤ e → mFr I1 D hp ip rest gone 0 1 ha hb → I1 101 D = iI ((j : Int) + 1) → I1 104 D = iI (ha + (((zit (f_ps1 F W U K e (f_play F W U K e k) 0 (zdf (2 ^ e - 1) gone) hp ip rest) j (f_play F W U K e k 0 (zdf (2 ^ e - 1) gone) hp (-1) (rest - f_hw F ip))).1 : Nat) : Int)) → I1 105 D = iI (hb + (((zit (f_ps1 F W U K e (f_play F W U K e k) 0 (zdf (2 ^ e - 1) gone) hp ip rest) j (f_play F W U K e k 0 (zdf (2 ^ e - 1) gone) hp (-1) (rest - f_hw F ip))).2 : Nat) : Int)) → (∀ q, (q < 95 ∨ 105 < q) → I1 q = I0 q) → (∀ q i, i < D → I1 q i = I q i) → V 108 I1 J P 167 [.ref 78, .int (iI w0), .int (iI o0), .int (iI (D : Int)), .null, .null, .null] [] := by
    intro m
    induction m with
    | zero => intro j I1 h; omega
    | succ m ih =>
      intro j I1 hm hj hF1 n101 n104 n105 hb1 hl1
      have hGj := hGb j (by omega)
      by_cases hje : j = e
      · rw [hje] at n101 n104 n105
        exact n_btB I1 J P hM w0 o0 D (by omega) _ n101 (by omega) e ((congrFun (hb1 78 (by omega)) 8).trans h8) he6 0 hF1.2.2.2.2.1 (by omega) (by omega) (by omega) _ _ n104 n105 hV (hK I1 _ _ (by rw [hfp]) (by rw [hfp]) hb1 hl1 n104 n105)
      · have hwx := hWb (j : Int) (by omega) (by omega)
        have hux := hUb (j : Int) (by omega) (by omega)
        have hfx := hFd (ip * 6 + W (j : Int)) (by omega) (by omega)
        have hfw := hFd (W (j : Int) * 6) (by omega) (by omega)
        generalize hI2 : zu I1 101 (zu (I1 101) D (iI ((j : Int) + 1 + 1))) = I2
        have u2 : ∀ q, q ≠ 101 → I2 q = I1 q := fun q h => by rw [← hI2, zu_n _ _ h]
        have v2 : I2 101 D = iI ((j : Int) + 1 + 1) := by rw [← hI2, zu_s, zu_s]
        have l2 : ∀ q i, i < D → I2 q i = I1 q i := fun q i h => by
          by_cases hq : q = 101
          · rw [hq, ← hI2, zu_s, zu_n _ _ (by omega)]
          · rw [u2 q hq]
        have hb2 : ∀ q, (q < 95 ∨ 105 < q) → I2 q = I0 q := fun q h => (u2 q (by omega)).trans (hb1 q h)
        have hF2 : mFr I2 D hp ip rest gone 0 1 ha hb := mFr_fr hF1 (fun q a _ _ => congrFun (u2 q a) D)
        have key : ∀ (post1 : Option Value → zI → zJ → zP → Prop), z_Sp 2 yX12_choose cX12_choose 8 (some .boolean) 108 108 I2 J P [.ref 78, .int (iI (D : Int)), .int (iI ((j : Int) + 1))] post1 → (∀ v3 I3 J3 P3, post1 v3 I3 J3 P3 → V 108 I3 J3 P3 289 [.ref 78, .int (iI w0), .int (iI o0), .int (iI (D : Int)), .int (iI ((j : Int) + 1)), .null, .null] (v3.toList ++ [.int (iI (D : Int))])) → V 108 I1 J P 167 [.ref 78, .int (iI w0), .int (iI o0), .int (iI (D : Int)), .null, .null, .null] [] := fun post1 hsp hk => n_btA I1 J P hM w0 o0 D (by omega) _ n101 (by omega) e ((congrFun (hb1 78 (by omega)) 8).trans h8) he6 0 hF1.2.2.2.2.1 (by omega) (by omega) (by omega) (by rw [hI2]; exact hsp) hV hk
        refine key _ (n_ch10e I2 J P hM n e hnb ((congrFun (hb2 78 (by omega)) 8).trans h8) he6 F W U K (z_ar_fr zF (hb2 80 (by omega))) hFd (z_ar_fr zW (hb2 81 (by omega))) hWb (z_ar_fr zU (hb2 82 (by omega))) hUb (z_ar_fr zK (hb2 83 (by omega))) hKb D (by omega) hp ip rest gone hg64 ha hb hF2 hhp hip (by omega) j (by omega)) (fun v3 I3 J3 P3 hq => ?_)
        obtain ⟨rfl, ej, ep, z3, f3, hok⟩ := hq
        rw [ej, ep]
        clear ej ep
        have hopn : (zdf (2 ^ e - 1) gone).testBit j = !gone.testBit j := zdf_all he6 (by omega)
        have hcond : ((zdf (2 ^ e - 1) gone).testBit j = true ∧ (j < e ∧ (K (j : Int) = 2 ∨ K (j : Int) = 1)) ∧ f_hw F (W (j : Int)) + f_hw F hp ≤ rest - F (ip * 6 + W (j : Int))) ↔ ((¬ gone.testBit j = true ∧ (K (j : Int) = 2 ∨ K (j : Int) = 1) ∧ F (ip * 6 + W (j : Int)) < 1000000) ∧ F ((hp) * 6) + F ((W (j : Int)) * 6) ≤ rest - F (ip * 6 + W (j : Int))) := by
          have e1 : f_hw F (W (j : Int)) = F (W (j : Int) * 6) := by unfold f_hw; rw [if_neg (by omega)]
          have e2 : f_hw F hp = F (hp * 6) := by unfold f_hw; rw [if_neg (by omega)]
          skip
          rw [hopn, e1, e2]
          constructor
          · rintro ⟨a1, a2, a3⟩
            exact ⟨⟨by cases hgb : gone.testBit j <;> simp_all, a2.2, by omega⟩, by omega⟩
          · rintro ⟨⟨a1, a2, a3⟩, a4⟩
            exact ⟨by cases hgb : gone.testBit j <;> simp_all, ⟨by omega, a2⟩, by omega⟩
        by_cases hk : (¬ gone.testBit j = true ∧ (K (j : Int) = 2 ∨ K (j : Int) = 1) ∧ F (ip * 6 + W (j : Int)) < 1000000) ∧ F ((hp) * 6) + F ((W (j : Int)) * 6) ≤ rest - F (ip * 6 + W (j : Int))
        · have hcd := hcond.mpr hk
          rw [if_pos hk]
          refine n_btE1 I3 J P hM w0 o0 D (by omega) _ hV ?_
          obtain ⟨hFc, c101, c104, c105⟩ := hok hk
          have hob : (zdf (2 ^ e - 1) gone).testBit j = true := hcd.1
          have hzp := zpop_df ho64 (show j < 6 by omega) hob
          have hdo := zdf_or (a := 2 ^ e - 1) (g := gone) (x := j) (by omega) hg64 (by omega)
          have hpw := z_pw (k := j) (by omega)
          have hrb := f_play_b (D := F) (W := W) (K := K) (e := e) hUb k 0 (zdf (zdf (2 ^ e - 1) gone) (2 ^ j)) hp (W (j : Int)) (rest - F (ip * 6 + W (j : Int)))
          have hgo := rec 0 0 (D + 1) (hp) (W (j : Int)) (rest - F (ip * 6 + W (j : Int))) (gone ||| 2 ^ j) ha (hb + U (j : Int)) I3 (by unfold zCS; omega) (by omega) (by omega) (by omega) (fun h => by omega) (fun h => by omega) hk.2 (by omega) (z_or_lt hg64 hpw) (by omega) (by omega) (by rw [hdo]; rw [if_pos rfl]; omega) hFc c101 c104 c105 (fun q h => (z3 q h).trans (hb2 q h))
          rw [hdo] at hgo
          refine hgo ?_
          intro I' a b ea eb z' f' h104 h105
          rw [if_neg (by omega)] at ea eb
          rw [if_neg (by omega)] at ea eb
          have d1 : ∀ q, q ≠ 101 → I' q D = I1 q D := fun q h => (f' q D (by omega)).trans ((f3 q D (by omega)).trans (congrFun (u2 q h) D))
          refine n_btD I' J P hM w0 o0 D (by omega) (by omega) a b (n_take I' J P hM D (by omega) 1 _ _ a b ((d1 100 (by omega)).trans hF1.2.2.2.2.2.1) ((d1 104 (by omega)).trans n104) ((d1 105 (by omega)).trans n105) (by omega) (by omega) (by omega) (by omega) (by omega)) hV (fun v4 I4 J4 P4 hq4 => ?_)
          obtain ⟨hv4, ej4, ep4, y4, y5, z4, f4⟩ := hq4
          refine ⟨hv4, ?_⟩
          rw [ej4, ep4]
          have hst : (zit (f_ps1 F W U K e (f_play F W U K e k) 0 (zdf (2 ^ e - 1) gone) hp ip rest) (j + 1) (f_play F W U K e k 0 (zdf (2 ^ e - 1) gone) hp (-1) (rest - f_hw F ip))) = if (zit (f_ps1 F W U K e (f_play F W U K e k) 0 (zdf (2 ^ e - 1) gone) hp ip rest) j (f_play F W U K e k 0 (zdf (2 ^ e - 1) gone) hp (-1) (rest - f_hw F ip))).2 < (f_play F W U K e k 0 (zdf (zdf (2 ^ e - 1) gone) (2 ^ j)) hp (W (j : Int)) (rest - F (ip * 6 + W (j : Int)))).2 + (U (j : Int)).toNat then ((f_play F W U K e k 0 (zdf (zdf (2 ^ e - 1) gone) (2 ^ j)) hp (W (j : Int)) (rest - F (ip * 6 + W (j : Int)))).1, (f_play F W U K e k 0 (zdf (zdf (2 ^ e - 1) gone) (2 ^ j)) hp (W (j : Int)) (rest - F (ip * 6 + W (j : Int)))).2 + (U (j : Int)).toNat) else (zit (f_ps1 F W U K e (f_play F W U K e k) 0 (zdf (2 ^ e - 1) gone) hp ip rest) j (f_play F W U K e k 0 (zdf (2 ^ e - 1) gone) hp (-1) (rest - f_hw F ip))) := by
            rw [zit]
            generalize (zit (f_ps1 F W U K e (f_play F W U K e k) 0 (zdf (2 ^ e - 1) gone) hp ip rest) j (f_play F W U K e k 0 (zdf (2 ^ e - 1) gone) hp (-1) (rest - f_hw F ip))) = bj
            unfold f_ps1
            by_cases hlt : bj.2 < (f_play F W U K e k 0 (zdf (zdf (2 ^ e - 1) gone) (2 ^ j)) hp (W (j : Int)) (rest - F (ip * 6 + W (j : Int)))).2 + (U (j : Int)).toNat
            · rw [if_pos ⟨hcd.1, hcd.2.1, hcd.2.2, hlt⟩, if_pos hlt]
            · rw [if_neg (fun hh => hlt hh.2.2.2), if_neg hlt]
          have hcc : (ha + (((zit (f_ps1 F W U K e (f_play F W U K e k) 0 (zdf (2 ^ e - 1) gone) hp ip rest) j (f_play F W U K e k 0 (zdf (2 ^ e - 1) gone) hp (-1) (rest - f_hw F ip))).1 : Nat) : Int) = -9 ∨ (if (1 : Int) = 0 then ha + (((zit (f_ps1 F W U K e (f_play F W U K e k) 0 (zdf (2 ^ e - 1) gone) hp ip rest) j (f_play F W U K e k 0 (zdf (2 ^ e - 1) gone) hp (-1) (rest - f_hw F ip))).1 : Nat) : Int) < a else hb + (((zit (f_ps1 F W U K e (f_play F W U K e k) 0 (zdf (2 ^ e - 1) gone) hp ip rest) j (f_play F W U K e k 0 (zdf (2 ^ e - 1) gone) hp (-1) (rest - f_hw F ip))).2 : Nat) : Int) < b)) ↔ (zit (f_ps1 F W U K e (f_play F W U K e k) 0 (zdf (2 ^ e - 1) gone) hp ip rest) j (f_play F W U K e k 0 (zdf (2 ^ e - 1) gone) hp (-1) (rest - f_hw F ip))).2 < (f_play F W U K e k 0 (zdf (zdf (2 ^ e - 1) gone) (2 ^ j)) hp (W (j : Int)) (rest - F (ip * 6 + W (j : Int)))).2 + (U (j : Int)).toNat := by
            rw [if_neg (by omega)]
            omega
          refine ih (j + 1) I4 (by omega) (by omega) (mFr_fr hF1 (fun q h1 h2 h3 => (congrFun (z4 q h2 h3) D).trans (d1 q h1))) ?_ ?_ ?_ (fun q h => (z4 q (by omega) (by omega)).trans (z' q h)) (fun q i h => (f4 q i (by omega)).trans ((f' q i (by omega)).trans ((f3 q i (by omega)).trans ((l2 q i h).trans (hl1 q i h)))))
          · rw [congrFun (z4 101 (by omega) (by omega)) D, f' 101 D (by omega), f3 101 D (by omega), v2]
            exact congrArg iI (by omega)
          · rw [y4, hst]
            by_cases hlt : (zit (f_ps1 F W U K e (f_play F W U K e k) 0 (zdf (2 ^ e - 1) gone) hp ip rest) j (f_play F W U K e k 0 (zdf (2 ^ e - 1) gone) hp (-1) (rest - f_hw F ip))).2 < (f_play F W U K e k 0 (zdf (zdf (2 ^ e - 1) gone) (2 ^ j)) hp (W (j : Int)) (rest - F (ip * 6 + W (j : Int)))).2 + (U (j : Int)).toNat
            · rw [if_pos (hcc.mpr hlt), if_pos hlt]; exact congrArg iI (by simp only; omega)
            · rw [if_neg (fun hh => hlt (hcc.mp hh)), if_neg hlt]
          · rw [y5, hst]
            by_cases hlt : (zit (f_ps1 F W U K e (f_play F W U K e k) 0 (zdf (2 ^ e - 1) gone) hp ip rest) j (f_play F W U K e k 0 (zdf (2 ^ e - 1) gone) hp (-1) (rest - f_hw F ip))).2 < (f_play F W U K e k 0 (zdf (zdf (2 ^ e - 1) gone) (2 ^ j)) hp (W (j : Int)) (rest - F (ip * 6 + W (j : Int)))).2 + (U (j : Int)).toNat
            · rw [if_pos (hcc.mpr hlt), if_pos hlt]; exact congrArg iI (by simp only; omega)
            · rw [if_neg (fun hh => hlt (hcc.mp hh)), if_neg hlt]
        · rw [if_neg hk]
          refine n_btE0 I3 J P hM w0 o0 D (by omega) _ hV ?_
          have hst : (zit (f_ps1 F W U K e (f_play F W U K e k) 0 (zdf (2 ^ e - 1) gone) hp ip rest) (j + 1) (f_play F W U K e k 0 (zdf (2 ^ e - 1) gone) hp (-1) (rest - f_hw F ip))) = (zit (f_ps1 F W U K e (f_play F W U K e k) 0 (zdf (2 ^ e - 1) gone) hp ip rest) j (f_play F W U K e k 0 (zdf (2 ^ e - 1) gone) hp (-1) (rest - f_hw F ip))) := by
            rw [zit]
            generalize (zit (f_ps1 F W U K e (f_play F W U K e k) 0 (zdf (2 ^ e - 1) gone) hp ip rest) j (f_play F W U K e k 0 (zdf (2 ^ e - 1) gone) hp (-1) (rest - f_hw F ip))) = bj
            unfold f_ps1
            rw [if_neg (fun hh => hk (hcond.mp ⟨hh.1, hh.2.1, hh.2.2.1⟩))]
          have d1 : ∀ q, q ≠ 101 → I3 q D = I1 q D := fun q h => (f3 q D (by omega)).trans (congrFun (u2 q h) D)
          refine ih (j + 1) I3 (by omega) (by omega) (mFr_fr hF1 (fun q h1 h2 h3 => d1 q h1)) ?_ ?_ ?_ (fun q h => (z3 q h).trans (hb2 q h)) (fun q i h => (f3 q i (by omega)).trans ((l2 q i h).trans (hl1 q i h)))
          · rw [f3 101 D (by omega), v2]
            exact congrArg iI (by omega)
          · rw [d1 104 (by omega), n104, hst]
          · rw [d1 105 (by omega), n105, hst]
  -- home first
  generalize hI2 : zu I 101 (zu (I 101) D (iI (0 + 1))) = I2
  have u2 : ∀ q, q ≠ 101 → I2 q = I q := fun q h => by rw [← hI2, zu_n _ _ h]
  have v2 : I2 101 D = iI (0 + 1) := by rw [← hI2, zu_s, zu_s]
  have l2 : ∀ q i, i < D → I2 q i = I q i := fun q i h => by
    by_cases hq : q = 101
    · rw [hq, ← hI2, zu_s, zu_n _ _ (by omega)]
    · rw [u2 q hq]
  have hb2 : ∀ q, (q < 95 ∨ 105 < q) → I2 q = I0 q := fun q h => (u2 q (by omega)).trans (hbase q h)
  have hF2 : mFr I2 D hp ip rest gone 0 1 ha hb := mFr_fr hFr (fun q a _ _ => congrFun (u2 q a) D)
  have key : ∀ (post1 : Option Value → zI → zJ → zP → Prop), z_Sp 2 yX12_choose cX12_choose 8 (some .boolean) 108 108 I2 J P [.ref 78, .int (iI (D : Int)), .int (iI 0)] post1 → (∀ v3 I3 J3 P3, post1 v3 I3 J3 P3 → V 108 I3 J3 P3 289 [.ref 78, .int (iI w0), .int (iI o0), .int (iI (D : Int)), .int (iI 0), .null, .null] (v3.toList ++ [.int (iI (D : Int))])) → V 108 I J P 167 [.ref 78, .int (iI w0), .int (iI o0), .int (iI (D : Int)), .null, .null, .null] [] := fun post1 hsp hk => n_btA I J P hM w0 o0 D (by omega) 0 e101 (by omega) e ((congrFun (hbase 78 (by omega)) 8).trans h8) he6 0 hFr.2.2.2.2.1 (by omega) (by omega) (by omega) (by rw [hI2]; exact hsp) hV hk
  refine key _ (n_ch10h I2 J P hM n e hnb ((congrFun (hb2 78 (by omega)) 8).trans h8) he6 F W U K (z_ar_fr zF (hb2 80 (by omega))) hFd (z_ar_fr zW (hb2 81 (by omega))) hWb (z_ar_fr zU (hb2 82 (by omega))) hUb (z_ar_fr zK (hb2 83 (by omega))) hKb D (by omega) hp ip rest gone hg64 ha hb hF2 hhp hip (by omega) (by omega)) (fun v3 I3 J3 P3 hq => ?_)
  obtain ⟨rfl, ej, ep, z3, f3, hok⟩ := hq
  rw [ej, ep]
  clear ej ep
  have hk : F ((hp) * 6) + F ((0) * 6) ≤ rest - F (ip * 6) := by
    rw [show F (0 * 6) = 0 from hF0]
    omega
  rw [if_pos hk]
  refine n_btE1 I3 J P hM w0 o0 D (by omega) _ hV ?_
  obtain ⟨hFc, c101, c104, c105⟩ := hok hk
  have d1 : ∀ q, q ≠ 101 → I3 q D = I q D := fun q h => (f3 q D (by omega)).trans (congrFun (u2 q h) D)
  have fin : ∀ (I' : zI) (a b : Int), a = ha + (((f_play F W U K e k 0 (zdf (2 ^ e - 1) gone) hp (-1) (rest - f_hw F ip)).1 : Nat) : Int) → b = hb + (((f_play F W U K e k 0 (zdf (2 ^ e - 1) gone) hp (-1) (rest - f_hw F ip)).2 : Nat) : Int) → (∀ q, (q < 95 ∨ 105 < q) → I' q = I0 q) → (∀ q i, i < D + 1 → I' q i = I3 q i) → V 108 I' J P 252 [.ref 78, .int (iI w0), .int (iI o0), .int (iI ((D : Int) + 1)), .null, .int (iI a), .int (iI b)] [] := by
    intro I' a b ea eb z' f'
    have d2 : ∀ q, q ≠ 101 → I' q D = I q D := fun q h => (f' q D (by omega)).trans (d1 q h)
    refine n_btD I' J P hM w0 o0 D (by omega) (by omega) a b (n_take I' J P hM D (by omega) 1 (-9) (-9) a b ((d2 100 (by omega)).trans hFr.2.2.2.2.2.1) ((d2 104 (by omega)).trans e104) ((d2 105 (by omega)).trans e105) (by omega) (by omega) (by omega) (by omega) (by omega)) hV (fun v4 I4 J4 P4 hq4 => ?_)
    obtain ⟨hv4, ej4, ep4, y4, y5, z4, f4⟩ := hq4
    refine ⟨hv4, ?_⟩
    rw [ej4, ep4]
    rw [if_pos (Or.inl rfl)] at y4 y5
    refine L (e + 1) 0 I4 (by omega) (by omega) (mFr_fr hFr (fun q h1 h2 h3 => (congrFun (z4 q h2 h3) D).trans (d2 q h1))) ?_ (by rw [y4, ea]; rfl) (by rw [y5, eb]; rfl) (fun q h => (z4 q (by omega) (by omega)).trans (z' q h)) (fun q i h => (f4 q i (by omega)).trans ((f' q i (by omega)).trans ((f3 q i (by omega)).trans (l2 q i h))))
    rw [congrFun (z4 101 (by omega) (by omega)) D, f' 101 D (by omega), f3 101 D (by omega), v2]
    exact congrArg iI (by omega)
  have hfb := f_play_b (D := F) (W := W) (K := K) (e := e) hUb k 0 (zdf (2 ^ e - 1) gone) hp (-1) (rest - f_hw F ip)
  have hgo := rec 0 2 (D + 1) (hp) (0) (rest - F (ip * 6)) gone ha hb I3 (by unfold zCS; omega) (by omega) (by omega) (by omega) (fun h => by omega) (fun _ => rfl) hk (by omega) hg64 (by omega) (by omega) (by rw [if_neg (by omega)]; omega) hFc c101 c104 c105 (fun q h => (z3 q h).trans (hb2 q h))
  refine hgo ?_
  intro I' a b ea eb z' f' _ _
  rw [if_neg (by omega)] at ea eb
  rw [if_pos rfl] at ea eb
  have e1 : f_hw F ip = F (ip * 6) := by unfold f_hw; rw [if_neg (by omega)]
  exact fin I' a b (by rw [e1]; exact ea) (by rw [e1]; exact eb) z' f'
theorem n_bt11 {V : Nat → zI → zJ → zP → Nat → List Value → List Value → Prop} {ini : Bool} {ret : Option FieldType} {post : Option Value → zI → zJ → zP → Prop} (J : zJ) (P : zP) (hM : mK P) (w0 o0 : Int) (n e : Nat) (hnb : 2 ≤ n ∧ n ≤ 6) (F W U K : Int → Int) (hFd : zD F) (hF0 : F 0 = 0) (hWb : z_bd W e 0 (n - 1)) (hUb : z_bd U 6 0 9) (hKb : z_bd K 6 0 2) (he6 : e ≤ 6) (I0 : zI) (h8 : I0 78 8 = iI (e : Int)) (zF : z_ar I0 80 36 (mF F)) (zW : z_ar I0 81 e W) (zU : z_ar I0 82 e U) (zK : z_ar I0 83 e K) (hV : z_Cl yX12_byTurns.cls cX12_byTurns 5 108 ini none ret post V) (k : Nat) (rec : zBT V I0 J P w0 o0 n e F W U K k) (D : Nat) (hp ip rest : Int) (gone : Nat) (ha hb : Int) (I : zI) (hDk : D + (k + 1) ≤ 7) (hhp : 0 ≤ hp ∧ hp < n) (hip : 0 ≤ ip ∧ ip < n) (hat : hp = 0) (hsum : F (hp * 6) + F (ip * 6) ≤ rest) (hr9 : rest ≤ 90000) (hg64 : gone < 64) (hha : 0 ≤ ha ∧ ha + 9 * ((k : Int) + 1) ≤ 100) (hhb : 0 ≤ hb ∧ hb + 9 * ((k : Int) + 1) ≤ 100) (hpop : zpop (zdf (2 ^ e - 1) gone) + 1 ≤ k + 1) (hFr : mFr I D hp ip rest gone 1 1 ha hb) (e101 : I 101 D = iI 0) (e104 : I 104 D = iI (-9)) (e105 : I 105 D = iI (-9)) (hbase : ∀ q, (q < 95 ∨ 105 < q) → I q = I0 q) (hK : ∀ (I' : zI) (a b : Int), a = ha + (((f_play F W U K e (k + 1) 1 (zdf (2 ^ e - 1) gone) (-1) ip rest).1 : Nat) : Int) → b = hb + (((f_play F W U K e (k + 1) 1 (zdf (2 ^ e - 1) gone) (-1) ip rest).2 : Nat) : Int) → (∀ q, (q < 95 ∨ 105 < q) → I' q = I0 q) → (∀ q i, i < D → I' q i = I q i) → I' 104 D = iI a → I' 105 D = iI b → V 108 I' J P 252 [.ref 78, .int (iI w0), .int (iI o0), .int (iI (D : Int)), .null, .int (iI a), .int (iI b)] []) : V 108 I J P 167 [.ref 78, .int (iI w0), .int (iI o0), .int (iI (D : Int)), .null, .null, .null] [] := by
  have h2e := z_pn he6
  have ho64 : (zdf (2 ^ e - 1) gone) < 64 := z_df_lt (by omega)
  have fb1 := hFd (hp * 6) (by omega) (by omega)
  have fb2 := hFd (ip * 6) (by omega) (by omega)
  have hfp : f_play F W U K e (k + 1) 1 (zdf (2 ^ e - 1) gone) (-1) ip rest = (zit (f_ps1 F W U K e (f_play F W U K e k) 1 (zdf (2 ^ e - 1) gone) (-1) ip rest) e ((0 : Nat), (0 : Nat))) := by
    have h1 : f_play F W U K e (k + 1) 1 (zdf (2 ^ e - 1) gone) (-1) ip rest = (zit (f_ps1 F W U K e (f_play F W U K e k) 1 (zdf (2 ^ e - 1) gone) (-1) ip rest) 6 ((0 : Nat), (0 : Nat))) := by simp [f_play]
    rw [h1]
    refine zit_tail (fun a x ha => ?_) he6 _
    obtain ⟨x1, x2⟩ := x
    unfold f_ps1
    rw [if_neg (fun hh => by have := hh.2.1.1; omega)]
  have hb0 : ((0 : Nat), (0 : Nat)).1 ≤ 9 * (k + 1) ∧ ((0 : Nat), (0 : Nat)).2 ≤ 9 * (k + 1) := by exact ⟨Nat.zero_le _, Nat.zero_le _⟩
  have hGb : ∀ j, j ≤ 6 → (zit (f_ps1 F W U K e (f_play F W U K e k) 1 (zdf (2 ^ e - 1) gone) (-1) ip rest) j ((0 : Nat), (0 : Nat))).1 ≤ 9 * (k + 1) ∧ (zit (f_ps1 F W U K e (f_play F W U K e k) 1 (zdf (2 ^ e - 1) gone) (-1) ip rest) j ((0 : Nat), (0 : Nat))).2 ≤ 9 * (k + 1) := fun j hj =>
    zit_ind (p := fun b : Nat × Nat => b.1 ≤ 9 * (k + 1) ∧ b.2 ≤ 9 * (k + 1)) (n := 6) (fun a b ha hb => f_ps1_b hUb hb) j hj _ hb0
  -- the errands, one by one
  have L : ∀ (m j : Nat) (I1 : zI), e - j < m → j ≤ e → mFr I1 D hp ip rest gone 1 1 ha hb → I1 101 D = iI ((j : Int) + 1) → I1 104 D = iI (ha + (((zit (f_ps1 F W U K e (f_play F W U K e k) 1 (zdf (2 ^ e - 1) gone) (-1) ip rest) j ((0 : Nat), (0 : Nat))).1 : Nat) : Int)) → I1 105 D = iI (hb + (((zit (f_ps1 F W U K e (f_play F W U K e k) 1 (zdf (2 ^ e - 1) gone) (-1) ip rest) j ((0 : Nat), (0 : Nat))).2 : Nat) : Int)) → (∀ q, (q < 95 ∨ 105 < q) → I1 q = I0 q) → (∀ q i, i < D → I1 q i = I q i) → V 108 I1 J P 167 [.ref 78, .int (iI w0), .int (iI o0), .int (iI (D : Int)), .null, .null, .null] [] := by
    intro m
    induction m with
    | zero => intro j I1 h; omega
    | succ m ih =>
      intro j I1 hm hj hF1 n101 n104 n105 hb1 hl1
      have hGj := hGb j (by omega)
      by_cases hje : j = e
      · rw [hje] at n101 n104 n105
        exact n_btB I1 J P hM w0 o0 D (by omega) _ n101 (by omega) e ((congrFun (hb1 78 (by omega)) 8).trans h8) he6 1 hF1.2.2.2.2.1 (by omega) (by omega) (by omega) _ _ n104 n105 hV (hK I1 _ _ (by rw [hfp]) (by rw [hfp]) hb1 hl1 n104 n105)
      · have hwx := hWb (j : Int) (by omega) (by omega)
        have hux := hUb (j : Int) (by omega) (by omega)
        have hfx := hFd (ip * 6 + W (j : Int)) (by omega) (by omega)
        have hfw := hFd (W (j : Int) * 6) (by omega) (by omega)
        generalize hI2 : zu I1 101 (zu (I1 101) D (iI ((j : Int) + 1 + 1))) = I2
        have u2 : ∀ q, q ≠ 101 → I2 q = I1 q := fun q h => by rw [← hI2, zu_n _ _ h]
        have v2 : I2 101 D = iI ((j : Int) + 1 + 1) := by rw [← hI2, zu_s, zu_s]
        have l2 : ∀ q i, i < D → I2 q i = I1 q i := fun q i h => by
          by_cases hq : q = 101
          · rw [hq, ← hI2, zu_s, zu_n _ _ (by omega)]
          · rw [u2 q hq]
        have hb2 : ∀ q, (q < 95 ∨ 105 < q) → I2 q = I0 q := fun q h => (u2 q (by omega)).trans (hb1 q h)
        have hF2 : mFr I2 D hp ip rest gone 1 1 ha hb := mFr_fr hF1 (fun q a _ _ => congrFun (u2 q a) D)
        have key : ∀ (post1 : Option Value → zI → zJ → zP → Prop), z_Sp 2 yX12_choose cX12_choose 8 (some .boolean) 108 108 I2 J P [.ref 78, .int (iI (D : Int)), .int (iI ((j : Int) + 1))] post1 → (∀ v3 I3 J3 P3, post1 v3 I3 J3 P3 → V 108 I3 J3 P3 289 [.ref 78, .int (iI w0), .int (iI o0), .int (iI (D : Int)), .int (iI ((j : Int) + 1)), .null, .null] (v3.toList ++ [.int (iI (D : Int))])) → V 108 I1 J P 167 [.ref 78, .int (iI w0), .int (iI o0), .int (iI (D : Int)), .null, .null, .null] [] := fun post1 hsp hk => n_btA I1 J P hM w0 o0 D (by omega) _ n101 (by omega) e ((congrFun (hb1 78 (by omega)) 8).trans h8) he6 1 hF1.2.2.2.2.1 (by omega) (by omega) (by omega) (by rw [hI2]; exact hsp) hV hk
        refine key _ (n_ch11e I2 J P hM n e hnb ((congrFun (hb2 78 (by omega)) 8).trans h8) he6 F W U K (z_ar_fr zF (hb2 80 (by omega))) hFd (z_ar_fr zW (hb2 81 (by omega))) hWb (z_ar_fr zU (hb2 82 (by omega))) hUb (z_ar_fr zK (hb2 83 (by omega))) hKb D (by omega) hp ip rest gone hg64 ha hb hF2 hhp hip (by omega) j (by omega)) (fun v3 I3 J3 P3 hq => ?_)
        obtain ⟨rfl, ej, ep, z3, f3, hok⟩ := hq
        rw [ej, ep]
        clear ej ep
        have hopn : (zdf (2 ^ e - 1) gone).testBit j = !gone.testBit j := zdf_all he6 (by omega)
        have hcond : ((zdf (2 ^ e - 1) gone).testBit j = true ∧ (j < e ∧ (K (j : Int) = 2 ∨ K (j : Int) = 1)) ∧ f_hw F (W (j : Int)) + f_hw F (-1) ≤ rest - F (ip * 6 + W (j : Int))) ↔ ((¬ gone.testBit j = true ∧ (K (j : Int) = 2 ∨ K (j : Int) = 1) ∧ F (ip * 6 + W (j : Int)) < 1000000) ∧ F ((hp) * 6) + F ((W (j : Int)) * 6) ≤ rest - F (ip * 6 + W (j : Int))) := by
          have e1 : f_hw F (W (j : Int)) = F (W (j : Int) * 6) := by unfold f_hw; rw [if_neg (by omega)]
          have e2 : f_hw F (-1) = 0 := by rfl
          have e3 : F (hp * 6) = 0 := by rw [hat]; exact hF0
          rw [hopn, e1, e2]
          constructor
          · rintro ⟨a1, a2, a3⟩
            exact ⟨⟨by cases hgb : gone.testBit j <;> simp_all, a2.2, by omega⟩, by omega⟩
          · rintro ⟨⟨a1, a2, a3⟩, a4⟩
            exact ⟨by cases hgb : gone.testBit j <;> simp_all, ⟨by omega, a2⟩, by omega⟩
        by_cases hk : (¬ gone.testBit j = true ∧ (K (j : Int) = 2 ∨ K (j : Int) = 1) ∧ F (ip * 6 + W (j : Int)) < 1000000) ∧ F ((hp) * 6) + F ((W (j : Int)) * 6) ≤ rest - F (ip * 6 + W (j : Int))
        · have hcd := hcond.mpr hk
          rw [if_pos hk]
          refine n_btE1 I3 J P hM w0 o0 D (by omega) _ hV ?_
          obtain ⟨hFc, c101, c104, c105⟩ := hok hk
          have hob : (zdf (2 ^ e - 1) gone).testBit j = true := hcd.1
          have hzp := zpop_df ho64 (show j < 6 by omega) hob
          have hdo := zdf_or (a := 2 ^ e - 1) (g := gone) (x := j) (by omega) hg64 (by omega)
          have hpw := z_pw (k := j) (by omega)
          have hrb := f_play_b (D := F) (W := W) (K := K) (e := e) hUb k 1 (zdf (zdf (2 ^ e - 1) gone) (2 ^ j)) (-1) (W (j : Int)) (rest - F (ip * 6 + W (j : Int)))
          have hgo := rec 1 1 (D + 1) (hp) (W (j : Int)) (rest - F (ip * 6 + W (j : Int))) (gone ||| 2 ^ j) ha (hb + U (j : Int)) I3 (by unfold zCS; omega) (by omega) (by omega) (by omega) (fun _ => hat) (fun h => by omega) hk.2 (by omega) (z_or_lt hg64 hpw) (by omega) (by omega) (by rw [hdo]; rw [if_neg (by omega)]; omega) hFc c101 c104 c105 (fun q h => (z3 q h).trans (hb2 q h))
          rw [hdo] at hgo
          refine hgo ?_
          intro I' a b ea eb z' f' h104 h105
          rw [if_pos rfl] at ea eb
          rw [if_neg (by omega)] at ea eb
          have d1 : ∀ q, q ≠ 101 → I' q D = I1 q D := fun q h => (f' q D (by omega)).trans ((f3 q D (by omega)).trans (congrFun (u2 q h) D))
          refine n_btD I' J P hM w0 o0 D (by omega) (by omega) a b (n_take I' J P hM D (by omega) 1 _ _ a b ((d1 100 (by omega)).trans hF1.2.2.2.2.2.1) ((d1 104 (by omega)).trans n104) ((d1 105 (by omega)).trans n105) (by omega) (by omega) (by omega) (by omega) (by omega)) hV (fun v4 I4 J4 P4 hq4 => ?_)
          obtain ⟨hv4, ej4, ep4, y4, y5, z4, f4⟩ := hq4
          refine ⟨hv4, ?_⟩
          rw [ej4, ep4]
          have hst : (zit (f_ps1 F W U K e (f_play F W U K e k) 1 (zdf (2 ^ e - 1) gone) (-1) ip rest) (j + 1) ((0 : Nat), (0 : Nat))) = if (zit (f_ps1 F W U K e (f_play F W U K e k) 1 (zdf (2 ^ e - 1) gone) (-1) ip rest) j ((0 : Nat), (0 : Nat))).2 < (f_play F W U K e k 1 (zdf (zdf (2 ^ e - 1) gone) (2 ^ j)) (-1) (W (j : Int)) (rest - F (ip * 6 + W (j : Int)))).2 + (U (j : Int)).toNat then ((f_play F W U K e k 1 (zdf (zdf (2 ^ e - 1) gone) (2 ^ j)) (-1) (W (j : Int)) (rest - F (ip * 6 + W (j : Int)))).1, (f_play F W U K e k 1 (zdf (zdf (2 ^ e - 1) gone) (2 ^ j)) (-1) (W (j : Int)) (rest - F (ip * 6 + W (j : Int)))).2 + (U (j : Int)).toNat) else (zit (f_ps1 F W U K e (f_play F W U K e k) 1 (zdf (2 ^ e - 1) gone) (-1) ip rest) j ((0 : Nat), (0 : Nat))) := by
            rw [zit]
            generalize (zit (f_ps1 F W U K e (f_play F W U K e k) 1 (zdf (2 ^ e - 1) gone) (-1) ip rest) j ((0 : Nat), (0 : Nat))) = bj
            unfold f_ps1
            by_cases hlt : bj.2 < (f_play F W U K e k 1 (zdf (zdf (2 ^ e - 1) gone) (2 ^ j)) (-1) (W (j : Int)) (rest - F (ip * 6 + W (j : Int)))).2 + (U (j : Int)).toNat
            · rw [if_pos ⟨hcd.1, hcd.2.1, hcd.2.2, hlt⟩, if_pos hlt]
            · rw [if_neg (fun hh => hlt hh.2.2.2), if_neg hlt]
          have hcc : (ha + (((zit (f_ps1 F W U K e (f_play F W U K e k) 1 (zdf (2 ^ e - 1) gone) (-1) ip rest) j ((0 : Nat), (0 : Nat))).1 : Nat) : Int) = -9 ∨ (if (1 : Int) = 0 then ha + (((zit (f_ps1 F W U K e (f_play F W U K e k) 1 (zdf (2 ^ e - 1) gone) (-1) ip rest) j ((0 : Nat), (0 : Nat))).1 : Nat) : Int) < a else hb + (((zit (f_ps1 F W U K e (f_play F W U K e k) 1 (zdf (2 ^ e - 1) gone) (-1) ip rest) j ((0 : Nat), (0 : Nat))).2 : Nat) : Int) < b)) ↔ (zit (f_ps1 F W U K e (f_play F W U K e k) 1 (zdf (2 ^ e - 1) gone) (-1) ip rest) j ((0 : Nat), (0 : Nat))).2 < (f_play F W U K e k 1 (zdf (zdf (2 ^ e - 1) gone) (2 ^ j)) (-1) (W (j : Int)) (rest - F (ip * 6 + W (j : Int)))).2 + (U (j : Int)).toNat := by
            rw [if_neg (by omega)]
            omega
          refine ih (j + 1) I4 (by omega) (by omega) (mFr_fr hF1 (fun q h1 h2 h3 => (congrFun (z4 q h2 h3) D).trans (d1 q h1))) ?_ ?_ ?_ (fun q h => (z4 q (by omega) (by omega)).trans (z' q h)) (fun q i h => (f4 q i (by omega)).trans ((f' q i (by omega)).trans ((f3 q i (by omega)).trans ((l2 q i h).trans (hl1 q i h)))))
          · rw [congrFun (z4 101 (by omega) (by omega)) D, f' 101 D (by omega), f3 101 D (by omega), v2]
            exact congrArg iI (by omega)
          · rw [y4, hst]
            by_cases hlt : (zit (f_ps1 F W U K e (f_play F W U K e k) 1 (zdf (2 ^ e - 1) gone) (-1) ip rest) j ((0 : Nat), (0 : Nat))).2 < (f_play F W U K e k 1 (zdf (zdf (2 ^ e - 1) gone) (2 ^ j)) (-1) (W (j : Int)) (rest - F (ip * 6 + W (j : Int)))).2 + (U (j : Int)).toNat
            · rw [if_pos (hcc.mpr hlt), if_pos hlt]; exact congrArg iI (by simp only; omega)
            · rw [if_neg (fun hh => hlt (hcc.mp hh)), if_neg hlt]
          · rw [y5, hst]
            by_cases hlt : (zit (f_ps1 F W U K e (f_play F W U K e k) 1 (zdf (2 ^ e - 1) gone) (-1) ip rest) j ((0 : Nat), (0 : Nat))).2 < (f_play F W U K e k 1 (zdf (zdf (2 ^ e - 1) gone) (2 ^ j)) (-1) (W (j : Int)) (rest - F (ip * 6 + W (j : Int)))).2 + (U (j : Int)).toNat
            · rw [if_pos (hcc.mpr hlt), if_pos hlt]; exact congrArg iI (by simp only; omega)
            · rw [if_neg (fun hh => hlt (hcc.mp hh)), if_neg hlt]
        · rw [if_neg hk]
          refine n_btE0 I3 J P hM w0 o0 D (by omega) _ hV ?_
          have hst : (zit (f_ps1 F W U K e (f_play F W U K e k) 1 (zdf (2 ^ e - 1) gone) (-1) ip rest) (j + 1) ((0 : Nat), (0 : Nat))) = (zit (f_ps1 F W U K e (f_play F W U K e k) 1 (zdf (2 ^ e - 1) gone) (-1) ip rest) j ((0 : Nat), (0 : Nat))) := by
            rw [zit]
            generalize (zit (f_ps1 F W U K e (f_play F W U K e k) 1 (zdf (2 ^ e - 1) gone) (-1) ip rest) j ((0 : Nat), (0 : Nat))) = bj
            unfold f_ps1
            rw [if_neg (fun hh => hk (hcond.mp ⟨hh.1, hh.2.1, hh.2.2.1⟩))]
          have d1 : ∀ q, q ≠ 101 → I3 q D = I1 q D := fun q h => (f3 q D (by omega)).trans (congrFun (u2 q h) D)
          refine ih (j + 1) I3 (by omega) (by omega) (mFr_fr hF1 (fun q h1 h2 h3 => d1 q h1)) ?_ ?_ ?_ (fun q h => (z3 q h).trans (hb2 q h)) (fun q i h => (f3 q i (by omega)).trans ((l2 q i h).trans (hl1 q i h)))
          · rw [f3 101 D (by omega), v2]
            exact congrArg iI (by omega)
          · rw [d1 104 (by omega), n104, hst]
          · rw [d1 105 (by omega), n105, hst]
  -- home first
  generalize hI2 : zu I 101 (zu (I 101) D (iI (0 + 1))) = I2
  have u2 : ∀ q, q ≠ 101 → I2 q = I q := fun q h => by rw [← hI2, zu_n _ _ h]
  have v2 : I2 101 D = iI (0 + 1) := by rw [← hI2, zu_s, zu_s]
  have l2 : ∀ q i, i < D → I2 q i = I q i := fun q i h => by
    by_cases hq : q = 101
    · rw [hq, ← hI2, zu_s, zu_n _ _ (by omega)]
    · rw [u2 q hq]
  have hb2 : ∀ q, (q < 95 ∨ 105 < q) → I2 q = I0 q := fun q h => (u2 q (by omega)).trans (hbase q h)
  have hF2 : mFr I2 D hp ip rest gone 1 1 ha hb := mFr_fr hFr (fun q a _ _ => congrFun (u2 q a) D)
  have key : ∀ (post1 : Option Value → zI → zJ → zP → Prop), z_Sp 2 yX12_choose cX12_choose 8 (some .boolean) 108 108 I2 J P [.ref 78, .int (iI (D : Int)), .int (iI 0)] post1 → (∀ v3 I3 J3 P3, post1 v3 I3 J3 P3 → V 108 I3 J3 P3 289 [.ref 78, .int (iI w0), .int (iI o0), .int (iI (D : Int)), .int (iI 0), .null, .null] (v3.toList ++ [.int (iI (D : Int))])) → V 108 I J P 167 [.ref 78, .int (iI w0), .int (iI o0), .int (iI (D : Int)), .null, .null, .null] [] := fun post1 hsp hk => n_btA I J P hM w0 o0 D (by omega) 0 e101 (by omega) e ((congrFun (hbase 78 (by omega)) 8).trans h8) he6 1 hFr.2.2.2.2.1 (by omega) (by omega) (by omega) (by rw [hI2]; exact hsp) hV hk
  refine key _ (n_ch11h I2 J P hM n e hnb ((congrFun (hb2 78 (by omega)) 8).trans h8) he6 F W U K (z_ar_fr zF (hb2 80 (by omega))) hFd (z_ar_fr zW (hb2 81 (by omega))) hWb (z_ar_fr zU (hb2 82 (by omega))) hUb (z_ar_fr zK (hb2 83 (by omega))) hKb D (by omega) hp ip rest gone hg64 ha hb hF2 hhp hip (by omega) (by omega)) (fun v3 I3 J3 P3 hq => ?_)
  obtain ⟨rfl, ej, ep, z3, f3, hok⟩ := hq
  rw [ej, ep]
  clear ej ep
  have hk : F ((hp) * 6) + F ((0) * 6) ≤ rest - F (ip * 6) := by
    rw [show F (0 * 6) = 0 from hF0]
    omega
  rw [if_pos hk]
  refine n_btE1 I3 J P hM w0 o0 D (by omega) _ hV ?_
  obtain ⟨hFc, c101, c104, c105⟩ := hok hk
  have d1 : ∀ q, q ≠ 101 → I3 q D = I q D := fun q h => (f3 q D (by omega)).trans (congrFun (u2 q h) D)
  have fin : ∀ (I' : zI) (a b : Int), a = ha + ((((0 : Nat), (0 : Nat)).1 : Nat) : Int) → b = hb + ((((0 : Nat), (0 : Nat)).2 : Nat) : Int) → (∀ q, (q < 95 ∨ 105 < q) → I' q = I0 q) → (∀ q i, i < D + 1 → I' q i = I3 q i) → V 108 I' J P 252 [.ref 78, .int (iI w0), .int (iI o0), .int (iI ((D : Int) + 1)), .null, .int (iI a), .int (iI b)] [] := by
    intro I' a b ea eb z' f'
    have d2 : ∀ q, q ≠ 101 → I' q D = I q D := fun q h => (f' q D (by omega)).trans (d1 q h)
    refine n_btD I' J P hM w0 o0 D (by omega) (by omega) a b (n_take I' J P hM D (by omega) 1 (-9) (-9) a b ((d2 100 (by omega)).trans hFr.2.2.2.2.2.1) ((d2 104 (by omega)).trans e104) ((d2 105 (by omega)).trans e105) (by omega) (by omega) (by omega) (by omega) (by omega)) hV (fun v4 I4 J4 P4 hq4 => ?_)
    obtain ⟨hv4, ej4, ep4, y4, y5, z4, f4⟩ := hq4
    refine ⟨hv4, ?_⟩
    rw [ej4, ep4]
    rw [if_pos (Or.inl rfl)] at y4 y5
    refine L (e + 1) 0 I4 (by omega) (by omega) (mFr_fr hFr (fun q h1 h2 h3 => (congrFun (z4 q h2 h3) D).trans (d2 q h1))) ?_ (by rw [y4, ea]; rfl) (by rw [y5, eb]; rfl) (fun q h => (z4 q (by omega) (by omega)).trans (z' q h)) (fun q i h => (f4 q i (by omega)).trans ((f' q i (by omega)).trans ((f3 q i (by omega)).trans (l2 q i h))))
    rw [congrFun (z4 101 (by omega) (by omega)) D, f' 101 D (by omega), f3 101 D (by omega), v2]
    exact congrArg iI (by omega)
  exact n_btC I3 J P hM w0 o0 (D + 1) (by omega) 0 c101 (by omega) hFc.2.2.2.2.1 ha hb hFc.2.2.2.2.2.2.1 hFc.2.2.2.2.2.2.2 hV (fin I3 ha hb (by simp) (by simp) (fun q h => (z3 q h).trans (hb2 q h)) (fun q i _ => rfl))
theorem n_bt_all {V : Nat → zI → zJ → zP → Nat → List Value → List Value → Prop} {ini : Bool} {ret : Option FieldType} {post : Option Value → zI → zJ → zP → Prop} (J : zJ) (P : zP) (hM : mK P) (w0 o0 : Int) (n e : Nat) (hnb : 2 ≤ n ∧ n ≤ 6) (F W U K : Int → Int) (hFd : zD F) (hF0 : F 0 = 0) (hWb : z_bd W e 0 (n - 1)) (hUb : z_bd U 6 0 9) (hKb : z_bd K 6 0 2) (he6 : e ≤ 6) (I0 : zI) (h8 : I0 78 8 = iI (e : Int)) (zF : z_ar I0 80 36 (mF F)) (zW : z_ar I0 81 e W) (zU : z_ar I0 82 e U) (zK : z_ar I0 83 e K) (hV : z_Cl yX12_byTurns.cls cX12_byTurns 5 108 ini none ret post V) : ∀ k, zBT V I0 J P w0 o0 n e F W U K k := by
  intro k
  induction k with
  | zero =>
    intro w H0 D hp ip rest gone ha hb I _ _ _ _ _ _ _ _ _ _ _ hz
    exfalso
    split at hz <;> omega
  | succ k ih =>
    intro w H0 D hp ip rest gone ha hb I hcs hD hhp hip h1 h2 hs hr hg hha hhb hz hF a b c hbs hK
    rcases hcs with ⟨rfl, rfl⟩ | ⟨rfl, rfl⟩ | ⟨rfl, rfl⟩ | ⟨rfl, rfl⟩
    · exact n_bt00 J P hM w0 o0 n e hnb F W U K hFd hF0 hWb hUb hKb he6 I0 h8 zF zW zU zK hV k ih D hp ip rest gone ha hb I (by omega) hhp hip  hs hr hg (by omega) (by omega) (by rw [if_pos rfl] at hz; omega) hF a b c hbs (fun I' x y ex ey => hK I' x y (by rw [if_neg (by omega)]; rw [if_neg (by omega)]; exact ex) (by rw [if_neg (by omega)]; rw [if_neg (by omega)]; exact ey))
    · exact n_bt02 J P hM w0 o0 n e hnb F W U K hFd hF0 hWb hUb hKb he6 I0 h8 zF zW zU zK hV k ih D hp ip rest gone ha hb I (by omega) hhp hip (h2 rfl) hs hr hg (by omega) (by omega) (by rw [if_neg (by omega)] at hz; omega) hF a b c hbs (fun I' x y ex ey => hK I' x y (by rw [if_neg (by omega)]; rw [if_pos rfl]; exact ex) (by rw [if_neg (by omega)]; rw [if_pos rfl]; exact ey))
    · exact n_bt10 J P hM w0 o0 n e hnb F W U K hFd hF0 hWb hUb hKb he6 I0 h8 zF zW zU zK hV k ih D hp ip rest gone ha hb I (by omega) hhp hip  hs hr hg (by omega) (by omega) (by rw [if_pos rfl] at hz; omega) hF a b c hbs (fun I' x y ex ey => hK I' x y (by rw [if_neg (by omega)]; rw [if_neg (by omega)]; exact ex) (by rw [if_neg (by omega)]; rw [if_neg (by omega)]; exact ey))
    · exact n_bt11 J P hM w0 o0 n e hnb F W U K hFd hF0 hWb hUb hKb he6 I0 h8 zF zW zU zK hV k ih D hp ip rest gone ha hb I (by omega) hhp hip (h1 rfl) hs hr hg (by omega) (by omega) (by rw [if_neg (by omega)] at hz; omega) hF a b c hbs (fun I' x y ex ey => hK I' x y (by rw [if_pos rfl]; rw [if_neg (by omega)]; exact ex) (by rw [if_pos rfl]; rw [if_neg (by omega)]; exact ey))
set_option maxRecDepth 20000 in
theorem n_btF {V : Nat → zI → zJ → zP → Nat → List Value → List Value → Prop} {ini : Bool} {post : Option Value → zI → zJ → zP → Prop} (I : zI) (J : zJ) (P : zP) (hM : mK P) (w0 o0 x y : Int) (hw0 : w0 = 0 ∨ w0 = 1) (e104 : I 104 0 = iI x) (e105 : I 105 0 = iI y) (hV : z_Cl yX12_byTurns.cls cX12_byTurns 5 108 ini none (some .int) post V) (hfin : post (some (.int (iI (if w0 = 0 then x else y)))) I J P) : V 108 I J P 252 [.ref 78, .int (iI w0), .int (iI o0), .int (iI (((0 : Nat)) : Int)), .null, .int (iI x), .int (iI y)] [] := by
  obtain ⟨o1, o7, o9, o10, o11, o16, o17, o18, o19, o20, o25, o26, o28, o29, o30, o31, o36, o37, o38, o39, o40, o41, o42, o43, o44, o45, o46, o47, o48⟩ := id hM
  refine s_iinc hV dX12_byTurns_252 rfl (z_st1_7_3 rfl) ?_
  rw [show ((0 : Nat) : Int) + -1 = -1 from rfl]
  refine r_iload_n hV dX12_byTurns_255 rfl ?_
  refine s_if_lt hV 268 dX12_byTurns_256 (by decide) (by unfold z_rg; first | omega | (split <;> omega)) (fun _ => ?_) (fun c256 => absurd (by decide) c256)
  refine r_goto hV 299 dX12_byTurns_268 (by decide) ?_
  refine r_goto hV 167 dX12_byTurns_299 (by decide) ?_
  refine r_iload_n hV dX12_byTurns_167 rfl ?_
  refine s_if_lt hV 302 dX12_byTurns_168 (by decide) (by unfold z_rg; first | omega | (split <;> omega)) (fun _ => ?_) (fun c168 => absurd (by decide) c168)
  refine r_iload_n hV dX12_byTurns_302 rfl ?_
  refine s_if_ne hV 315 dX12_byTurns_303 (by decide) (by unfold z_rg; first | omega | (split <;> omega)) (fun c303 => ?_) (fun c303 => ?_)
  · rw [if_neg (by omega)] at hfin
    refine r_aload_n hV dX12_byTurns_315 rfl rfl ?_
    refine r_getR hV dX12_byTurns_316 fl_X12_93 (by first | decide | omega) (by first | rfl | assumption) o46 ?_
    refine s_iconst hV dX12_byTurns_319 (0) (by decide) ?_
    refine s_iaload hV dX12_byTurns_320 (by first | decide | omega) (by first | rfl | assumption) (by decide) (by omega) (by omega) (show I 105 (0 : Int).toNat = iI y from e105) ?_
    refine r_iret hV dX12_byTurns_321 rfl rfl ?_
    exact hfin
  · rw [if_pos (by omega)] at hfin
    refine r_aload_n hV dX12_byTurns_306 rfl rfl ?_
    refine r_getR hV dX12_byTurns_307 fl_X12_90 (by first | decide | omega) (by first | rfl | assumption) o45 ?_
    refine s_iconst hV dX12_byTurns_310 (0) (by decide) ?_
    refine s_iaload hV dX12_byTurns_311 (by first | decide | omega) (by first | rfl | assumption) (by decide) (by omega) (by omega) (show I 104 (0 : Int).toNat = iI x from e104) ?_
    refine r_goto hV 321 dX12_byTurns_312 (by decide) ?_
    refine r_iret hV dX12_byTurns_321 rfl rfl ?_
    exact hfin

def f_cnt (dn : Nat) (m : Nat) : Nat := match m with
  | 0 => 0
  | m + 1 => f_cnt dn m + if dn.testBit m = true then 0 else 1
theorem f_cnt_pop {dn e : Nat} (hd : dn < 64) (he : e ≤ 6) : f_cnt dn e = zpop (zdf (2 ^ e - 1) dn) := by
  have key : ∀ dn, dn < 64 → ∀ e, e < 7 → f_cnt dn e = zpop (zdf (2 ^ e - 1) dn) := by decide +kernel
  exact key dn hd e (by omega)
theorem f_cnt_le (dn : Nat) : ∀ m, f_cnt dn m ≤ m := by
  intro m
  induction m with
  | zero => exact Nat.le_refl _
  | succ m ih => unfold f_cnt; split <;> omega
def q_mbt (I : zI) (J : zJ) (P : zP) (a : Int) (v : Option Value) (I1 : zI) (J1 : zJ) (P1 : zP) : Prop := v = some (.int (iI a)) ∧ J1 = J ∧ P1 = P ∧ (∀ q, q ≠ 78 → (q < 95 ∨ 105 < q) → I1 q = I q) ∧ ∀ k, k ≠ 0 → I1 78 k = I 78 k
set_option maxRecDepth 20000 in
theorem n_byTurns (I : zI) (J : zJ) (P : zP) (hM : mK P) (tl st r c : Int) (n e : Nat) (T F W U K S : Int → Int) (hI : mI I tl st r c n e T F W U K S) (hnb : 2 ≤ n ∧ n ≤ 6) (he6 : e ≤ 6) (hFd : zD F) (hF0 : F 0 = 0) (hWb : z_bd W e 0 (n - 1)) (hUb : z_bd U 6 0 9) (hKb : z_bd K 6 0 2) (dn dh : Nat) (hg : cG n S dn dh) (w : Int) (hw : z_rg w) : z_Sp 5 yX12_byTurns cX12_byTurns 7 (some .int) 108 108 I J P [.ref 78, .int (iI w)] (q_mbt I J P (f_byT e F W U K S dn w)) := by
  obtain ⟨o1, o7, o9, o10, o11, o16, o17, o18, o19, o20, o25, o26, o28, o29, o30, o31, o36, o37, o38, o39, o40, o41, o42, o43, o44, o45, o46, o47, o48⟩ := id hM
  obtain ⟨g0, g1, g2, g3, g4, g5, g6, g7, g8⟩ := id hg
  have hw1 := hw.1
  have hw2 := hw.2
  refine z_met false (by decide +kernel) (fun h => by cases h) (Nat.le_of_ble_eq_true rfl) (by first | decide | omega) (fun V hV => ?_)
  show V 108 I J P 0 [.ref 78, .int (iI w), .null, .null, .null, .null, .null] []
  refine r_aload_n hV dX12_byTurns_0 rfl rfl ?_
  refine s_iconst hV dX12_byTurns_1 (0) (by decide) ?_
  refine r_putI hV dX12_byTurns_2 fl_X12_104 (pf_X12_104 _) (z_okI_int rfl _) (by first | decide | omega) (by first | rfl | assumption) ?_
  generalize hI0e : zu I 78 (zu (I 78) 0 (iI 0)) = I0
  have t0 : ∀ q, q ≠ 78 → I0 q = I q := fun q h => by rw [← hI0e, zu_n _ _ h]
  have t1 : ∀ k, k ≠ 0 → I0 78 k = I 78 k := fun k h => by rw [← hI0e, zu_s, zu_n _ _ h]
  clear hI0e
  have hI0 := mI_fr hI t0 t1
  obtain ⟨⟨i20, i40, i50, i60, i80, i210, i220, i230, i240, i270⟩, zT0, zF0, zW0, zU0, zK0, zA0, zN0⟩ := id hI0
  refine r_iload_n hV dX12_byTurns_5 rfl ?_
  refine q_is1v hV dX12_byTurns_6 ms_X12_191 (n_noWalker I0 J P (w) (by unfold z_rg; omega)) (by decide) (Nat.le_refl _) (Nat.le_of_ble_eq_true rfl) ?_
  refine s_if_eq hV 14 dX12_byTurns_9 (by decide) (by unfold z_rg; first | omega | (split <;> omega)) (fun c9 => ?_) (fun c9 => ?_)
  · refine s_iconst hV dX12_byTurns_14 (0) (by decide) ?_
    refine r_istore_n hV dX12_byTurns_15 (Nat.le_of_ble_eq_true rfl) (z_st1_7_2 rfl) ?_
    refine s_iconst hV dX12_byTurns_16 (0) (by decide) ?_
    refine r_istore_n hV dX12_byTurns_17 (Nat.le_of_ble_eq_true rfl) (z_st1_7_3 rfl) ?_
    have L18 : ∀ (k18 j : Nat), e - j < k18 → j ≤ e → V 108 I0 J P 18 [.ref 78, .int (iI w), .int (iI ((f_cnt dn j : Nat) : Int)), .int (iI (j : Int)), .null, .null, .null] [] := by
      intro k18
      induction k18 with
      | zero => intro j  hk1 hk2; omega
      | succ k18 ih18 =>
        intro j  hk18 hl18 
        have hcl := f_cnt_le dn j
        have hnx : ∀ s2 : Nat, f_cnt dn (j + 1) = s2 → j < e → V 108 I0 J P 18 [.ref 78, .int (iI w), .int (iI (s2 : Int)), .int (iI ((j : Int) + 1)), .null, .null, .null] [] := fun s2 hs hj => by subst hs; exact ih18 (j + 1) (by omega) (by omega)
        refine r_iload_n hV dX12_byTurns_18 rfl ?_
        refine r_aload_n hV dX12_byTurns_19 rfl rfl ?_
        refine r_getI hV dX12_byTurns_20 fl_X12_111 (by first | decide | omega) (by first | rfl | assumption) i80 ?_
        refine s_icmp_ge hV 51 dX12_byTurns_23 (by decide) (by unfold z_rg; first | omega | (split <;> omega)) (by unfold z_rg; first | omega | (split <;> omega)) (fun c23 => ?_) (fun c23 => ?_)
        · have hje : j = e := by omega
          have hcp := f_cnt_pop g4 he6
          rw [hje]
          rw [hje] at hcl
          refine r_iload_n hV dX12_byTurns_51 rfl ?_
          refine s_iconst hV dX12_byTurns_52 (5) (by decide) ?_
          refine s_icmp_le hV 59 dX12_byTurns_53 (by decide) (by unfold z_rg; first | omega | (split <;> omega)) (by unfold z_rg; first | omega | (split <;> omega)) (fun c53 => ?_) (fun c53 => ?_)
          · refine r_aload_n hV dX12_byTurns_59 rfl rfl ?_
            refine r_getR hV dX12_byTurns_60 fl_X12_63 (by first | decide | omega) (by first | rfl | assumption) o36 ?_
            refine s_iconst hV dX12_byTurns_63 (0) (by decide) ?_
            refine r_aload_n hV dX12_byTurns_64 rfl rfl ?_
            refine r_getR hV dX12_byTurns_65 fl_X12_41 (by first | decide | omega) (by first | rfl | assumption) o20 ?_
            refine s_iconst hV dX12_byTurns_68 (0) (by decide) ?_
            refine s_iaload hV dX12_byTurns_69 (by first | decide | omega) (by first | rfl | assumption) (by decide) (by omega) (by omega) (zA0 0 (by omega) (by omega)) ?_
            refine s_iastore hV dX12_byTurns_70 (by first | decide | omega) (by first | rfl | assumption) (by decide) (by omega) (by omega) ?_
            generalize hgQ1 : zu I0 95 (zu (I0 95) (0 : Int).toNat (iI (S 0))) = Q1
            have uQ1 : ∀ q, q ≠ 95 → Q1 q = I0 q := fun q h => by rw [← hgQ1, zu_n _ _ h]
            have aQ1_95 : Q1 95 0 = iI (S 0) := by rw [← hgQ1, zu_s]; exact zu_s ..
            have zQ1 : ∀ q, (q < 95 ∨ 105 < q) → Q1 q = I0 q := fun q h => uQ1 q (by omega)
            clear hgQ1
            refine r_aload_n hV dX12_byTurns_71 rfl rfl ?_
            refine r_getR hV dX12_byTurns_72 fl_X12_66 (by first | decide | omega) (by first | rfl | assumption) o37 ?_
            refine s_iconst hV dX12_byTurns_75 (0) (by decide) ?_
            refine r_aload_n hV dX12_byTurns_76 rfl rfl ?_
            refine r_getR hV dX12_byTurns_77 fl_X12_41 (by first | decide | omega) (by first | rfl | assumption) o20 ?_
            refine s_iconst hV dX12_byTurns_80 (1) (by decide) ?_
            refine s_iaload hV dX12_byTurns_81 (by first | decide | omega) (by first | rfl | assumption) (by decide) (by omega) (by omega) ((congrFun (zQ1 88 (by omega)) _).trans (zA0 1 (by omega) (by omega))) ?_
            refine s_iastore hV dX12_byTurns_82 (by first | decide | omega) (by first | rfl | assumption) (by decide) (by omega) (by omega) ?_
            generalize hgQ2 : zu Q1 96 (zu (Q1 96) (0 : Int).toNat (iI (S 1))) = Q2
            have uQ2 : ∀ q, q ≠ 96 → Q2 q = Q1 q := fun q h => by rw [← hgQ2, zu_n _ _ h]
            have aQ2_96 : Q2 96 0 = iI (S 1) := by rw [← hgQ2, zu_s]; exact zu_s ..
            have zQ2 : ∀ q, (q < 95 ∨ 105 < q) → Q2 q = I0 q := fun q h => (uQ2 q (by omega)).trans (zQ1 q h)
            have aQ2_95 : Q2 95 0 = iI (S 0) := by rw [uQ2 95 (by omega)]; exact aQ1_95
            clear hgQ2
            refine r_aload_n hV dX12_byTurns_83 rfl rfl ?_
            refine r_getR hV dX12_byTurns_84 fl_X12_69 (by first | decide | omega) (by first | rfl | assumption) o38 ?_
            refine s_iconst hV dX12_byTurns_87 (0) (by decide) ?_
            refine r_aload_n hV dX12_byTurns_88 rfl rfl ?_
            refine r_getI hV dX12_byTurns_89 fl_X12_165 (by first | decide | omega) (by first | rfl | assumption) ((congrFun (zQ2 78 (by omega)) 21).trans i210) ?_
            refine s_iastore hV dX12_byTurns_92 (by first | decide | omega) (by first | rfl | assumption) (by decide) (by omega) (by omega) ?_
            generalize hgQ3 : zu Q2 97 (zu (Q2 97) (0 : Int).toNat (iI (S 2))) = Q3
            have uQ3 : ∀ q, q ≠ 97 → Q3 q = Q2 q := fun q h => by rw [← hgQ3, zu_n _ _ h]
            have aQ3_97 : Q3 97 0 = iI (S 2) := by rw [← hgQ3, zu_s]; exact zu_s ..
            have zQ3 : ∀ q, (q < 95 ∨ 105 < q) → Q3 q = I0 q := fun q h => (uQ3 q (by omega)).trans (zQ2 q h)
            have aQ3_95 : Q3 95 0 = iI (S 0) := by rw [uQ3 95 (by omega)]; exact aQ2_95
            have aQ3_96 : Q3 96 0 = iI (S 1) := by rw [uQ3 96 (by omega)]; exact aQ2_96
            clear hgQ3
            refine r_aload_n hV dX12_byTurns_93 rfl rfl ?_
            refine r_getR hV dX12_byTurns_94 fl_X12_72 (by first | decide | omega) (by first | rfl | assumption) o39 ?_
            refine s_iconst hV dX12_byTurns_97 (0) (by decide) ?_
            refine r_aload_n hV dX12_byTurns_98 rfl rfl ?_
            refine r_getI hV dX12_byTurns_99 fl_X12_168 (by first | decide | omega) (by first | rfl | assumption) ((congrFun (zQ3 78 (by omega)) 22).trans (i220.trans (by rw [g3]))) ?_
            refine s_iastore hV dX12_byTurns_102 (by first | decide | omega) (by first | rfl | assumption) (by decide) (by omega) (by omega) ?_
            generalize hgQ4 : zu Q3 98 (zu (Q3 98) (0 : Int).toNat (iI ((dn : Int)))) = Q4
            have uQ4 : ∀ q, q ≠ 98 → Q4 q = Q3 q := fun q h => by rw [← hgQ4, zu_n _ _ h]
            have aQ4_98 : Q4 98 0 = iI ((dn : Int)) := by rw [← hgQ4, zu_s]; exact zu_s ..
            have zQ4 : ∀ q, (q < 95 ∨ 105 < q) → Q4 q = I0 q := fun q h => (uQ4 q (by omega)).trans (zQ3 q h)
            have aQ4_95 : Q4 95 0 = iI (S 0) := by rw [uQ4 95 (by omega)]; exact aQ3_95
            have aQ4_96 : Q4 96 0 = iI (S 1) := by rw [uQ4 96 (by omega)]; exact aQ3_96
            have aQ4_97 : Q4 97 0 = iI (S 2) := by rw [uQ4 97 (by omega)]; exact aQ3_97
            clear hgQ4
            refine r_aload_n hV dX12_byTurns_103 rfl rfl ?_
            refine r_getR hV dX12_byTurns_104 fl_X12_75 (by first | decide | omega) (by first | rfl | assumption) o40 ?_
            refine s_iconst hV dX12_byTurns_107 (0) (by decide) ?_
            refine s_iconst hV dX12_byTurns_108 (0) (by decide) ?_
            refine s_iastore hV dX12_byTurns_109 (by first | decide | omega) (by first | rfl | assumption) (by decide) (by omega) (by omega) ?_
            generalize hgQ5 : zu Q4 99 (zu (Q4 99) (0 : Int).toNat (iI (0))) = Q5
            have uQ5 : ∀ q, q ≠ 99 → Q5 q = Q4 q := fun q h => by rw [← hgQ5, zu_n _ _ h]
            have aQ5_99 : Q5 99 0 = iI (0) := by rw [← hgQ5, zu_s]; exact zu_s ..
            have zQ5 : ∀ q, (q < 95 ∨ 105 < q) → Q5 q = I0 q := fun q h => (uQ5 q (by omega)).trans (zQ4 q h)
            have aQ5_95 : Q5 95 0 = iI (S 0) := by rw [uQ5 95 (by omega)]; exact aQ4_95
            have aQ5_96 : Q5 96 0 = iI (S 1) := by rw [uQ5 96 (by omega)]; exact aQ4_96
            have aQ5_97 : Q5 97 0 = iI (S 2) := by rw [uQ5 97 (by omega)]; exact aQ4_97
            have aQ5_98 : Q5 98 0 = iI ((dn : Int)) := by rw [uQ5 98 (by omega)]; exact aQ4_98
            clear hgQ5
            refine r_aload_n hV dX12_byTurns_110 rfl rfl ?_
            refine r_getR hV dX12_byTurns_111 fl_X12_78 (by first | decide | omega) (by first | rfl | assumption) o41 ?_
            refine s_iconst hV dX12_byTurns_114 (0) (by decide) ?_
            refine s_iconst hV dX12_byTurns_115 (0) (by decide) ?_
            refine s_iastore hV dX12_byTurns_116 (by first | decide | omega) (by first | rfl | assumption) (by decide) (by omega) (by omega) ?_
            generalize hgQ6 : zu Q5 100 (zu (Q5 100) (0 : Int).toNat (iI (0))) = Q6
            have uQ6 : ∀ q, q ≠ 100 → Q6 q = Q5 q := fun q h => by rw [← hgQ6, zu_n _ _ h]
            have aQ6_100 : Q6 100 0 = iI (0) := by rw [← hgQ6, zu_s]; exact zu_s ..
            have zQ6 : ∀ q, (q < 95 ∨ 105 < q) → Q6 q = I0 q := fun q h => (uQ6 q (by omega)).trans (zQ5 q h)
            have aQ6_95 : Q6 95 0 = iI (S 0) := by rw [uQ6 95 (by omega)]; exact aQ5_95
            have aQ6_96 : Q6 96 0 = iI (S 1) := by rw [uQ6 96 (by omega)]; exact aQ5_96
            have aQ6_97 : Q6 97 0 = iI (S 2) := by rw [uQ6 97 (by omega)]; exact aQ5_97
            have aQ6_98 : Q6 98 0 = iI ((dn : Int)) := by rw [uQ6 98 (by omega)]; exact aQ5_98
            have aQ6_99 : Q6 99 0 = iI (0) := by rw [uQ6 99 (by omega)]; exact aQ5_99
            clear hgQ6
            refine r_aload_n hV dX12_byTurns_117 rfl rfl ?_
            refine r_getR hV dX12_byTurns_118 fl_X12_81 (by first | decide | omega) (by first | rfl | assumption) o42 ?_
            refine s_iconst hV dX12_byTurns_121 (0) (by decide) ?_
            refine s_iconst hV dX12_byTurns_122 (0) (by decide) ?_
            refine s_iastore hV dX12_byTurns_123 (by first | decide | omega) (by first | rfl | assumption) (by decide) (by omega) (by omega) ?_
            generalize hgQ7 : zu Q6 101 (zu (Q6 101) (0 : Int).toNat (iI (0))) = Q7
            have uQ7 : ∀ q, q ≠ 101 → Q7 q = Q6 q := fun q h => by rw [← hgQ7, zu_n _ _ h]
            have aQ7_101 : Q7 101 0 = iI (0) := by rw [← hgQ7, zu_s]; exact zu_s ..
            have zQ7 : ∀ q, (q < 95 ∨ 105 < q) → Q7 q = I0 q := fun q h => (uQ7 q (by omega)).trans (zQ6 q h)
            have aQ7_95 : Q7 95 0 = iI (S 0) := by rw [uQ7 95 (by omega)]; exact aQ6_95
            have aQ7_96 : Q7 96 0 = iI (S 1) := by rw [uQ7 96 (by omega)]; exact aQ6_96
            have aQ7_97 : Q7 97 0 = iI (S 2) := by rw [uQ7 97 (by omega)]; exact aQ6_97
            have aQ7_98 : Q7 98 0 = iI ((dn : Int)) := by rw [uQ7 98 (by omega)]; exact aQ6_98
            have aQ7_99 : Q7 99 0 = iI (0) := by rw [uQ7 99 (by omega)]; exact aQ6_99
            have aQ7_100 : Q7 100 0 = iI (0) := by rw [uQ7 100 (by omega)]; exact aQ6_100
            clear hgQ7
            refine r_aload_n hV dX12_byTurns_124 rfl rfl ?_
            refine r_getR hV dX12_byTurns_125 fl_X12_84 (by first | decide | omega) (by first | rfl | assumption) o43 ?_
            refine s_iconst hV dX12_byTurns_128 (0) (by decide) ?_
            refine s_iconst hV dX12_byTurns_129 (0) (by decide) ?_
            refine s_iastore hV dX12_byTurns_130 (by first | decide | omega) (by first | rfl | assumption) (by decide) (by omega) (by omega) ?_
            generalize hgQ8 : zu Q7 102 (zu (Q7 102) (0 : Int).toNat (iI (0))) = Q8
            have uQ8 : ∀ q, q ≠ 102 → Q8 q = Q7 q := fun q h => by rw [← hgQ8, zu_n _ _ h]
            have aQ8_102 : Q8 102 0 = iI (0) := by rw [← hgQ8, zu_s]; exact zu_s ..
            have zQ8 : ∀ q, (q < 95 ∨ 105 < q) → Q8 q = I0 q := fun q h => (uQ8 q (by omega)).trans (zQ7 q h)
            have aQ8_95 : Q8 95 0 = iI (S 0) := by rw [uQ8 95 (by omega)]; exact aQ7_95
            have aQ8_96 : Q8 96 0 = iI (S 1) := by rw [uQ8 96 (by omega)]; exact aQ7_96
            have aQ8_97 : Q8 97 0 = iI (S 2) := by rw [uQ8 97 (by omega)]; exact aQ7_97
            have aQ8_98 : Q8 98 0 = iI ((dn : Int)) := by rw [uQ8 98 (by omega)]; exact aQ7_98
            have aQ8_99 : Q8 99 0 = iI (0) := by rw [uQ8 99 (by omega)]; exact aQ7_99
            have aQ8_100 : Q8 100 0 = iI (0) := by rw [uQ8 100 (by omega)]; exact aQ7_100
            have aQ8_101 : Q8 101 0 = iI (0) := by rw [uQ8 101 (by omega)]; exact aQ7_101
            clear hgQ8
            refine r_aload_n hV dX12_byTurns_131 rfl rfl ?_
            refine r_getR hV dX12_byTurns_132 fl_X12_87 (by first | decide | omega) (by first | rfl | assumption) o44 ?_
            refine s_iconst hV dX12_byTurns_135 (0) (by decide) ?_
            refine s_iconst hV dX12_byTurns_136 (0) (by decide) ?_
            refine s_iastore hV dX12_byTurns_137 (by first | decide | omega) (by first | rfl | assumption) (by decide) (by omega) (by omega) ?_
            generalize hgQ9 : zu Q8 103 (zu (Q8 103) (0 : Int).toNat (iI (0))) = Q9
            have uQ9 : ∀ q, q ≠ 103 → Q9 q = Q8 q := fun q h => by rw [← hgQ9, zu_n _ _ h]
            have aQ9_103 : Q9 103 0 = iI (0) := by rw [← hgQ9, zu_s]; exact zu_s ..
            have zQ9 : ∀ q, (q < 95 ∨ 105 < q) → Q9 q = I0 q := fun q h => (uQ9 q (by omega)).trans (zQ8 q h)
            have aQ9_95 : Q9 95 0 = iI (S 0) := by rw [uQ9 95 (by omega)]; exact aQ8_95
            have aQ9_96 : Q9 96 0 = iI (S 1) := by rw [uQ9 96 (by omega)]; exact aQ8_96
            have aQ9_97 : Q9 97 0 = iI (S 2) := by rw [uQ9 97 (by omega)]; exact aQ8_97
            have aQ9_98 : Q9 98 0 = iI ((dn : Int)) := by rw [uQ9 98 (by omega)]; exact aQ8_98
            have aQ9_99 : Q9 99 0 = iI (0) := by rw [uQ9 99 (by omega)]; exact aQ8_99
            have aQ9_100 : Q9 100 0 = iI (0) := by rw [uQ9 100 (by omega)]; exact aQ8_100
            have aQ9_101 : Q9 101 0 = iI (0) := by rw [uQ9 101 (by omega)]; exact aQ8_101
            have aQ9_102 : Q9 102 0 = iI (0) := by rw [uQ9 102 (by omega)]; exact aQ8_102
            clear hgQ9
            refine r_aload_n hV dX12_byTurns_138 rfl rfl ?_
            refine r_getR hV dX12_byTurns_139 fl_X12_90 (by first | decide | omega) (by first | rfl | assumption) o45 ?_
            refine s_iconst hV dX12_byTurns_142 (0) (by decide) ?_
            refine s_bipush hV dX12_byTurns_143 (-9) (by decide) ?_
            refine s_iastore hV dX12_byTurns_145 (by first | decide | omega) (by first | rfl | assumption) (by decide) (by omega) (by omega) ?_
            generalize hgQ10 : zu Q9 104 (zu (Q9 104) (0 : Int).toNat (iI (-9))) = Q10
            have uQ10 : ∀ q, q ≠ 104 → Q10 q = Q9 q := fun q h => by rw [← hgQ10, zu_n _ _ h]
            have aQ10_104 : Q10 104 0 = iI (-9) := by rw [← hgQ10, zu_s]; exact zu_s ..
            have zQ10 : ∀ q, (q < 95 ∨ 105 < q) → Q10 q = I0 q := fun q h => (uQ10 q (by omega)).trans (zQ9 q h)
            have aQ10_95 : Q10 95 0 = iI (S 0) := by rw [uQ10 95 (by omega)]; exact aQ9_95
            have aQ10_96 : Q10 96 0 = iI (S 1) := by rw [uQ10 96 (by omega)]; exact aQ9_96
            have aQ10_97 : Q10 97 0 = iI (S 2) := by rw [uQ10 97 (by omega)]; exact aQ9_97
            have aQ10_98 : Q10 98 0 = iI ((dn : Int)) := by rw [uQ10 98 (by omega)]; exact aQ9_98
            have aQ10_99 : Q10 99 0 = iI (0) := by rw [uQ10 99 (by omega)]; exact aQ9_99
            have aQ10_100 : Q10 100 0 = iI (0) := by rw [uQ10 100 (by omega)]; exact aQ9_100
            have aQ10_101 : Q10 101 0 = iI (0) := by rw [uQ10 101 (by omega)]; exact aQ9_101
            have aQ10_102 : Q10 102 0 = iI (0) := by rw [uQ10 102 (by omega)]; exact aQ9_102
            have aQ10_103 : Q10 103 0 = iI (0) := by rw [uQ10 103 (by omega)]; exact aQ9_103
            clear hgQ10
            refine r_aload_n hV dX12_byTurns_146 rfl rfl ?_
            refine r_getR hV dX12_byTurns_147 fl_X12_93 (by first | decide | omega) (by first | rfl | assumption) o46 ?_
            refine s_iconst hV dX12_byTurns_150 (0) (by decide) ?_
            refine s_bipush hV dX12_byTurns_151 (-9) (by decide) ?_
            refine s_iastore hV dX12_byTurns_153 (by first | decide | omega) (by first | rfl | assumption) (by decide) (by omega) (by omega) ?_
            generalize hgQ11 : zu Q10 105 (zu (Q10 105) (0 : Int).toNat (iI (-9))) = Q11
            have uQ11 : ∀ q, q ≠ 105 → Q11 q = Q10 q := fun q h => by rw [← hgQ11, zu_n _ _ h]
            have aQ11_105 : Q11 105 0 = iI (-9) := by rw [← hgQ11, zu_s]; exact zu_s ..
            have zQ11 : ∀ q, (q < 95 ∨ 105 < q) → Q11 q = I0 q := fun q h => (uQ11 q (by omega)).trans (zQ10 q h)
            have aQ11_95 : Q11 95 0 = iI (S 0) := by rw [uQ11 95 (by omega)]; exact aQ10_95
            have aQ11_96 : Q11 96 0 = iI (S 1) := by rw [uQ11 96 (by omega)]; exact aQ10_96
            have aQ11_97 : Q11 97 0 = iI (S 2) := by rw [uQ11 97 (by omega)]; exact aQ10_97
            have aQ11_98 : Q11 98 0 = iI ((dn : Int)) := by rw [uQ11 98 (by omega)]; exact aQ10_98
            have aQ11_99 : Q11 99 0 = iI (0) := by rw [uQ11 99 (by omega)]; exact aQ10_99
            have aQ11_100 : Q11 100 0 = iI (0) := by rw [uQ11 100 (by omega)]; exact aQ10_100
            have aQ11_101 : Q11 101 0 = iI (0) := by rw [uQ11 101 (by omega)]; exact aQ10_101
            have aQ11_102 : Q11 102 0 = iI (0) := by rw [uQ11 102 (by omega)]; exact aQ10_102
            have aQ11_103 : Q11 103 0 = iI (0) := by rw [uQ11 103 (by omega)]; exact aQ10_103
            have aQ11_104 : Q11 104 0 = iI (-9) := by rw [uQ11 104 (by omega)]; exact aQ10_104
            clear hgQ11
            refine r_aload_n hV dX12_byTurns_154 rfl rfl ?_
            refine s_iconst hV dX12_byTurns_155 (0) (by decide) ?_
            refine q_iv1v hV dX12_byTurns_156 mv_X12_241 (n_canBoth Q11 J P hM n hnb F (z_ar_fr zF0 (zQ11 80 (by omega))) hFd 0 (by omega) (S 0) (S 1) (S 2) aQ11_95 aQ11_96 aQ11_97 g0 g1 (by omega)) (by first | decide | omega) (by first | rfl | assumption) (by decide) (Nat.le_refl _) (Nat.le_of_ble_eq_true rfl) ?_
            refine s_if_ne hV 165 dX12_byTurns_159 (by decide) (by unfold z_rg; first | omega | (split <;> omega)) (fun c159 => ?_) (fun c159 => ?_)
            · refine s_iconst hV dX12_byTurns_165 (0) (by decide) ?_
              refine r_istore_n hV dX12_byTurns_166 (Nat.le_of_ble_eq_true rfl) (z_st1_7_3 rfl) ?_
              have e1 : f_hw F (S 0) = F (S 0 * 6) := by unfold f_hw; rw [if_neg (by omega)]
              have e2 : f_hw F (S 1) = F (S 1 * 6) := by unfold f_hw; rw [if_neg (by omega)]
              have hfpb := f_play_b (D := F) (W := W) (K := K) (e := e) hUb 7 0 (zdf (2 ^ e - 1) dn) (S 0) (S 1) (S 2)
              have hall := n_bt_all J P hM w ((f_cnt dn e : Nat) : Int) n e hnb F W U K hFd hF0 hWb hUb hKb he6 I0 i80 zF0 zW0 zU0 zK0 hV 7
              refine hall 0 0 0 (S 0) (S 1) (S 2) dn 0 0 Q11 (Or.inl ⟨rfl, rfl⟩) (by omega) g0 g1 (fun h => by omega) (fun h => by omega) (by omega) (by omega) g4 (by omega) (by omega) (by rw [if_pos rfl]; omega) ⟨aQ11_95, aQ11_96, aQ11_97, aQ11_98, aQ11_99, aQ11_100, aQ11_102, aQ11_103⟩ aQ11_101 aQ11_104 aQ11_105 zQ11 (fun I' a b ea eb z' f' h104 h105 => ?_)
              rw [if_neg (by omega), if_neg (by omega)] at ea eb
              refine n_btF I' J P hM w _ a b (by omega) h104 h105 hV ?_
              refine ⟨?_, rfl, rfl, fun q x y => (z' q y).trans (t0 q x), fun k x => (congrFun (z' 78 (by omega)) k).trans (t1 k x)⟩
              rw [Int.zero_add] at ea eb
              rw [ea, eb]
              unfold f_byT
              rw [if_neg (show ¬ ¬ (0 ≤ w ∧ w < 2) by omega), if_neg (show ¬ 5 < zpop (zdf (2 ^ e - 1) dn) by omega), if_neg (show ¬ S 2 < f_hw F (S 0) + f_hw F (S 1) by omega)]
            · refine s_bipush hV dX12_byTurns_162 (-9) (by decide) ?_
              refine r_iret hV dX12_byTurns_164 rfl rfl ?_
              refine ⟨?_, rfl, rfl, fun q a b => (zQ11 q b).trans (t0 q a), fun k a => (congrFun (zQ11 78 (by omega)) k).trans (t1 k a)⟩
              have e1 : f_hw F (S 0) = F (S 0 * 6) := by unfold f_hw; rw [if_neg (by omega)]
              have e2 : f_hw F (S 1) = F (S 1 * 6) := by unfold f_hw; rw [if_neg (by omega)]
              unfold f_byT
              rw [if_neg (by omega), if_neg (by omega), if_pos (by omega)]
          · refine s_bipush hV dX12_byTurns_56 (-3) (by decide) ?_
            refine r_iret hV dX12_byTurns_58 rfl rfl ?_
            refine ⟨?_, rfl, rfl, fun q a _ => t0 q a, t1⟩
            unfold f_byT
            rw [if_neg (by omega), if_pos (by omega)]
        · refine r_iload_n hV dX12_byTurns_26 rfl ?_
          refine r_aload_n hV dX12_byTurns_27 rfl rfl ?_
          refine r_getI hV dX12_byTurns_28 fl_X12_168 (by first | decide | omega) (by first | rfl | assumption) (i220.trans (by rw [g3])) ?_
          refine r_iload_n hV dX12_byTurns_31 rfl ?_
          refine q_is2v hV dX12_byTurns_32 ms_X12_180 (n_has I0 J P dn j g4 (by omega)) (by decide) (Nat.le_refl _) (Nat.le_of_ble_eq_true rfl) ?_
          refine s_if_eq hV 42 dX12_byTurns_35 (by decide) (by unfold z_rg; first | omega | (split <;> omega)) (fun c35 => ?_) (fun c35 => ?_)
          · have hb35 := z_ite0 c35
            refine s_iconst hV dX12_byTurns_42 (1) (by decide) ?_
            refine s_iadd hV dX12_byTurns_43 ?_
            refine r_istore_n hV dX12_byTurns_44 (Nat.le_of_ble_eq_true rfl) (z_st1_7_2 rfl) ?_
            refine s_iinc hV dX12_byTurns_45 rfl (z_st1_7_3 rfl) ?_
            refine r_goto hV 18 dX12_byTurns_48 (by decide) ?_
            refine hnx _ (by rw [f_cnt]; first | rw [if_pos hb35] | rw [if_neg hb35]) (by omega)
          · have hb35 := z_ite1 c35
            refine s_iconst hV dX12_byTurns_38 (0) (by decide) ?_
            refine r_goto hV 43 dX12_byTurns_39 (by decide) ?_
            refine s_iadd hV dX12_byTurns_43 ?_
            refine r_istore_n hV dX12_byTurns_44 (Nat.le_of_ble_eq_true rfl) (z_st1_7_2 rfl) ?_
            refine s_iinc hV dX12_byTurns_45 rfl (z_st1_7_3 rfl) ?_
            refine r_goto hV 18 dX12_byTurns_48 (by decide) ?_
            refine hnx _ (by rw [f_cnt]; first | rw [if_pos hb35] | rw [if_neg hb35]) (by omega)
    exact L18 (e + 1) 0 (by omega) (by omega)
  · refine s_iconst hV dX12_byTurns_12 (-1) (by decide) ?_
    refine r_iret hV dX12_byTurns_13 rfl rfl ?_
    refine ⟨?_, rfl, rfl, fun q a _ => t0 q a, t1⟩
    unfold f_byT
    rw [if_pos (by omega)]

