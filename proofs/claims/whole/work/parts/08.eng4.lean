theorem z_uws : ∀ ci, ci < 13 → ∀ w ∈ u_ws (zR ci) (zT ci) (zN ci), w ∈ z_good := by
  have key : ∀ (ws : List Cond), ws.all (fun w => decide (w ∈ lw_tbl) && goodWord w) = true → ∀ w ∈ ws, w ∈ z_good := by
    intro ws h w hw
    have h1 := List.all_eq_true.mp h w hw
    simp only [Bool.and_eq_true, decide_eq_true_eq] at h1
    exact List.mem_filter.mpr ⟨h1.1, h1.2⟩
  intro ci h
  match ci, h with
  | 0, _ => exact key _ (by decide +kernel)
  | 1, _ => exact key _ (by decide +kernel)
  | 2, _ => exact key _ (by decide +kernel)
  | 3, _ => exact key _ (by decide +kernel)
  | 4, _ => exact key _ (by decide +kernel)
  | 5, _ => exact key _ (by decide +kernel)
  | 6, _ => exact key _ (by decide +kernel)
  | 7, _ => exact key _ (by decide +kernel)
  | 8, _ => exact key _ (by decide +kernel)
  | 9, _ => exact key _ (by decide +kernel)
  | 10, _ => exact key _ (by decide +kernel)
  | 11, _ => exact key _ (by decide +kernel)
  | 12, _ => exact key _ (by decide +kernel)
theorem zfv_at {base b : Nat} {I : zI} {P : zP} {ci o k : Nat} (hk : k < zN ci) : ((List.range (zN ci)).map (zfv base I P ci o))[k]? = some (zcv base b (z_fv P I ci o k)) := by
  have e : zfv base I P ci o k = zcv base b (z_fv P I ci o k) := by
    unfold zfv z_fv
    generalize zty ci k = t
    cases t <;> first | rfl | (cases P o k <;> rfl)
  simp [hk, e]
theorem zs_getfield {K : zCx} {own : String} {cc : ByteArray} {d n1 : Nat} {ini : Bool} {sc : Option (Nat × (Nat → Int32))} (C : zCtx K own cc d n1 ini sc) {n : Nat} {I : zI} {J : zJ} {P : zP} {pc : Nat} {ls : List Value} {i o ci k1 : Nat} (hf : z_fl own i ci k1) (ho : o < n) (hs : zSH o = .inl ci) {r : List Value} (hd : decode cc pc = .ok (.getfield i, 3)) (k : zV K n I J P (pc + 3) ls (z_fv P I ci o k1 :: r)) : zV K n I J P pc ls (.ref o :: r) := by
  obtain ⟨p, l, e, R, s, m, args, below, meth, c, Q, D, gA, base, b, n0, n1v, nL⟩ := K
  obtain ⟨hx, hb, hml, hown, hgd, hnt, hao, hK, -⟩ := C
  obtain ⟨f1, f2, f3, f4⟩ := hf
  intro a1 a2 a3 H locs lsA hP hS hL
  have hg := zws_get (base := base) (gA := gA) (I := I) (J := J) (P := P) ho
  simp only [zent, hs] at hg
  have hsm : ∀ x, s.fieldFound? (zT ci k1).1 (zT ci k1).2.1 (zT ci k1).2.2.1 = some x → s.fieldFound? (zR ci) (zT ci k1).2.1 (zT ci k1).2.2.1 = some x := fun x h => by rw [← f3]; exact h
  rcases f4 with f4 | ⟨host, f4⟩
  · exact va_get hx hb hgd (z_uws ci f1) hown hK hP o hg (zcl_at ci f1) k1 f2 (hgd _ f4) hsm (zfv_at f2) hd (k a1 a2 a3 H locs lsA hP hS hL)
  · exact va_getN hx hb hgd (z_uws ci f1) hown hK hP o hg (zcl_at ci f1) k1 f2 (va_Nw.use rfl (hnt _ f4)) hsm (zfv_at f2) hd (k a1 a2 a3 H locs lsA hP hS hL)
theorem zfv_setI {base : Nat} {I : zI} {P : zP} {ci o k : Nat} {x : Int32} (h1 : ∀ C, zty ci k ≠ .object C) (h2 : ∀ t, zty ci k ≠ .array t) : ((List.range (zN ci)).map (zfv base I P ci o)).set k (.int x) = (List.range (zN ci)).map (zfv base (zu I o (zu (I o) k x)) P ci o) := by
  apply List.ext_getElem?
  intro j
  by_cases hj : j < zN ci
  · by_cases hjk : j = k
    · subst hjk
      rw [List.getElem?_set_self (by simpa using hj)]
      simp only [List.getElem?_map, List.getElem?_range hj, Option.map_some]
      congr 1
      unfold zfv
      split
      · next C h => exact absurd h (h1 C)
      · next t h => exact absurd h (h2 t)
      · simp [zu]
    · rw [List.getElem?_set_ne (Ne.symm hjk)]
      simp only [List.getElem?_map, List.getElem?_range hj, Option.map_some]
      congr 1
      unfold zfv
      simp [zu, hjk]
  · rw [List.getElem?_eq_none (by simp; omega), List.getElem?_eq_none (by simp; omega)]
theorem zfv_setR {base : Nat} {I : zI} {P : zP} {ci o k q : Nat} (h : z_okR ci k) : ((List.range (zN ci)).map (zfv base I P ci o)).set k (.ref (base + q)) = (List.range (zN ci)).map (zfv base I (zu P o (zu (P o) k (some q))) ci o) := by
  apply List.ext_getElem?
  intro j
  by_cases hj : j < zN ci
  · by_cases hjk : j = k
    · subst hjk
      rw [List.getElem?_set_self (by simpa using hj)]
      simp only [List.getElem?_map, List.getElem?_range hj, Option.map_some]
      congr 1
      unfold zfv
      rcases h with ⟨C, h⟩ | ⟨t, h⟩ <;> rw [h] <;> simp [zu, zrv]
    · rw [List.getElem?_set_ne (Ne.symm hjk)]
      simp only [List.getElem?_map, List.getElem?_range hj, Option.map_some]
      congr 1
      unfold zfv
      simp [zu, hjk]
  · rw [List.getElem?_eq_none (by simp; omega), List.getElem?_eq_none (by simp; omega)]
theorem zs_putI {K : zCx} {own : String} {cc : ByteArray} {d n1 : Nat} {ini : Bool} {sc : Option (Nat × (Nat → Int32))} (C : zCtx K own cc d n1 ini sc) {n : Nat} {I : zI} {J : zJ} {P : zP} {pc : Nat} {ls : List Value} {i o ci k1 : Nat} {x : Int32} (hf : z_fl own i ci k1) (hpf : z_pf own ini i ci k1) (ho : o < n) (hs : zSH o = .inl ci) (hok : z_okI ci k1 x) {r : List Value} (hd : decode cc pc = .ok (.putfield i, 3)) (k : zV K n (zu I o (zu (I o) k1 x)) J (P) (pc + 3) ls r) : zV K n I J P pc ls (.int x :: .ref o :: r) := by
  obtain ⟨p, l, e, R, s, m, args, below, meth, c, Q, D, gA, base, b, n0, n1v, nL⟩ := K
  obtain ⟨hx, hb, hml, hown, hgd, hnt, hao, hK, hsz, -, -, hini, -⟩ := C
  obtain ⟨f1, f2, f3, f4⟩ := hf
  intro a1 a2 a3 H locs lsA hP hS hL
  have hg := zws_get (base := base) (gA := gA) (I := I) (J := J) (P := P) ho
  simp only [zent, hs] at hg
  have hsm : ∀ x, s.fieldFound? (zT ci k1).1 (zT ci k1).2.1 (zT ci k1).2.2.1 = some x → s.fieldFound? (zR ci) (zT ci k1).2.1 (zT ci k1).2.2.1 = some x := fun x h => by rw [← f3]; exact h
  have hl : k1 < ((List.range (zN ci)).map (zfv base I P ci o)).length := by simpa using f2
  have hfit : narrow (zty ci k1) (zcv base b (.int x)) = zcv base b (.int x) ∧ fits (zty ci k1) (zcv base b (.int x)) = true := by
    exact ⟨hok.1, hok.2.1⟩
  have go : ∀ (H1 : Heap) (locs1 : List Loc), va_P D zcl ((zws base gA n I J P).set o (base + o, .inr (ci, ((List.range (zN ci)).map (zfv base I P ci o)).set k1 (zcv base b (.int x))))) H1 → va_S (fun q => base ≤ q) s.heap H1 locs1 → W p l e R s m args below meth c H1 locs1 (n - n0) (zsz n - zsz n0) Q (F0 m (pc + 3) lsA (r.map (zcv base b))) := by
    intro H1 locs1 h1 h3
    rw [zws_set (I' := zu I o (zu (I o) k1 x)) (J' := J) (P' := P) ?_ ?_ ?_ ?_] at h1
    · exact k a1 a2 a3 H1 locs1 lsA h1 h3 hL
    · simp only [zent, hs, zcv]
      rw [← zfv_setI (x := x) hok.2.2.1 hok.2.2.2]
    all_goals (intro j hj; first | rfl | exact zu_n _ _ hj)
  rcases hpf with hpf | ⟨g1, g2, g3, g4⟩
  · rcases f4 with f4 | ⟨host, f4⟩
    · exact va_put hx hb hgd (z_uws ci f1) (zty ci) (zty_ok ci f1) (znm_ok ci f1) hown hK hP zws_D hS o hg (zcl_at ci f1) k1 f2 (hgd _ f4) hsm hpf (zty_ok ci f1 k1 f2) hfit.1 hfit.2 hl hd (fun H1 locs1 h1 _ h3 => go H1 locs1 h1 h3)
    · exact va_putN hx hb hgd (z_uws ci f1) (zty ci) (zty_ok ci f1) (znm_ok ci f1) hown hK hP zws_D hS o hg (zcl_at ci f1) k1 f2 (va_Nw.use rfl (hnt _ f4)) hsm hpf (zty_ok ci f1 k1 f2) hfit.1 hfit.2 hl hd (fun H1 locs1 h1 _ h3 => go H1 locs1 h1 h3)
  · exact va_putF hx hb hgd (z_uws ci f1) (zty ci) (zty_ok ci f1) (znm_ok ci f1) hown hK hP zws_D hS o hg (zcl_at ci f1) k1 f2 (hgd _ g4) hsm g1 (hini g2) g3 (zty_ok ci f1 k1 f2) hfit.1 hfit.2 hl hd (fun H1 locs1 h1 _ h3 => go H1 locs1 h1 h3)
theorem zs_putR {K : zCx} {own : String} {cc : ByteArray} {d n1 : Nat} {ini : Bool} {sc : Option (Nat × (Nat → Int32))} (C : zCtx K own cc d n1 ini sc) {n : Nat} {I : zI} {J : zJ} {P : zP} {pc : Nat} {ls : List Value} {i o ci k1 : Nat} {q : Nat} (hf : z_fl own i ci k1) (hpf : z_pf own ini i ci k1) (ho : o < n) (hs : zSH o = .inl ci) (hok : z_okR ci k1) {r : List Value} (hd : decode cc pc = .ok (.putfield i, 3)) (k : zV K n (I) J (zu P o (zu (P o) k1 (some q))) (pc + 3) ls r) : zV K n I J P pc ls (.ref q :: .ref o :: r) := by
  obtain ⟨p, l, e, R, s, m, args, below, meth, c, Q, D, gA, base, b, n0, n1v, nL⟩ := K
  obtain ⟨hx, hb, hml, hown, hgd, hnt, hao, hK, hsz, -, -, hini, -⟩ := C
  obtain ⟨f1, f2, f3, f4⟩ := hf
  intro a1 a2 a3 H locs lsA hP hS hL
  have hg := zws_get (base := base) (gA := gA) (I := I) (J := J) (P := P) ho
  simp only [zent, hs] at hg
  have hsm : ∀ x, s.fieldFound? (zT ci k1).1 (zT ci k1).2.1 (zT ci k1).2.2.1 = some x → s.fieldFound? (zR ci) (zT ci k1).2.1 (zT ci k1).2.2.1 = some x := fun x h => by rw [← f3]; exact h
  have hl : k1 < ((List.range (zN ci)).map (zfv base I P ci o)).length := by simpa using f2
  have hfit : narrow (zty ci k1) (zcv base b (.ref q)) = zcv base b (.ref q) ∧ fits (zty ci k1) (zcv base b (.ref q)) = true := by
    rcases hok with ⟨C, h⟩ | ⟨t, h⟩ <;> rw [h] <;> exact ⟨rfl, rfl⟩
  have go : ∀ (H1 : Heap) (locs1 : List Loc), va_P D zcl ((zws base gA n I J P).set o (base + o, .inr (ci, ((List.range (zN ci)).map (zfv base I P ci o)).set k1 (zcv base b (.ref q))))) H1 → va_S (fun q => base ≤ q) s.heap H1 locs1 → W p l e R s m args below meth c H1 locs1 (n - n0) (zsz n - zsz n0) Q (F0 m (pc + 3) lsA (r.map (zcv base b))) := by
    intro H1 locs1 h1 h3
    rw [zws_set (I' := I) (J' := J) (P' := zu P o (zu (P o) k1 (some q))) ?_ ?_ ?_ ?_] at h1
    · exact k a1 a2 a3 H1 locs1 lsA h1 h3 hL
    · simp only [zent, hs, zcv]
      rw [← zfv_setR (q := q) hok]
    all_goals (intro j hj; first | rfl | exact zu_n _ _ hj)
  rcases hpf with hpf | ⟨g1, g2, g3, g4⟩
  · rcases f4 with f4 | ⟨host, f4⟩
    · exact va_put hx hb hgd (z_uws ci f1) (zty ci) (zty_ok ci f1) (znm_ok ci f1) hown hK hP zws_D hS o hg (zcl_at ci f1) k1 f2 (hgd _ f4) hsm hpf (zty_ok ci f1 k1 f2) hfit.1 hfit.2 hl hd (fun H1 locs1 h1 _ h3 => go H1 locs1 h1 h3)
    · exact va_putN hx hb hgd (z_uws ci f1) (zty ci) (zty_ok ci f1) (znm_ok ci f1) hown hK hP zws_D hS o hg (zcl_at ci f1) k1 f2 (va_Nw.use rfl (hnt _ f4)) hsm hpf (zty_ok ci f1 k1 f2) hfit.1 hfit.2 hl hd (fun H1 locs1 h1 _ h3 => go H1 locs1 h1 h3)
  · exact va_putF hx hb hgd (z_uws ci f1) (zty ci) (zty_ok ci f1) (znm_ok ci f1) hown hK hP zws_D hS o hg (zcl_at ci f1) k1 f2 (hgd _ g4) hsm g1 (hini g2) g3 (zty_ok ci f1 k1 f2) hfit.1 hfit.2 hl hd (fun H1 locs1 h1 _ h3 => go H1 locs1 h1 h3)
/-- the cell that is made comes at the next number -/
theorem z_next {base n q : Nat} {gA : FieldType → Nat} {D : va_G} {I : zI} {J : zJ} {P : zP} {e : va_E} {H1 : Heap} (h1 : va_P D zcl (zws base gA n I J P ++ [(q, e)]) H1) (h2 : va_D (fun q => base ≤ q) (zws base gA n I J P ++ [(q, e)])) (h3 : H1.size ≤ base + (n + 1)) : q = base + n := by
  have hq : (zws base gA n I J P ++ [(q, e)])[n]? = some (q, e) := by
    rw [List.getElem?_append_right (by rw [zws_len]; exact Nat.le_refl _), zws_len, Nat.sub_self]; rfl
  have hlt : q < H1.size := (h1 n _ hq).lt
  have hge : base ≤ q := h2.2 n _ hq
  rcases Nat.lt_or_ge (q - base) n with h | h
  · have hk : (zws base gA n I J P ++ [(q, e)])[q - base]? = some (base + (q - base), zent base gA I J P (q - base)) := by
      rw [List.getElem?_append_left (by rw [zws_len]; exact h), zws_get h]
    have := h2.1 (q - base) n _ _ hk hq (by show base + (q - base) = q; omega)
    omega
  · omega
theorem z_size {p : Program} {l : Launch} {e : Env} {R : Room} {s : State} {m : MethodId} {args : Array Value} {below : List Frame} {meth : Method} {c : Code} {H : Heap} {locs : List Loc} {cells slots : Nat} {Q : State → Prop} {g : JFrame} (h : H.size ≤ s.heap.size + cells → W p l e R s m args below meth c H locs cells slots Q g) : W p l e R s m args below meth c H locs cells slots Q g :=
  fun T hT X => h (by rw [← hT]; exact X.heapSize) T hT X
theorem zs_new {K : zCx} {own : String} {cc : ByteArray} {d n1 : Nat} {ini : Bool} {sc : Option (Nat × (Nat → Int32))} (C : zCtx K own cc d n1 ini sc) {n : Nat} {I : zI} {J : zJ} {P : zP} {pc : Nat} {ls : List Value} {i ci : Nat} (f1 : ci < 13) (h1 : Cond.classLink own i (zR ci) ∈ z_good) (h2 : Cond.instantiable (zR ci) (zN ci) ∈ z_good) (h3 : Cond.initialized (zR ci) ∈ z_good) (hs : zSH n = .inl ci) (hn : n + 1 ≤ n1) {r : List Value} (hd : decode cc pc = .ok (.new i, 3)) (k : zV K (n + 1) (zu I n (fun _ => 0)) (zu J n (fun _ => 0)) (zu P n (fun _ => none)) (pc + 3) ls (.ref n :: r)) : zV K n I J P pc ls r := by
  obtain ⟨p, l, e, R, s, m, args, below, meth, c, Q, D, gA, base, b, n0, n1v, nL⟩ := K
  obtain ⟨hx, hb, hml, hown, hgd, hnt, hao, hK, hsz, hn1, ⟨r1, r2, r3, r4⟩, hini, -⟩ := C
  subst hn1
  intro a1 a2 a3 H locs lsA hP hS hL
  have hz : zsz (n + 1) = zsz n + zN ci := by show zsz n + zlen n = _; unfold zlen; rw [hs]
  have hm1 := zsz_mono hn
  have hm0 := zsz_mono a1
  have hdef : ∀ j, j < zN ci → defaultValue (zty ci j) = vp_V ((List.range (zN ci)).map (fun j => defaultValue (zty ci j))) j := by
    intro j hj
    simp [vp_V, hj]
  refine va_new hx hb hgd (z_uws ci f1) (zty ci) (zty_ok ci f1) hown (hgd _ h1) (hgd _ h2) (hgd _ h3) hK hP zws_D hS (fun q hq => Nat.le_trans (by rw [hsz]; exact Nat.le_add_right _ _) hq) (zcl_at ci f1) hdef (by omega) (by omega) hd (fun q H1 g1 g2 g3 => z_size fun g4 => ?_)
  have hq := z_next g1 g2 (by omega)
  subst hq
  rw [zws_push (I' := zu I n (fun _ => 0)) (J' := zu J n (fun _ => 0)) (P' := zu P n (fun _ => none)) ?_ ?_ ?_ ?_] at g1
  · have := k (by omega) hn a3 H1 locs lsA g1 g3 hL
    rwa [show n + 1 - n0 = n - n0 + 1 by omega, show zsz (n + 1) - zsz n0 = zsz n - zsz n0 + zN ci by omega] at this
  · simp only [zent, hs]
    congr 2
    apply List.map_congr_left
    intro j hj
    unfold zfv
    simp only [zu_s]
    have hnt2 : zty ci j = .int ∨ zty ci j = .boolean ∨ (∃ C, zty ci j = .object C) ∨ ∃ t, zty ci j = .array t := by
      have : ∀ ci, ci < 13 → ∀ j, j < zN ci → (match zty ci j with | .int => true | .boolean => true | .object _ => true | .array _ => true | _ => false) = true := by decide +kernel
      have h9 := this ci f1 j (List.mem_range.mp hj)
      generalize zty ci j = t at h9 ⊢
      cases t <;> first | exact Or.inl rfl | exact Or.inr (Or.inl rfl) | exact Or.inr (Or.inr (Or.inl ⟨_, rfl⟩)) | exact Or.inr (Or.inr (Or.inr ⟨_, rfl⟩)) | cases h9
    rcases hnt2 with h9 | h9 | ⟨C, h9⟩ | ⟨t, h9⟩ <;> rw [h9] <;> rfl
  all_goals (intro j hj; exact zu_n _ _ hj)
theorem z_arr_same {D : va_G} {s : State} {gA : FieldType → Nat} {ty : FieldType} {cA : Nat} (hK : va_K D zcl (ztys gA ++ [(cA, ty)]) s) (ht : ty = .int ∨ ty = .long ∨ ty = .boolean ∨ ty = zStd) : cA = gA ty := by
  have h4 := (hK.2 4 (cA, ty) rfl).2
  rcases ht with rfl | rfl | rfl | rfl
  · exact Option.some.inj (h4.symm.trans (hK.2 0 (gA .int, .int) rfl).2)
  · exact Option.some.inj (h4.symm.trans (hK.2 1 (gA .long, .long) rfl).2)
  · exact Option.some.inj (h4.symm.trans (hK.2 2 (gA .boolean, .boolean) rfl).2)
  · obtain ⟨_, _, -, -, -, e1⟩ := h4
    obtain ⟨_, _, -, -, -, e2⟩ := (hK.2 3 (gA zStd, zStd) rfl).2
    exact Option.some.inj (e1.symm.trans e2)
theorem zs_newarray {K : zCx} {own : String} {cc : ByteArray} {d n1 : Nat} {ini : Bool} {sc : Option (Nat × (Nat → Int32))} (C : zCtx K own cc d n1 ini sc) {n : Nat} {I : zI} {J : zJ} {P : zP} {pc : Nat} {ls : List Value} {t : ArrayType} {x : Int32} {N : Nat} (ht : t = .int ∨ t = .long ∨ t = .boolean) (h1 : Cond.arrayClass (newarray.typeOf t) ∈ z_good) (hs : zSH n = .inr (newarray.typeOf t, N)) (hx0 : ¬ x < 0) (hN : x.toNatClampNeg = N) (hb0 : N ≤ 100000) (hn : n + 1 ≤ n1) {r : List Value} (hd : decode cc pc = .ok (.newarray t, 2)) (k : zV K (n + 1) (zu I n (fun _ => 0)) (zu J n (fun _ => 0)) (zu P n (fun _ => none)) (pc + 2) ls (.ref n :: r)) : zV K n I J P pc ls (.int x :: r) := by
  obtain ⟨p, l, e, R, s, m, args, below, meth, c, Q, D, gA, base, b, n0, n1v, nL⟩ := K
  obtain ⟨hx, hb, hml, hown, hgd, hnt, hao, hK, hsz, hn1, ⟨r1, r2, r3, r4⟩, hini, -⟩ := C
  subst hn1
  intro a1 a2 a3 H locs lsA hP hS hL
  have hz : zsz (n + 1) = zsz n + N := by show zsz n + zlen n = _; unfold zlen; rw [hs]
  have hm1 := zsz_mono hn
  have hm0 := zsz_mono a1
  have fin : ∀ (a0 : vp_A), (∀ cA : ClassId, vp_cell cA a0 = arrV cA N (fun _ => defaultValue (newarray.typeOf t))) → zent base gA (zu I n (fun _ => 0)) (zu J n (fun _ => 0)) (zu P n (fun _ => none)) n = .inl (gA (newarray.typeOf t), a0) → (newarray.typeOf t = .int ∨ newarray.typeOf t = .long ∨ newarray.typeOf t = .boolean ∨ newarray.typeOf t = zStd) → N * componentBytes (newarray.typeOf t) ≤ 536870912 → W p l e R s m args below meth c H locs (n - n0) (zsz n - zsz n0) Q (F0 m pc lsA ((Value.int x :: r).map (zcv base b))) := by
    intro a0 ha he hty hbytes
    refine va_newa hx hb (hgd _ h1) rfl hK hP zws_D hS (fun q hq => Nat.le_trans (by rw [hsz]; exact Nat.le_add_right _ _) hq) ha hx0 hN hbytes (by omega) (by omega) hd (fun q cA H1 g0 g1 g2 g3 => z_size fun g4 => ?_)
    have hq := z_next g1 g2 (by omega)
    subst hq
    have hcA := z_arr_same g0 hty
    subst hcA
    rw [zws_push (I' := zu I n (fun _ => 0)) (J' := zu J n (fun _ => 0)) (P' := zu P n (fun _ => none)) he ?_ ?_ ?_] at g1
    · have := k (by omega) hn a3 H1 locs lsA g1 g3 hL
      rwa [show n + 1 - n0 = n - n0 + 1 by omega, show zsz (n + 1) - zsz n0 = zsz n - zsz n0 + N by omega] at this
    all_goals (intro j hj; exact zu_n _ _ hj)
  rcases ht with rfl | rfl | rfl
  · exact fin (N, .inl (fun _ => 0)) (fun cA => rfl) (by simp only [zent, hs, newarray.typeOf, zu_s]) (Or.inl rfl) (by simp [newarray.typeOf, componentBytes]; omega)
  · exact fin (N, .inr (.inl (fun _ => 0))) (fun cA => rfl) (by simp only [zent, hs, newarray.typeOf, zu_s]) (Or.inr (Or.inl rfl)) (by simp [newarray.typeOf, componentBytes]; omega)
  · exact fin (N, .inl (fun _ => 0)) (fun cA => rfl) (by simp only [zent, hs, newarray.typeOf, zu_s]) (Or.inr (Or.inr (Or.inl rfl))) (by simp [newarray.typeOf, componentBytes]; omega)
theorem zs_anewarray {K : zCx} {own : String} {cc : ByteArray} {d n1 : Nat} {ini : Bool} {sc : Option (Nat × (Nat → Int32))} (C : zCtx K own cc d n1 ini sc) {n : Nat} {I : zI} {J : zJ} {P : zP} {pc : Nat} {ls : List Value} {i : Nat} {x : Int32} {N : Nat} (h1 : Cond.classLink own i "StepsShared$Standing" ∈ z_good) (hs : zSH n = .inr (zStd, N)) (hx0 : ¬ x < 0) (hN : x.toNatClampNeg = N) (hb0 : N ≤ 100000) (hn : n + 1 ≤ n1) {r : List Value} (hd : decode cc pc = .ok (.anewarray i, 3)) (k : zV K (n + 1) (zu I n (fun _ => 0)) (zu J n (fun _ => 0)) (zu P n (fun _ => none)) (pc + 3) ls (.ref n :: r)) : zV K n I J P pc ls (.int x :: r) := by
  obtain ⟨p, l, e, R, s, m, args, below, meth, c, Q, D, gA, base, b, n0, n1v, nL⟩ := K
  obtain ⟨hx, hb, hml, hown, hgd, hnt, hao, hK, hsz, hn1, ⟨r1, r2, r3, r4⟩, hini, -⟩ := C
  subst hn1
  intro a1 a2 a3 H locs lsA hP hS hL
  have hz : zsz (n + 1) = zsz n + N := by show zsz n + zlen n = _; unfold zlen; rw [hs]
  have hm1 := zsz_mono hn
  have hm0 := zsz_mono a1
  refine va_newq hx hb hown (hgd _ h1) hao hK hP zws_D hS (fun q hq => Nat.le_trans (by rw [hsz]; exact Nat.le_add_right _ _) hq) hx0 hN (by omega) (by omega) (by omega) hd (fun q cA H1 g0 g1 g2 g3 => z_size fun g4 => ?_)
  have hq := z_next g1 g2 (by omega)
  subst hq
  have hcA := z_arr_same (ty := zStd) g0 (Or.inr (Or.inr (Or.inr rfl)))
  subst hcA
  rw [zws_push (I' := zu I n (fun _ => 0)) (J' := zu J n (fun _ => 0)) (P' := zu P n (fun _ => none)) ?_ ?_ ?_ ?_] at g1
  · have := k (by omega) hn a3 H1 locs lsA g1 g3 hL
    rwa [show n + 1 - n0 = n - n0 + 1 by omega, show zsz (n + 1) - zsz n0 = zsz n - zsz n0 + N by omega] at this
  · simp only [zent, hs, zStd, zu_s]; try rfl
  all_goals (intro j hj; exact zu_n _ _ hj)
