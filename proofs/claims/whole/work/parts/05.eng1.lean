/-! the layout is static: every cell that the run makes has its number (in the order of making) and its shape ahead of the run -/
abbrev zI : Type := Nat → Nat → Int32
abbrev zJ : Type := Nat → Nat → Int64
abbrev zP : Type := Nat → Nat → Option Nat
abbrev zSh : Type := Nat ⊕ (FieldType × Nat)
def zStd : FieldType := .object "StepsShared$Standing"
def zShl : List zSh := [.inl 11, .inl 8, .inr (.int, 80), .inl 7, .inr (.int, 8), .inl 0, .inr (zStd, 16), .inl 7, .inr (.int, 8), .inl 7, .inr (.int, 8), .inl 7, .inr (.int, 8), .inl 7, .inr (.int, 8), .inl 7, .inr (.int, 8), .inl 7, .inr (.int, 8), .inl 7, .inr (.int, 8), .inl 7, .inr (.int, 8), .inl 7, .inr (.int, 8), .inl 7, .inr (.int, 8), .inl 7, .inr (.int, 8), .inl 7, .inr (.int, 8), .inl 7, .inr (.int, 8), .inl 7, .inr (.int, 8), .inl 7, .inr (.int, 8), .inl 7, .inr (.int, 8), .inl 6, .inr (zStd, 2), .inr (.boolean, 2), .inl 7, .inr (.int, 8), .inl 7, .inr (.int, 8), .inl 9, .inr (.int, 384), .inr (.int, 64), .inl 3, .inl 9, .inr (.int, 384), .inr (.int, 64), .inl 9, .inr (.int, 384), .inr (.int, 64), .inr (.int, 64), .inr (.int, 64), .inl 10, .inl 5, .inr (.int, 6000), .inr (.int, 6000), .inl 2, .inr (.int, 64), .inr (.int, 64), .inr (.int, 8), .inl 1, .inr (.int, 36), .inr (.int, 36), .inr (.int, 6), .inr (.int, 6), .inr (.int, 6), .inl 1, .inr (.int, 36), .inr (.int, 36), .inr (.int, 6), .inr (.int, 6), .inr (.int, 6), .inl 12, .inr (.int, 80), .inr (.int, 36), .inr (.int, 6), .inr (.int, 6), .inr (.int, 6), .inr (.int, 36), .inr (.int, 6), .inr (.int, 6), .inr (.int, 6), .inr (.int, 2), .inr (.int, 8), .inr (.int, 448), .inr (.int, 56), .inr (.boolean, 2), .inr (.int, 128), .inr (.int, 384), .inr (.int, 9), .inr (.int, 9), .inr (.int, 9), .inr (.int, 9), .inr (.int, 9), .inr (.int, 9), .inr (.int, 9), .inr (.int, 9), .inr (.int, 9), .inr (.int, 9), .inr (.int, 9), .inr (.long, 6000), .inr (.long, 6000)]
def zSH (k : Nat) : zSh := zShl.getD k (.inl 4)
def zN : Nat → Nat
  | 0 => 3
  | 1 => 9
  | 2 => 4
  | 3 => 11
  | 4 => 2
  | 5 => 3
  | 6 => 2
  | 7 => 7
  | 8 => 2
  | 9 => 3
  | 10 => 1
  | 11 => 12
  | _ => 49
def zT : Nat → u_T
  | 0 => TX0
  | 1 => TX1
  | 2 => TX2
  | 3 => TX3
  | 4 => TX8
  | 5 => TX5
  | 6 => TX6
  | 7 => TX7
  | 8 => TX8
  | 9 => TX9
  | 10 => TX10
  | 11 => TX11
  | _ => TX12
def zR : Nat → String
  | 0 => RX0
  | 1 => RX1
  | 2 => RX2
  | 3 => RX3
  | 4 => RX8
  | 5 => RX5
  | 6 => RX6
  | 7 => RX7
  | 8 => RX8
  | 9 => RX9
  | 10 => RX10
  | 11 => RX11
  | _ => RX12
def zty : Nat → Nat → FieldType
  | 0 => tyX0
  | 1 => tyX1
  | 2 => tyX2
  | 3 => tyX3
  | 4 => tyX8
  | 5 => tyX5
  | 6 => tyX6
  | 7 => tyX7
  | 8 => tyX8
  | 9 => tyX9
  | 10 => tyX10
  | 11 => tyX11
  | _ => tyX12
abbrev zcl : List vw_C := [(RX0, TX0, 3), (RX1, TX1, 9), (RX2, TX2, 4), (RX3, TX3, 11), (RX8, TX8, 2), (RX5, TX5, 3), (RX6, TX6, 2), (RX7, TX7, 7), (RX8, TX8, 2), (RX9, TX9, 3), (RX10, TX10, 1), (RX11, TX11, 12), (RX12, TX12, 49)]
theorem zcl_at : ∀ ci, ci < 13 → zcl[ci]? = some (zR ci, zT ci, zN ci) := by
  intro ci h
  match ci, h with
  | 0, _ => rfl
  | 1, _ => rfl
  | 2, _ => rfl
  | 3, _ => rfl
  | 4, _ => rfl
  | 5, _ => rfl
  | 6, _ => rfl
  | 7, _ => rfl
  | 8, _ => rfl
  | 9, _ => rfl
  | 10, _ => rfl
  | 11, _ => rfl
  | 12, _ => rfl
theorem zty_ok : ∀ ci, ci < 13 → ∀ k, k < zN ci → parseFieldDescriptor (zT ci k).2.2.1 = some (zty ci k) := by
  intro ci h
  match ci, h with
  | 0, _ => exact tyX0_ok
  | 1, _ => exact tyX1_ok
  | 2, _ => exact tyX2_ok
  | 3, _ => exact tyX3_ok
  | 4, _ => exact tyX8_ok
  | 5, _ => exact tyX5_ok
  | 6, _ => exact tyX6_ok
  | 7, _ => exact tyX7_ok
  | 8, _ => exact tyX8_ok
  | 9, _ => exact tyX9_ok
  | 10, _ => exact tyX10_ok
  | 11, _ => exact tyX11_ok
  | 12, _ => exact tyX12_ok
theorem znm_ok : ∀ ci, ci < 13 → ∀ a, a < zN ci → ∀ b, b < zN ci → a ≠ b → (zT ci a).2.1 ≠ (zT ci b).2.1 := by
  intro ci h
  match ci, h with
  | 0, _ => exact nmX0
  | 1, _ => exact nmX1
  | 2, _ => exact nmX2
  | 3, _ => exact nmX3
  | 4, _ => exact nmX8
  | 5, _ => exact nmX5
  | 6, _ => exact nmX6
  | 7, _ => exact nmX7
  | 8, _ => exact nmX8
  | 9, _ => exact nmX9
  | 10, _ => exact nmX10
  | 11, _ => exact nmX11
  | 12, _ => exact nmX12
/-! the words: those of the table that any call keeps, and the nest's -/
def z_isNest : Cond → Bool
  | .fieldLinkNest .. => true
  | .methodLinkNest .. => true
  | _ => false
def z_good : List Cond := lw_tbl.filter goodWord
def z_nest : List Cond := lw_tbl.filter z_isNest
theorem z_gd {w : Cond} (i : Nat) (h : lw_tbl[i]? = some w) (g : goodWord w = true) : w ∈ z_good := List.mem_filter.mpr ⟨List.mem_of_getElem? h, g⟩
theorem z_ns {w : Cond} (i : Nat) (h : lw_tbl[i]? = some w) (g : z_isNest w = true) : w ∈ z_nest := List.mem_filter.mpr ⟨List.mem_of_getElem? h, g⟩
theorem z_good_good : ∀ w ∈ z_good, (w.onTables && w.keeps) = true ∨ ∃ ty, w = .arrayClass ty := fun _ h => good_of_word (List.mem_filter.mp h).2
theorem z_nest_warm {s U : State} (hW : s.WarmedH U.vm) (h : ∀ w ∈ z_nest, va_Nw w s) : ∀ w ∈ z_nest, va_Nw w U := by
  intro w hw
  have h1 := h w hw
  have h2 := (List.mem_filter.mp hw).2
  cases w <;> first | exact va_Nw.warmF hW h1 | exact va_Nw.warmM hW h1 | (simp [z_isNest] at h2; done)
/-! values: a number is itself, a place is the cell's number, the script is a float's bits -/
def zcv (base b : Nat) : Value → Value
  | .ref k => .ref (base + k)
  | .float _ => .ref b
  | v => v
theorem zcv_cat (base b : Nat) (v : Value) : (zcv base b v).category = v.category := by cases v <;> rfl
def zrv (base : Nat) : Option Nat → Value
  | some q => .ref (base + q)
  | none => .null
def zfv (base : Nat) (I : zI) (P : zP) (ci k j : Nat) : Value := match zty ci j with
  | .object _ => zrv base (P k j)
  | .array _ => zrv base (P k j)
  | _ => .int (I k j)
def zent (base : Nat) (gA : FieldType → Nat) (I : zI) (J : zJ) (P : zP) (k : Nat) : va_E := match zSH k with
  | .inl ci => .inr (ci, (List.range (zN ci)).map (zfv base I P ci k))
  | .inr (ty, len) => .inl (gA ty, len, match ty with
    | .long => .inr (.inl (J k))
    | .object _ => .inr (.inr (.inr (.inr (fun j => (P k j).map (fun x => base + x)))))
    | _ => .inl (I k))
def zws (base : Nat) (gA : FieldType → Nat) (n : Nat) (I : zI) (J : zJ) (P : zP) : va_W := (List.range n).map (fun k => (base + k, zent base gA I J P k))
def zu {α : Type} (f : Nat → α) (k : Nat) (v : α) : Nat → α := fun j => if j = k then v else f j
theorem zu_s {α : Type} (f : Nat → α) (k : Nat) (v : α) : zu f k v k = v := by simp [zu]
theorem zu_n {α : Type} (f : Nat → α) {k j : Nat} (v : α) (h : j ≠ k) : zu f k v j = f j := by simp [zu, h]
theorem zws_len {base : Nat} {gA : FieldType → Nat} {n : Nat} {I : zI} {J : zJ} {P : zP} : (zws base gA n I J P).length = n := by simp [zws]
theorem zws_get {base : Nat} {gA : FieldType → Nat} {n : Nat} {I : zI} {J : zJ} {P : zP} {k : Nat} (h : k < n) : (zws base gA n I J P)[k]? = some (base + k, zent base gA I J P k) := by simp [zws, h]
theorem zent_cong {base : Nat} {gA : FieldType → Nat} {I I' : zI} {J J' : zJ} {P P' : zP} {k : Nat} (h1 : I' k = I k) (h2 : J' k = J k) (h3 : P' k = P k) : zent base gA I' J' P' k = zent base gA I J P k := by
  have e : ∀ ci, zfv base I' P' ci k = zfv base I P ci k := by
    intro ci; funext j; unfold zfv; rw [h1, h3]
  unfold zent
  simp only [e, h1, h2, h3]
theorem zws_set {base : Nat} {gA : FieldType → Nat} {n : Nat} {I I' : zI} {J J' : zJ} {P P' : zP} {k : Nat} {e : va_E} (he : zent base gA I' J' P' k = e) (h1 : ∀ j, j ≠ k → I' j = I j) (h2 : ∀ j, j ≠ k → J' j = J j) (h3 : ∀ j, j ≠ k → P' j = P j) :
    (zws base gA n I J P).set k (base + k, e) = zws base gA n I' J' P' := by
  apply List.ext_getElem?
  intro j
  by_cases hj : j < n
  · rw [zws_get hj]
    by_cases hjk : j = k
    · subst hjk
      rw [List.getElem?_set_self (by rw [zws_len]; exact hj), he]
    · rw [List.getElem?_set_ne (Ne.symm hjk), zws_get hj, zent_cong (h1 j hjk) (h2 j hjk) (h3 j hjk)]
  · rw [List.getElem?_eq_none (by rw [List.length_set, zws_len]; omega), List.getElem?_eq_none (by rw [zws_len]; omega)]
theorem zws_push {base : Nat} {gA : FieldType → Nat} {n : Nat} {I I' : zI} {J J' : zJ} {P P' : zP} {e : va_E} (he : zent base gA I' J' P' n = e) (h1 : ∀ j, j ≠ n → I' j = I j) (h2 : ∀ j, j ≠ n → J' j = J j) (h3 : ∀ j, j ≠ n → P' j = P j) :
    zws base gA n I J P ++ [(base + n, e)] = zws base gA (n + 1) I' J' P' := by
  unfold zws
  rw [List.range_succ, List.map_append, List.map_cons, List.map_nil, he]
  congr 1
  apply List.map_congr_left
  intro j hj
  have hjn : j ≠ n := by have := List.mem_range.mp hj; omega
  rw [zent_cong (h1 j hjn) (h2 j hjn) (h3 j hjn)]
theorem zws_D {base : Nat} {gA : FieldType → Nat} {n : Nat} {I : zI} {J : zJ} {P : zP} : va_D (fun q => base ≤ q) (zws base gA n I J P) := by
  have key : ∀ (i : Nat) (q : Nat × va_E), (zws base gA n I J P)[i]? = some q → q.1 = base + i := by
    intro i q h
    have hi : i < n := by
      have := (List.getElem?_eq_some_iff.mp h).1
      rwa [zws_len] at this
    rw [zws_get hi] at h
    cases h
    rfl
  refine ⟨fun i j p q hp hq e => ?_, fun k q hk => ?_⟩
  · have := key i p hp
    have := key j q hq
    omega
  · rw [key k q hk]; exact Nat.le_add_right _ _
def zlen (k : Nat) : Nat := match zSH k with
  | .inl ci => zN ci
  | .inr (_, len) => len
def zsz : Nat → Nat
  | 0 => 0
  | k + 1 => zsz k + zlen k
theorem zsz_mono {a b : Nat} (h : a ≤ b) : zsz a ≤ zsz b := by
  induction b with
  | zero => rw [Nat.le_zero.mp h]; exact Nat.le_refl _
  | succ b ih =>
    rcases Nat.lt_or_ge a (b + 1) with q | q
    · exact Nat.le_trans (ih (by omega)) (Nat.le_add_right _ _)
    · rw [show a = b + 1 by omega]; exact Nat.le_refl _
/-! the locals, by their places; .null: nothing is known there -/
def zas (base b : Nat) (ls : List Value) : List (Nat × Value) := (List.range ls.length).filterMap (fun (i : Nat) => match (ls[i]? : Option Value) with
  | some Value.null => none
  | some v => some (i, zcv base b v)
  | none => none)
theorem zas_mem {base b : Nat} {ls : List Value} {i : Nat} {v : Value} (h : ls[i]? = some v) (hv : v ≠ .null) : (i, zcv base b v) ∈ zas base b ls := by
  refine List.mem_filterMap.mpr ⟨i, List.mem_range.mpr (List.getElem?_eq_some_iff.mp h).1, ?_⟩
  rw [h]
  cases v <;> first | rfl | exact absurd rfl hv
theorem zas_inv {base b : Nat} {ls : List Value} {q : Nat × Value} (h : q ∈ zas base b ls) : ∃ v, ls[q.1]? = some v ∧ v ≠ .null ∧ q.2 = zcv base b v := by
  obtain ⟨i, -, hi⟩ := List.mem_filterMap.mp h
  cases hv : ls[i]? with
  | none => rw [hv] at hi; cases hi
  | some v =>
    rw [hv] at hi
    cases v <;> first | (cases hi; exact ⟨_, hv, by simp, rfl⟩) | cases hi
def zkill (ls : List Value) (i : Nat) : List Value := match i with
  | 0 => ls
  | j + 1 => match ls[j]? with
    | some (.long _) => ls.set j .null
    | some (.double _) => ls.set j .null
    | _ => ls
theorem zkill_len (ls : List Value) (i : Nat) : (zkill ls i).length = ls.length := by
  unfold zkill
  split
  · rfl
  · split <;> simp
theorem zkill_at {ls : List Value} {i k : Nat} {v : Value} (h : (zkill ls i)[k]? = some v) (hv : v ≠ .null) : ls[k]? = some v ∧ ¬ (k + 1 = i ∧ v.category = 2) := by
  unfold zkill at h
  split at h
  · exact ⟨h, by omega⟩
  · rename_i j
    have key : ∀ x : Value, x.category = 2 → ls[j]? = some x → (ls.set j .null)[k]? = some v → ls[k]? = some v ∧ ¬ (k + 1 = j + 1 ∧ v.category = 2) := by
      intro x hx hj hs
      by_cases hk : k = j
      · subst hk
        rw [List.getElem?_set_self (List.getElem?_eq_some_iff.mp hj).1] at hs
        cases hs
        exact absurd rfl hv
      · rw [List.getElem?_set_ne (Ne.symm hk)] at hs
        exact ⟨hs, by omega⟩
    split at h
    · next x hj => exact key _ rfl hj h
    · next x hj => exact key _ rfl hj h
    · next n1 n2 =>
      refine ⟨h, fun ⟨e, c⟩ => ?_⟩
      have e : k = j := by omega
      subst e
      cases v <;> first | exact n1 _ h | exact n2 _ h | (simp [Value.category] at c; done)
/-- a one-word store -/
def zst1 (ls : List Value) (i : Nat) (v : Value) : List Value := (zkill ls i).set i v
/-- a two-word store -/
def zst2 (ls : List Value) (i : Nat) (v : Value) : List Value := ((zkill ls i).set (i + 1) .null).set i v
theorem zst1_len (ls : List Value) (i : Nat) (v : Value) : (zst1 ls i v).length = ls.length := by simp [zst1, zkill_len]
theorem zst2_len (ls : List Value) (i : Nat) (v : Value) : (zst2 ls i v).length = ls.length := by simp [zst2, zkill_len]
theorem zst1_sub {base b : Nat} {ls : List Value} {i : Nat} {v : Value} : ∀ q ∈ zas base b (zst1 ls i v), q ∈ (i, zcv base b v) :: (zas base b ls).filter (fun q => !(q.1 == i) && !(q.1 + 1 == i && q.2.category == 2)) := by
  intro q hq
  obtain ⟨x, h1, h2, h3⟩ := zas_inv hq
  obtain ⟨k, w⟩ := q
  simp only at h1 h3
  subst h3
  by_cases hk : k = i
  · subst hk
    have hl := (List.getElem?_eq_some_iff.mp h1).1
    rw [zst1_len] at hl
    unfold zst1 at h1
    rw [List.getElem?_set_self (by rw [zkill_len]; exact hl)] at h1
    cases h1
    exact List.mem_cons_self
  · unfold zst1 at h1
    rw [List.getElem?_set_ne (Ne.symm hk)] at h1
    obtain ⟨h4, h5⟩ := zkill_at h1 h2
    refine List.mem_cons_of_mem _ (List.mem_filter.mpr ⟨zas_mem h4 h2, ?_⟩)
    have h6 : ¬ (k + 1 = i ∧ (zcv base b x).category = 2) := by rw [zcv_cat]; exact h5
    by_cases e1 : k + 1 = i
    · have : ¬ (zcv base b x).category = 2 := fun e2 => h6 ⟨e1, e2⟩
      simp [hk, this]
    · simp [hk, e1]
theorem zst2_sub {base b : Nat} {ls : List Value} {i : Nat} {v : Value} : ∀ q ∈ zas base b (zst2 ls i v), q ∈ (i, zcv base b v) :: (zas base b ls).filter (fun q => !(q.1 == i) && (!(q.1 == i + 1) && !(q.1 + 1 == i && q.2.category == 2))) := by
  intro q hq
  obtain ⟨x, h1, h2, h3⟩ := zas_inv hq
  obtain ⟨k, w⟩ := q
  simp only at h1 h3
  subst h3
  by_cases hk : k = i
  · subst hk
    have hl := (List.getElem?_eq_some_iff.mp h1).1
    rw [zst2_len] at hl
    unfold zst2 at h1
    rw [List.getElem?_set_self (by rw [List.length_set, zkill_len]; exact hl)] at h1
    cases h1
    exact List.mem_cons_self
  · unfold zst2 at h1
    rw [List.getElem?_set_ne (Ne.symm hk)] at h1
    by_cases hk1 : k = i + 1
    · subst hk1
      have hl := (List.getElem?_eq_some_iff.mp h1).1
      rw [List.getElem?_set_self (by rw [List.length_set] at hl; exact hl)] at h1
      cases h1
      exact absurd rfl h2
    · rw [List.getElem?_set_ne (Ne.symm hk1)] at h1
      obtain ⟨h4, h5⟩ := zkill_at h1 h2
      refine List.mem_cons_of_mem _ (List.mem_filter.mpr ⟨zas_mem h4 h2, ?_⟩)
      have h6 : ¬ (k + 1 = i ∧ (zcv base b x).category = 2) := by rw [zcv_cat]; exact h5
      by_cases e1 : k + 1 = i
      · have : ¬ (zcv base b x).category = 2 := fun e2 => h6 ⟨e1, e2⟩
        simp [hk, hk1, this]
      · simp [hk, hk1, e1]
theorem zhas_sub {ls : Array Slot} {nL : Nat} {l l' : List (Nat × Value)} (h : lv_has ls nL l) (hs : ∀ q ∈ l', q ∈ l) : lv_has ls nL l' := ⟨h.1, h.2.1, fun q hq => h.2.2 q (hs q hq)⟩
theorem zas_at {base b nL : Nat} {ls : List Value} {lsA : Array Slot} {i : Nat} {v : Value} (h : lv_has lsA nL (zas base b ls)) (hi : ls[i]? = some v) (hv : v ≠ .null) : lsA[i]? = some (.val (zcv base b v)) := h.2.2 _ (zas_mem hi hv)
/-- the locals at a method's entry -/
def zex : List Value → List Value
  | [] => []
  | v :: vs => if v.category = 2 then v :: .null :: zex vs else v :: zex vs
def zin (nL : Nat) (vs : List Value) : List Value := zex vs ++ List.replicate (nL - (zex vs).length) .null
theorem zex_len (base b : Nat) (vs : List Value) : (lg_sl (vs.map (zcv base b))).length = (zex vs).length := by
  induction vs with
  | nil => rfl
  | cons v vs ih =>
    have e : lg_sl ((v :: vs).map (zcv base b)) = (if (zcv base b v).category = 2 then [Slot.val (zcv base b v), .second] else [.val (zcv base b v)]) ++ lg_sl (vs.map (zcv base b)) := by simp [lg_sl]
    rw [e, List.length_append, ih, zcv_cat, show zex (v :: vs) = (if v.category = 2 then v :: .null :: zex vs else v :: zex vs) from rfl]
    split <;> simp <;> omega
theorem zex_args {base b : Nat} : ∀ (vs : List Value) (i k : Nat) (v : Value), (zex vs)[k]? = some v → v ≠ .null → (i + k, zcv base b v) ∈ lv_args i (vs.map (zcv base b))
  | [], i, k, v, h, hv => by simp [zex] at h
  | x :: vs, i, k, v, h, hv => by
    unfold zex at h
    simp only [List.map_cons, lv_args, zcv_cat]
    split at h
    · next hc =>
      rw [if_pos hc]
      match k, h with
      | 0, h => simp at h; subst h; exact List.mem_cons_self
      | 1, h => simp at h; exact absurd h.symm hv
      | k + 2, h =>
        refine List.mem_cons_of_mem _ ?_
        have := zex_args (base := base) (b := b) vs (i + 2) k v (by simpa using h) hv
        rwa [show i + (k + 2) = i + 2 + k by omega]
    · next hc =>
      rw [if_neg hc]
      match k, h with
      | 0, h => simp at h; subst h; exact List.mem_cons_self
      | k + 1, h =>
        refine List.mem_cons_of_mem _ ?_
        have := zex_args (base := base) (b := b) vs (i + 1) k v (by simpa using h) hv
        rwa [show i + (k + 1) = i + 1 + k by omega]
theorem zin_len {nL : Nat} {vs : List Value} (h : (zex vs).length ≤ nL) : (zin nL vs).length = nL := by simp [zin]; omega
theorem zin_has {base b nL : Nat} {vs : List Value} (h : (zex vs).length ≤ nL) : lv_has ((lg_sl (vs.map (zcv base b)) ++ List.replicate (nL - (lg_sl (vs.map (zcv base b))).length) Slot.unset).toArray) nL (zas base b (zin nL vs)) := by
  refine zhas_sub (lv_entry (vs.map (zcv base b)) (by rw [zex_len]; exact h)) ?_
  intro q hq
  obtain ⟨v, h1, h2, h3⟩ := zas_inv hq
  obtain ⟨k, w⟩ := q
  simp only at h1 h3
  subst h3
  unfold zin at h1
  by_cases hk : k < (zex vs).length
  · rw [List.getElem?_append_left hk] at h1
    have := zex_args (base := base) (b := b) vs 0 k v h1 h2
    rwa [Nat.zero_add] at this
  · rw [List.getElem?_append_right (by omega)] at h1
    exact absurd (List.eq_of_mem_replicate (List.mem_of_getElem? h1)) h2
