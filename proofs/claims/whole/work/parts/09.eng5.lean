theorem z_goodIn {y : MethodName} {cy : ByteArray} {mL : Nat} {rt : Option FieldType} (h : Cond.code y cy mL rt ∈ z_good) : GoodIn z_good (Cond.code y cy mL rt :: z_good) := by
  intro w hw
  have hm : w ∈ z_good := by
    rcases List.mem_cons.mp hw with rfl | hw
    · exact h
    · exact hw
  exact ⟨hm, z_good_good w hm⟩
theorem z_blind {D : va_G} {gA : FieldType → Nat} {base b n : Nat} {I : zI} {J : zJ} {P : zP} {As : List Value} : FrameBlind (z_Pc D gA base b n I J P As) := by
  intro a U g mk h
  obtain ⟨q0, q1, q2, q3, q4, q5⟩ := h
  refine ⟨q0, q1, q2, va_K.moved (u := U) (U := U.calling g mk a) (Vm.Alike.refl U.vm) q3, fun w hw => ?_, va_AO.moved (u := U) (U := U.calling g mk a) (Vm.Alike.refl U.vm) q5⟩
  have h1 := q4 w hw
  have h2 := (List.mem_filter.mp hw).2
  cases w <;> first | exact va_Nw.same (u := U) rfl rfl h1 | (simp [z_isNest] at h2; done)
theorem z_call {p : Program} {l : Launch} {e : Env} {R : Room} {s : State} {m : MethodId} {args : Array Value} {below : List Frame} {meth : Method} {c : Code} {H : Heap} {locs : List Loc} {cells slots mc ms : Nat} {Q : State → Prop} {pc : Nat} {lsA : Array Slot} {st0 rest : List Value} {Qa : State → Outcome → State → Prop} {free : Addr → Prop} (hr : va_Run p l e R s m args below meth c H locs cells slots mc ms (F0 m pc lsA st0) rest Qa free)
    (kk : ∀ (v : Option Value) (st₀ t : State) (L : List Loc), st₀.heap = H → Qa st₀ (.returned v) t → (∀ q ∈ L, free q.base) → W p l e R s m args below meth c t.heap (locs ++ L) (cells + mc) (slots + ms) Q (F0 m (pc + 3) lsA (v.toList ++ rest))) : W p l e R s m args below meth c H locs cells slots Q (F0 m pc lsA st0) := by
  intro T hT X
  obtain ⟨v, st₀, t, T', L, h0, X', hL, e1, e2, hq, st⟩ := hr T hT X
  obtain ⟨t2, a1, b1⟩ := kk v st₀ t L h0 hq hL T' e1 X'
  exact ⟨t2, st t2 a1, b1⟩
/-- behind a call: the callee's world is the caller's -/
theorem z_back {K : zCx} {own : String} {cc : ByteArray} {d n1 : Nat} {ini : Bool} {sc : Option (Nat × (Nat → Int32))} (C : zCtx K own cc d n1 ini sc) {n n2 : Nat} {pc : Nat} {ls rest : List Value} {post1 : Option Value → zI → zJ → zP → Prop} (hn : n ≤ n2) (hn2 : n2 ≤ n1) (k : ∀ (r : Option Value) (I1 : zI) (J1 : zJ) (P1 : zP), post1 r I1 J1 P1 → zV K n2 I1 J1 P1 (pc + 3) ls (r.toList ++ rest)) :
    match K with
    | (p, l, e, R, s, m, args, below, meth, c, Q, D, gA, base, b, n0, _, nL) => n0 ≤ n → ls.length = nL → ∀ (H : Heap) (locs : List Loc) (lsA : Array Slot) (st0 : List Value) (a : Array Value), va_S (fun q => base ≤ q) s.heap H locs → lv_has lsA nL (zas base b ls) → va_Run p l e R s m args below meth c H locs (n - n0) (zsz n - zsz n0) (n2 - n) (zsz n2 - zsz n) (F0 m pc lsA st0) (rest.map (zcv base b)) (z_Qc D gA base b n2 post1 a) (fun q => base ≤ q) → W p l e R s m args below meth c H locs (n - n0) (zsz n - zsz n0) Q (F0 m pc lsA st0) := by
  obtain ⟨p, l, e, R, s, m, args, below, meth, c, Q, D, gA, base, b, n0, n1v, nL⟩ := K
  obtain ⟨hx, hb, hml, hown, hgd, hnt, hao, hK, hsz, hn1, -⟩ := C
  subst hn1
  intro a1 a3 H locs lsA st0 a hS hL hr
  refine z_call hr (fun v st₀ t L h0 hq hfr => ?_)
  obtain ⟨⟨r, I1, J1, P1, ho, hp, hP1⟩, hF⟩ := hq
  cases ho
  have hm1 := zsz_mono hn
  have hm0 := zsz_mono a1
  have hS1 : va_S (fun q => base ≤ q) s.heap t.heap (locs ++ L) := by
    obtain ⟨f1, f2⟩ := hF
    rw [h0] at f1 f2
    refine ⟨Nat.le_trans hS.1 f1, fun q h1 h2 => ?_, fun q hq => ?_⟩
    · rw [f2 q (Nat.lt_of_lt_of_le h1 hS.1) h2]; exact hS.2.1 q h1 h2
    · rcases List.mem_append.mp hq with h | h
      · exact hS.2.2 q h
      · exact hfr q h
  have := k r I1 J1 P1 hp (by omega) hn2 a3 t.heap (locs ++ L) lsA hP1 hS1 hL
  rw [show n - n0 + (n2 - n) = n2 - n0 by omega, show zsz n - zsz n0 + (zsz n2 - zsz n) = zsz n2 - zsz n0 by omega]
  have es : (r.toList ++ rest).map (zcv base b) = (r.map (zcv base b)).toList ++ rest.map (zcv base b) := by cases r <;> simp
  rw [es] at this
  exact this
/-- ahead of a call: the callee's start -/
theorem z_ahead {p : Program} {l : Launch} {e : Env} {s : State} {H : Heap} {locs : List Loc} {D : va_G} {gA : FieldType → Nat} {base b n n0 : Nat} {I : zI} {J : zJ} {P : zP} (hnt : ∀ w ∈ z_nest, va_Nw w s) (hao : va_AO "StepsShared$Standing" s) (hK : va_K D zcl (ztys gA) s) (hsz : s.heap.size = base + n0) (h0 : n0 ≤ n) (hP : va_P D zcl (zws base gA n I J P) H) (hS : va_S (fun q => base ≤ q) s.heap H locs) (hz : H.size ≤ s.heap.size + (n - n0)) (As : List Value) : ∀ U : State, U.heap = H → s.WarmedH U.vm → z_Pc D gA base b n I J P As (As.map (zcv base b)).toArray U := by
  intro U hU hW
  refine ⟨rfl, by rw [hU]; exact hP, ?_, va_K.moved hW.alike hK, z_nest_warm hW hnt, va_AO.moved hW.alike hao⟩
  rw [hU]
  have hlo : base + n ≤ H.size := by
    by_cases hn : n = 0
    · have := hS.1; omega
    · have := (hP (n - 1) _ (zws_get (by omega))).lt
      simp only at this
      omega
  omega
theorem zs_invokevirtual {K : zCx} {own : String} {cc : ByteArray} {d n1 : Nat} {ini : Bool} {sc : Option (Nat × (Nat → Int32))} (C : zCtx K own cc d n1 ini sc) {n : Nat} {I : zI} {J : zJ} {P : zP} {pc : Nat} {ls : List Value} {i : Nat} {y : MethodName} {cy : ByteArray} {mL : Nat} {rt : Option FieldType} {na d1 n2 o ci : Nat} {As rest : List Value} {post1 : Option Value → zI → zJ → zP → Prop} (hm : z_ml own i y cy mL rt na) (him : Cond.instanceMethod y ∈ z_good) (hse : Cond.selects y.cls y y ∈ z_good) (hna : As.length = na) (ho : o < n) (hs : zSH o = .inl ci) (hci : ci < 13) (hcy : zR ci = y.cls) (hd1 : d1 + 1 ≤ d) (hmL : mL ≤ 45) (hrs : (rest.map fun v => v.category).sum ≤ 8) (hn2 : n2 ≤ n1) (hSp : z_Sp d1 y cy mL rt n n2 I J P (.ref o :: As) post1) (k : ∀ (r : Option Value) (I1 : zI) (J1 : zJ) (P1 : zP), post1 r I1 J1 P1 → zV K n2 I1 J1 P1 (pc + 3) ls (r.toList ++ rest)) (hd : decode cc pc = .ok (.invokevirtual i, 3)) : zV K n I J P pc ls (As.reverse ++ .ref o :: rest) := by
  obtain ⟨p, l, e, R, s, m, args, below, meth, c, Q, D, gA, base, b, n0, n1v, nL⟩ := K
  obtain ⟨hx, hb, hml, hown, hgd, hnt, hao, hK, hsz, hn1, ⟨r1, r2, r3, r4⟩, -⟩ := id C
  subst hn1
  obtain ⟨hl, hin, hco, hdy⟩ := hm
  intro a1 a2 a3 H locs lsA hP hS hL
  refine z_size fun hz => ?_
  have hm1 := zsz_mono hSp.1
  have hm2 := zsz_mono hn2
  have hm0 := zsz_mono a1
  have hle := hSp.1
  refine (z_back C hSp.1 hn2 k) a1 a3 H locs lsA _ _ hS hL (?_ : va_Run p l e R s m args below meth c H locs (n - n0) (zsz n - zsz n0) (n2 - n) (zsz n2 - zsz n) (F0 m pc lsA ((As.reverse ++ .ref o :: rest).map (zcv base b))) (rest.map (zcv base b)) (z_Qc D gA base b n2 post1 (Value.ref (base + o) :: As.map (zcv base b)).toArray) (fun q => base ≤ q))
  have hg := zws_get (base := base) (gA := gA) (I := I) (J := J) (P := P) ho
  simp only [zent, hs] at hg
  have hM := hSp.2 l D gA base b
  have hpre : PreV s H y.cls (base + o) (z_Pc D gA base b n I J P (.ref o :: As)) (As.map (zcv base b)) := by
    refine ⟨z_blind, ?_, z_ahead (l := l) (p := p) (e := e) hnt hao hK hsz a1 hP hS hz (.ref o :: As)⟩
    rw [← hcy]
    exact va_recv hK hP (zcl_at ci hci) hg
  have hst : ((As.reverse ++ .ref o :: rest).map (zcv base b)) = (As.map (zcv base b)).reverse ++ .ref (base + o) :: rest.map (zcv base b) := by simp [zcv]
  have hrs' : ((rest.map (zcv base b)).map fun v => v.category).sum ≤ 8 := by rw [List.map_map, show ((fun v : Value => v.category) ∘ zcv base b) = (fun v : Value => v.category) from funext (fun v => zcv_cat base b v)]; exact hrs
  rcases hl with hl | ⟨host, hl⟩
  · exact va_runV (C := y.cls) (n := na) ⟨hx, hb, hml, hown, hgd⟩ hM ⟨callB_of na hgd (z_goodIn hco) rfl rfl rfl (hgd _ hin) (hgd _ hl) hdy ⟨by show d1 + 1 ≤ R.frames; omega, by show 8 + (mL + 11) + 64 * d1 ≤ R.locals; omega⟩, hgd _ him, hgd _ hse⟩ hpre rfl (by simpa using hna) hL.1 hst (lv_room hrs') hd ⟨by omega, by omega⟩
  · exact va_runVN (C := y.cls) (n := na) ⟨hx, hb, hml, hown, hgd⟩ hM ⟨va_cnB (host := host) na hgd (z_goodIn hco) rfl rfl rfl (hnt _ hl) (hgd _ hin) hdy ⟨by show d1 + 1 ≤ R.frames; omega, by show 8 + (mL + 11) + 64 * d1 ≤ R.locals; omega⟩, hgd _ him, hgd _ hse⟩ hpre rfl (by simpa using hna) hL.1 hst (lv_room hrs') hd ⟨by omega, by omega⟩
theorem zs_invokestatic {K : zCx} {own : String} {cc : ByteArray} {d n1 : Nat} {ini : Bool} {sc : Option (Nat × (Nat → Int32))} (C : zCtx K own cc d n1 ini sc) {n : Nat} {I : zI} {J : zJ} {P : zP} {pc : Nat} {ls : List Value} {i : Nat} {y : MethodName} {cy : ByteArray} {mL : Nat} {rt : Option FieldType} {na d1 n2 : Nat} {As rest : List Value} {post1 : Option Value → zI → zJ → zP → Prop} (hm : z_ml own i y cy mL rt na) (him : Cond.static y ∈ z_good) (hna : As.length = na) (hd1 : d1 + 1 ≤ d) (hmL : mL ≤ 45) (hrs : (rest.map fun v => v.category).sum ≤ 8) (hn2 : n2 ≤ n1) (hSp : z_Sp d1 y cy mL rt n n2 I J P As post1) (k : ∀ (r : Option Value) (I1 : zI) (J1 : zJ) (P1 : zP), post1 r I1 J1 P1 → zV K n2 I1 J1 P1 (pc + 3) ls (r.toList ++ rest)) (hd : decode cc pc = .ok (.invokestatic i, 3)) : zV K n I J P pc ls (As.reverse ++ rest) := by
  obtain ⟨p, l, e, R, s, m, args, below, meth, c, Q, D, gA, base, b, n0, n1v, nL⟩ := K
  obtain ⟨hx, hb, hml, hown, hgd, hnt, hao, hK, hsz, hn1, ⟨r1, r2, r3, r4⟩, -⟩ := id C
  subst hn1
  obtain ⟨hl, hin, hco, hdy⟩ := hm
  intro a1 a2 a3 H locs lsA hP hS hL
  refine z_size fun hz => ?_
  have hm1 := zsz_mono hSp.1
  have hm2 := zsz_mono hn2
  have hm0 := zsz_mono a1
  have hle := hSp.1
  refine (z_back C hSp.1 hn2 k) a1 a3 H locs lsA _ _ hS hL (?_ : va_Run p l e R s m args below meth c H locs (n - n0) (zsz n - zsz n0) (n2 - n) (zsz n2 - zsz n) (F0 m pc lsA ((As.reverse ++ rest).map (zcv base b))) (rest.map (zcv base b)) (z_Qc D gA base b n2 post1 (As.map (zcv base b)).toArray) (fun q => base ≤ q))
  have hM := hSp.2 l D gA base b
  have hpre : PreS s H (z_Pc D gA base b n I J P As) (As.map (zcv base b)) := ⟨z_blind, z_ahead (l := l) (p := p) (e := e) hnt hao hK hsz a1 hP hS hz As⟩
  have hst : ((As.reverse ++ rest).map (zcv base b)) = (As.map (zcv base b)).reverse ++ rest.map (zcv base b) := by simp
  have hrs' : ((rest.map (zcv base b)).map fun v => v.category).sum ≤ 8 := by rw [List.map_map, show ((fun v : Value => v.category) ∘ zcv base b) = (fun v : Value => v.category) from funext (fun v => zcv_cat base b v)]; exact hrs
  rcases hl with hl | ⟨host, hl⟩
  · exact va_runS (n := na) ⟨hx, hb, hml, hown, hgd⟩ hM ⟨callB_of na hgd (z_goodIn hco) rfl rfl rfl (hgd _ hin) (hgd _ hl) hdy ⟨by show d1 + 1 ≤ R.frames; omega, by show 8 + (mL + 11) + 64 * d1 ≤ R.locals; omega⟩, hgd _ him⟩ hpre rfl (by simpa using hna) hL.1 hst (lv_room hrs') hd ⟨by omega, by omega⟩
  · exact va_runSN (n := na) ⟨hx, hb, hml, hown, hgd⟩ hM ⟨va_cnB (host := host) na hgd (z_goodIn hco) rfl rfl rfl (hnt _ hl) (hgd _ hin) hdy ⟨by show d1 + 1 ≤ R.frames; omega, by show 8 + (mL + 11) + 64 * d1 ≤ R.locals; omega⟩, hgd _ him, trivial⟩ hpre rfl (by simpa using hna) hL.1 hst (lv_room hrs') hd ⟨by omega, by omega⟩
theorem zs_invokeinit {K : zCx} {own : String} {cc : ByteArray} {d n1 : Nat} {ini : Bool} {sc : Option (Nat × (Nat → Int32))} (C : zCtx K own cc d n1 ini sc) {n : Nat} {I : zI} {J : zJ} {P : zP} {pc : Nat} {ls : List Value} {i : Nat} {y : MethodName} {cy : ByteArray} {mL : Nat} {na d1 n2 o : Nat} {As rest : List Value} {post1 : Option Value → zI → zJ → zP → Prop} (hm : z_ml own i y cy mL none na) (him : Cond.instanceMethod y ∈ z_good) (hyi : y.name = "<init>") (hna : As.length = na) (hd1 : d1 + 1 ≤ d) (hmL : mL ≤ 45) (hrs : (rest.map fun v => v.category).sum ≤ 8) (hn2 : n2 ≤ n1) (hSp : z_Sp d1 y cy mL none n n2 I J P (.ref o :: As) post1) (k : ∀ (r : Option Value) (I1 : zI) (J1 : zJ) (P1 : zP), post1 r I1 J1 P1 → zV K n2 I1 J1 P1 (pc + 3) ls (r.toList ++ rest)) (hd : decode cc pc = .ok (.invokespecial i, 3)) : zV K n I J P pc ls (As.reverse ++ .ref o :: rest) := by
  obtain ⟨p, l, e, R, s, m, args, below, meth, c, Q, D, gA, base, b, n0, n1v, nL⟩ := K
  obtain ⟨hx, hb, hml, hown, hgd, hnt, hao, hK, hsz, hn1, ⟨r1, r2, r3, r4⟩, -⟩ := id C
  subst hn1
  obtain ⟨hl, hin, hco, hdy⟩ := hm
  intro a1 a2 a3 H locs lsA hP hS hL
  refine z_size fun hz => ?_
  have hm1 := zsz_mono hSp.1
  have hm2 := zsz_mono hn2
  have hm0 := zsz_mono a1
  have hle := hSp.1
  refine (z_back C hSp.1 hn2 k) a1 a3 H locs lsA _ _ hS hL (?_ : va_Run p l e R s m args below meth c H locs (n - n0) (zsz n - zsz n0) (n2 - n) (zsz n2 - zsz n) (F0 m pc lsA ((As.reverse ++ .ref o :: rest).map (zcv base b))) (rest.map (zcv base b)) (z_Qc D gA base b n2 post1 (Value.ref (base + o) :: As.map (zcv base b)).toArray) (fun q => base ≤ q))
  have hM := hSp.2 l D gA base b
  have hpre : PreS s H (z_Pc D gA base b n I J P (.ref o :: As)) (.ref (base + o) :: As.map (zcv base b)) := ⟨z_blind, z_ahead (l := l) (p := p) (e := e) hnt hao hK hsz a1 hP hS hz (.ref o :: As)⟩
  have hst : ((As.reverse ++ .ref o :: rest).map (zcv base b)) = (As.map (zcv base b)).reverse ++ .ref (base + o) :: rest.map (zcv base b) := by simp [zcv]
  have hrs' : ((rest.map (zcv base b)).map fun v => v.category).sum ≤ 8 := by rw [List.map_map, show ((fun v : Value => v.category) ∘ zcv base b) = (fun v : Value => v.category) from funext (fun v => zcv_cat base b v)]; exact hrs
  rcases hl with hl | ⟨host, hl⟩
  · exact va_runI (n := na) ⟨hx, hb, hml, hown, hgd⟩ hM ⟨callB_of na hgd (z_goodIn hco) rfl rfl rfl (hgd _ hin) (hgd _ hl) hdy ⟨by show d1 + 1 ≤ R.frames; omega, by show 8 + (mL + 11) + 64 * d1 ≤ R.locals; omega⟩, hyi, hgd _ him⟩ hpre rfl (by simpa using hna) hL.1 hst (lv_room hrs') hd ⟨by omega, by omega⟩
  · exact va_runIN (n := na) ⟨hx, hb, hml, hown, hgd⟩ hM ⟨va_cnB (host := host) na hgd (z_goodIn hco) rfl rfl rfl (hnt _ hl) (hgd _ hin) hdy ⟨by show d1 + 1 ≤ R.frames; omega, by show 8 + (mL + 11) + 64 * d1 ≤ R.locals; omega⟩, hyi, hgd _ him⟩ hpre rfl (by simpa using hna) hL.1 hst (lv_room hrs') hd ⟨by omega, by omega⟩
theorem z_oinst : Cond.instanceMethod Lib.objectInit ∈ z_good := List.mem_filter.mpr ⟨by decide +kernel, rfl⟩
theorem z_ocode : Cond.code Lib.objectInit ⟨#[0xb1]⟩ 1 none ∈ z_good := List.mem_filter.mpr ⟨by decide +kernel, rfl⟩
theorem zs_objinit {K : zCx} {own : String} {cc : ByteArray} {d n1 : Nat} {ini : Bool} {sc : Option (Nat × (Nat → Int32))} (C : zCtx K own cc d n1 ini sc) {n : Nat} {I : zI} {J : zJ} {P : zP} {pc : Nat} {ls : List Value} {i o : Nat} {rest : List Value} (hl : Cond.methodLink own i Lib.objectInit ∈ z_good) (hd1 : 1 ≤ d) (hrs : (rest.map fun v => v.category).sum ≤ 8) (hd : decode cc pc = .ok (.invokespecial i, 3)) (k : zV K n I J P (pc + 3) ls rest) : zV K n I J P pc ls (.ref o :: rest) := by
  obtain ⟨p, l, e, R, s, m, args, below, meth, c, Q, D, gA, base, b, n0, n1v, nL⟩ := K
  obtain ⟨hx, hb, hml, hown, hgd, hnt, hao, hK, hsz, hn1, ⟨r1, r2, r3, r4⟩, -⟩ := C
  intro a1 a2 a3 H locs lsA hP hS hL
  have hrs' : ((rest.map (zcv base b)).map fun v => v.category).sum ≤ 8 := by rw [List.map_map, show ((fun v : Value => v.category) ∘ zcv base b) = (fun v : Value => v.category) from funext (fun v => zcv_cat base b v)]; exact hrs
  exact W.objInit hx hb hown (hgd _ hl) (hgd _ z_oinst) (hgd _ z_ocode) rfl (by rw [hml]; exact hL.1) rfl hd (by omega) (by have := lv_room (m := m) (pc := pc) (ls := lsA) (rest := (Value.ref o :: rest).map (zcv base b)) hrs'; omega) (k a1 a2 a3 H locs lsA hP hS hL)
theorem zs_mmax {K : zCx} {own : String} {cc : ByteArray} {d n1 : Nat} {ini : Bool} {sc : Option (Nat × (Nat → Int32))} (C : zCtx K own cc d n1 ini sc) {n : Nat} {I : zI} {J : zJ} {P : zP} {pc : Nat} {ls : List Value} {i : Nat} {x y : Int32} {rest : List Value} (hd1 : 1 ≤ d) (hrs : (rest.map fun v => v.category).sum ≤ 8) (hm : z_MM own i Lib.Math.max.name Lib.Math.max.code 2) (hd : decode cc pc = .ok (.invokestatic i, 3)) (k : zV K n I J P (pc + 3) ls (.int (if x < y then y else x) :: rest)) : zV K n I J P pc ls (.int y :: .int x :: rest) := by
  obtain ⟨p, l, e, R, s, m, args, below, meth, c, Q, D, gA, base, b, n0, n1v, nL⟩ := K
  obtain ⟨hx, hb, hml, hown, hgd, hnt, hao, hK, hsz, hn1, ⟨r1, r2, r3, r4⟩, -⟩ := C
  subst hn1
  intro a1 a2 a3 H locs lsA hP hS hL
  have hrs' : ((rest.map (zcv base b)).map fun v => v.category).sum ≤ 8 := by rw [List.map_map, show ((fun v : Value => v.category) ∘ zcv base b) = (fun v : Value => v.category) from funext (fun v => zcv_cat base b v)]; exact hrs
  have hm2 := zsz_mono a2
  exact va_mmax hx hb (by rw [hml]; exact hL.1.symm) hown (hgd _ hm.1) (hgd _ hm.2.1) (hgd _ hm.2.2.1) (hgd _ hm.2.2.2) (by omega) (by omega) (by omega) (by omega) hd (k a1 a2 a3 H locs lsA hP hS hL)
theorem zs_mmin {K : zCx} {own : String} {cc : ByteArray} {d n1 : Nat} {ini : Bool} {sc : Option (Nat × (Nat → Int32))} (C : zCtx K own cc d n1 ini sc) {n : Nat} {I : zI} {J : zJ} {P : zP} {pc : Nat} {ls : List Value} {i : Nat} {x y : Int32} {rest : List Value} (hd1 : 1 ≤ d) (hrs : (rest.map fun v => v.category).sum ≤ 8) (hm : z_MM own i Lib.Math.min.name Lib.Math.min.code 2) (hd : decode cc pc = .ok (.invokestatic i, 3)) (k : zV K n I J P (pc + 3) ls (.int (if y < x then y else x) :: rest)) : zV K n I J P pc ls (.int y :: .int x :: rest) := by
  obtain ⟨p, l, e, R, s, m, args, below, meth, c, Q, D, gA, base, b, n0, n1v, nL⟩ := K
  obtain ⟨hx, hb, hml, hown, hgd, hnt, hao, hK, hsz, hn1, ⟨r1, r2, r3, r4⟩, -⟩ := C
  subst hn1
  intro a1 a2 a3 H locs lsA hP hS hL
  have hrs' : ((rest.map (zcv base b)).map fun v => v.category).sum ≤ 8 := by rw [List.map_map, show ((fun v : Value => v.category) ∘ zcv base b) = (fun v : Value => v.category) from funext (fun v => zcv_cat base b v)]; exact hrs
  have hm2 := zsz_mono a2
  exact va_mmin hx hb (by rw [hml]; exact hL.1.symm) hown (hgd _ hm.1) (hgd _ hm.2.1) (hgd _ hm.2.2.1) (hgd _ hm.2.2.2) (by omega) (by omega) (by omega) (by omega) hd (k a1 a2 a3 H locs lsA hP hS hL)
theorem zs_mabs {K : zCx} {own : String} {cc : ByteArray} {d n1 : Nat} {ini : Bool} {sc : Option (Nat × (Nat → Int32))} (C : zCtx K own cc d n1 ini sc) {n : Nat} {I : zI} {J : zJ} {P : zP} {pc : Nat} {ls : List Value} {i : Nat} {x : Int32} {rest : List Value} (hd1 : 1 ≤ d) (hrs : (rest.map fun v => v.category).sum ≤ 8) (hm : z_MM own i Lib.Math.abs.name Lib.Math.abs.code 1) (hd : decode cc pc = .ok (.invokestatic i, 3)) (k : zV K n I J P (pc + 3) ls (.int (if 0 ≤ x then x else 0 - x) :: rest)) : zV K n I J P pc ls (.int x :: rest) := by
  obtain ⟨p, l, e, R, s, m, args, below, meth, c, Q, D, gA, base, b, n0, n1v, nL⟩ := K
  obtain ⟨hx, hb, hml, hown, hgd, hnt, hao, hK, hsz, hn1, ⟨r1, r2, r3, r4⟩, -⟩ := C
  subst hn1
  intro a1 a2 a3 H locs lsA hP hS hL
  have hrs' : ((rest.map (zcv base b)).map fun v => v.category).sum ≤ 8 := by rw [List.map_map, show ((fun v : Value => v.category) ∘ zcv base b) = (fun v : Value => v.category) from funext (fun v => zcv_cat base b v)]; exact hrs
  have hm2 := zsz_mono a2
  exact va_mabs hx hb (by rw [hml]; exact hL.1.symm) hown (hgd _ hm.1) (hgd _ hm.2.1) (hgd _ hm.2.2.1) (hgd _ hm.2.2.2) (by omega) (by omega) (by omega) (by omega) hd (k a1 a2 a3 H locs lsA hP hS hL)
