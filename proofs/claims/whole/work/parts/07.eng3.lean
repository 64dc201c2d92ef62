theorem zs_iadd {K : zCx} {own : String} {cc : ByteArray} {d n1 : Nat} {ini : Bool} {sc : Option (Nat × (Nat → Int32))} (C : zCtx K own cc d n1 ini sc) {n : Nat} {I : zI} {J : zJ} {P : zP} {pc : Nat} {ls : List Value} {x y : Int32} {r : List Value} (hd : decode cc pc = .ok (.iadd, 1)) (k : zV K n I J P (pc + 1) ls (.int (x + y) :: r)) : zV K n I J P pc ls (.int y :: .int x :: r) := by
  obtain ⟨p, l, e, R, s, m, args, below, meth, c, Q, D, gA, base, b, n0, n1v, nL⟩ := K
  obtain ⟨hx, hb, hml, hown, hgd, -⟩ := C
  intro a1 a2 a3 H locs lsA hP hS hL
  exact lv_iadd hx hb hd (k a1 a2 a3 H locs lsA hP hS hL)
theorem zs_isub {K : zCx} {own : String} {cc : ByteArray} {d n1 : Nat} {ini : Bool} {sc : Option (Nat × (Nat → Int32))} (C : zCtx K own cc d n1 ini sc) {n : Nat} {I : zI} {J : zJ} {P : zP} {pc : Nat} {ls : List Value} {x y : Int32} {r : List Value} (hd : decode cc pc = .ok (.isub, 1)) (k : zV K n I J P (pc + 1) ls (.int (x - y) :: r)) : zV K n I J P pc ls (.int y :: .int x :: r) := by
  obtain ⟨p, l, e, R, s, m, args, below, meth, c, Q, D, gA, base, b, n0, n1v, nL⟩ := K
  obtain ⟨hx, hb, hml, hown, hgd, -⟩ := C
  intro a1 a2 a3 H locs lsA hP hS hL
  exact lv_isub hx hb hd (k a1 a2 a3 H locs lsA hP hS hL)
theorem zs_imul {K : zCx} {own : String} {cc : ByteArray} {d n1 : Nat} {ini : Bool} {sc : Option (Nat × (Nat → Int32))} (C : zCtx K own cc d n1 ini sc) {n : Nat} {I : zI} {J : zJ} {P : zP} {pc : Nat} {ls : List Value} {x y : Int32} {r : List Value} (hd : decode cc pc = .ok (.imul, 1)) (k : zV K n I J P (pc + 1) ls (.int (x * y) :: r)) : zV K n I J P pc ls (.int y :: .int x :: r) := by
  obtain ⟨p, l, e, R, s, m, args, below, meth, c, Q, D, gA, base, b, n0, n1v, nL⟩ := K
  obtain ⟨hx, hb, hml, hown, hgd, -⟩ := C
  intro a1 a2 a3 H locs lsA hP hS hL
  exact lv_imul hx hb hd (k a1 a2 a3 H locs lsA hP hS hL)
theorem zs_iand {K : zCx} {own : String} {cc : ByteArray} {d n1 : Nat} {ini : Bool} {sc : Option (Nat × (Nat → Int32))} (C : zCtx K own cc d n1 ini sc) {n : Nat} {I : zI} {J : zJ} {P : zP} {pc : Nat} {ls : List Value} {x y : Int32} {r : List Value} (hd : decode cc pc = .ok (.iand, 1)) (k : zV K n I J P (pc + 1) ls (.int (x &&& y) :: r)) : zV K n I J P pc ls (.int y :: .int x :: r) := by
  obtain ⟨p, l, e, R, s, m, args, below, meth, c, Q, D, gA, base, b, n0, n1v, nL⟩ := K
  obtain ⟨hx, hb, hml, hown, hgd, -⟩ := C
  intro a1 a2 a3 H locs lsA hP hS hL
  exact lv_iand hx hb hd (k a1 a2 a3 H locs lsA hP hS hL)
theorem zs_ior {K : zCx} {own : String} {cc : ByteArray} {d n1 : Nat} {ini : Bool} {sc : Option (Nat × (Nat → Int32))} (C : zCtx K own cc d n1 ini sc) {n : Nat} {I : zI} {J : zJ} {P : zP} {pc : Nat} {ls : List Value} {x y : Int32} {r : List Value} (hd : decode cc pc = .ok (.ior, 1)) (k : zV K n I J P (pc + 1) ls (.int (x ||| y) :: r)) : zV K n I J P pc ls (.int y :: .int x :: r) := by
  obtain ⟨p, l, e, R, s, m, args, below, meth, c, Q, D, gA, base, b, n0, n1v, nL⟩ := K
  obtain ⟨hx, hb, hml, hown, hgd, -⟩ := C
  intro a1 a2 a3 H locs lsA hP hS hL
  exact lv_ior hx hb hd (k a1 a2 a3 H locs lsA hP hS hL)
theorem zs_ixor {K : zCx} {own : String} {cc : ByteArray} {d n1 : Nat} {ini : Bool} {sc : Option (Nat × (Nat → Int32))} (C : zCtx K own cc d n1 ini sc) {n : Nat} {I : zI} {J : zJ} {P : zP} {pc : Nat} {ls : List Value} {x y : Int32} {r : List Value} (hd : decode cc pc = .ok (.ixor, 1)) (k : zV K n I J P (pc + 1) ls (.int (x ^^^ y) :: r)) : zV K n I J P pc ls (.int y :: .int x :: r) := by
  obtain ⟨p, l, e, R, s, m, args, below, meth, c, Q, D, gA, base, b, n0, n1v, nL⟩ := K
  obtain ⟨hx, hb, hml, hown, hgd, -⟩ := C
  intro a1 a2 a3 H locs lsA hP hS hL
  exact lv_ixor hx hb hd (k a1 a2 a3 H locs lsA hP hS hL)
theorem zs_ishl {K : zCx} {own : String} {cc : ByteArray} {d n1 : Nat} {ini : Bool} {sc : Option (Nat × (Nat → Int32))} (C : zCtx K own cc d n1 ini sc) {n : Nat} {I : zI} {J : zJ} {P : zP} {pc : Nat} {ls : List Value} {x y : Int32} {r : List Value} (hd : decode cc pc = .ok (.ishl, 1)) (k : zV K n I J P (pc + 1) ls (.int (x <<< (y &&& 31)) :: r)) : zV K n I J P pc ls (.int y :: .int x :: r) := by
  obtain ⟨p, l, e, R, s, m, args, below, meth, c, Q, D, gA, base, b, n0, n1v, nL⟩ := K
  obtain ⟨hx, hb, hml, hown, hgd, -⟩ := C
  intro a1 a2 a3 H locs lsA hP hS hL
  exact lv_ishl hx hb hd (k a1 a2 a3 H locs lsA hP hS hL)
theorem zs_ishr {K : zCx} {own : String} {cc : ByteArray} {d n1 : Nat} {ini : Bool} {sc : Option (Nat × (Nat → Int32))} (C : zCtx K own cc d n1 ini sc) {n : Nat} {I : zI} {J : zJ} {P : zP} {pc : Nat} {ls : List Value} {x y : Int32} {r : List Value} (hd : decode cc pc = .ok (.ishr, 1)) (k : zV K n I J P (pc + 1) ls (.int (x >>> (y &&& 31)) :: r)) : zV K n I J P pc ls (.int y :: .int x :: r) := by
  obtain ⟨p, l, e, R, s, m, args, below, meth, c, Q, D, gA, base, b, n0, n1v, nL⟩ := K
  obtain ⟨hx, hb, hml, hown, hgd, -⟩ := C
  intro a1 a2 a3 H locs lsA hP hS hL
  exact lv_ishr hx hb hd (k a1 a2 a3 H locs lsA hP hS hL)
theorem zs_iushr {K : zCx} {own : String} {cc : ByteArray} {d n1 : Nat} {ini : Bool} {sc : Option (Nat × (Nat → Int32))} (C : zCtx K own cc d n1 ini sc) {n : Nat} {I : zI} {J : zJ} {P : zP} {pc : Nat} {ls : List Value} {x y : Int32} {r : List Value} (hd : decode cc pc = .ok (.iushr, 1)) (k : zV K n I J P (pc + 1) ls (.int ((x.toUInt32 >>> (y.toUInt32 &&& Int32.toUInt32 31)).toInt32) :: r)) : zV K n I J P pc ls (.int y :: .int x :: r) := by
  obtain ⟨p, l, e, R, s, m, args, below, meth, c, Q, D, gA, base, b, n0, n1v, nL⟩ := K
  obtain ⟨hx, hb, hml, hown, hgd, -⟩ := C
  intro a1 a2 a3 H locs lsA hP hS hL
  exact lv_iushr hx hb hd rfl (k a1 a2 a3 H locs lsA hP hS hL)
theorem zs_idiv {K : zCx} {own : String} {cc : ByteArray} {d n1 : Nat} {ini : Bool} {sc : Option (Nat × (Nat → Int32))} (C : zCtx K own cc d n1 ini sc) {n : Nat} {I : zI} {J : zJ} {P : zP} {pc : Nat} {ls : List Value} {x y : Int32} (hne : ¬ y = 0) {r : List Value} (hd : decode cc pc = .ok (.idiv, 1)) (k : zV K n I J P (pc + 1) ls (.int (x / y) :: r)) : zV K n I J P pc ls (.int y :: .int x :: r) := by
  obtain ⟨p, l, e, R, s, m, args, below, meth, c, Q, D, gA, base, b, n0, n1v, nL⟩ := K
  obtain ⟨hx, hb, hml, hown, hgd, -⟩ := C
  intro a1 a2 a3 H locs lsA hP hS hL
  exact lv_idiv hx hb hd hne (k a1 a2 a3 H locs lsA hP hS hL)
theorem zs_irem {K : zCx} {own : String} {cc : ByteArray} {d n1 : Nat} {ini : Bool} {sc : Option (Nat × (Nat → Int32))} (C : zCtx K own cc d n1 ini sc) {n : Nat} {I : zI} {J : zJ} {P : zP} {pc : Nat} {ls : List Value} {x y : Int32} (hne : ¬ y = 0) {r : List Value} (hd : decode cc pc = .ok (.irem, 1)) (k : zV K n I J P (pc + 1) ls (.int (x - x / y * y) :: r)) : zV K n I J P pc ls (.int y :: .int x :: r) := by
  obtain ⟨p, l, e, R, s, m, args, below, meth, c, Q, D, gA, base, b, n0, n1v, nL⟩ := K
  obtain ⟨hx, hb, hml, hown, hgd, -⟩ := C
  intro a1 a2 a3 H locs lsA hP hS hL
  exact lv_irem hx hb hd hne (k a1 a2 a3 H locs lsA hP hS hL)
theorem zs_ladd {K : zCx} {own : String} {cc : ByteArray} {d n1 : Nat} {ini : Bool} {sc : Option (Nat × (Nat → Int32))} (C : zCtx K own cc d n1 ini sc) {n : Nat} {I : zI} {J : zJ} {P : zP} {pc : Nat} {ls : List Value} {x y : Int64} {r : List Value} (hd : decode cc pc = .ok (.ladd, 1)) (k : zV K n I J P (pc + 1) ls (.long (x + y) :: r)) : zV K n I J P pc ls (.long y :: .long x :: r) := by
  obtain ⟨p, l, e, R, s, m, args, below, meth, c, Q, D, gA, base, b, n0, n1v, nL⟩ := K
  obtain ⟨hx, hb, hml, hown, hgd, -⟩ := C
  intro a1 a2 a3 H locs lsA hP hS hL
  exact lv_ladd hx hb hd (k a1 a2 a3 H locs lsA hP hS hL)
theorem zs_lsub {K : zCx} {own : String} {cc : ByteArray} {d n1 : Nat} {ini : Bool} {sc : Option (Nat × (Nat → Int32))} (C : zCtx K own cc d n1 ini sc) {n : Nat} {I : zI} {J : zJ} {P : zP} {pc : Nat} {ls : List Value} {x y : Int64} {r : List Value} (hd : decode cc pc = .ok (.lsub, 1)) (k : zV K n I J P (pc + 1) ls (.long (x - y) :: r)) : zV K n I J P pc ls (.long y :: .long x :: r) := by
  obtain ⟨p, l, e, R, s, m, args, below, meth, c, Q, D, gA, base, b, n0, n1v, nL⟩ := K
  obtain ⟨hx, hb, hml, hown, hgd, -⟩ := C
  intro a1 a2 a3 H locs lsA hP hS hL
  exact lv_lsub hx hb hd (k a1 a2 a3 H locs lsA hP hS hL)
theorem zs_lmul {K : zCx} {own : String} {cc : ByteArray} {d n1 : Nat} {ini : Bool} {sc : Option (Nat × (Nat → Int32))} (C : zCtx K own cc d n1 ini sc) {n : Nat} {I : zI} {J : zJ} {P : zP} {pc : Nat} {ls : List Value} {x y : Int64} {r : List Value} (hd : decode cc pc = .ok (.lmul, 1)) (k : zV K n I J P (pc + 1) ls (.long (x * y) :: r)) : zV K n I J P pc ls (.long y :: .long x :: r) := by
  obtain ⟨p, l, e, R, s, m, args, below, meth, c, Q, D, gA, base, b, n0, n1v, nL⟩ := K
  obtain ⟨hx, hb, hml, hown, hgd, -⟩ := C
  intro a1 a2 a3 H locs lsA hP hS hL
  exact lv_lmul hx hb hd (k a1 a2 a3 H locs lsA hP hS hL)
theorem zs_land {K : zCx} {own : String} {cc : ByteArray} {d n1 : Nat} {ini : Bool} {sc : Option (Nat × (Nat → Int32))} (C : zCtx K own cc d n1 ini sc) {n : Nat} {I : zI} {J : zJ} {P : zP} {pc : Nat} {ls : List Value} {x y : Int64} {r : List Value} (hd : decode cc pc = .ok (.land, 1)) (k : zV K n I J P (pc + 1) ls (.long (x &&& y) :: r)) : zV K n I J P pc ls (.long y :: .long x :: r) := by
  obtain ⟨p, l, e, R, s, m, args, below, meth, c, Q, D, gA, base, b, n0, n1v, nL⟩ := K
  obtain ⟨hx, hb, hml, hown, hgd, -⟩ := C
  intro a1 a2 a3 H locs lsA hP hS hL
  exact lv_land hx hb hd (k a1 a2 a3 H locs lsA hP hS hL)
theorem zs_lor {K : zCx} {own : String} {cc : ByteArray} {d n1 : Nat} {ini : Bool} {sc : Option (Nat × (Nat → Int32))} (C : zCtx K own cc d n1 ini sc) {n : Nat} {I : zI} {J : zJ} {P : zP} {pc : Nat} {ls : List Value} {x y : Int64} {r : List Value} (hd : decode cc pc = .ok (.lor, 1)) (k : zV K n I J P (pc + 1) ls (.long (x ||| y) :: r)) : zV K n I J P pc ls (.long y :: .long x :: r) := by
  obtain ⟨p, l, e, R, s, m, args, below, meth, c, Q, D, gA, base, b, n0, n1v, nL⟩ := K
  obtain ⟨hx, hb, hml, hown, hgd, -⟩ := C
  intro a1 a2 a3 H locs lsA hP hS hL
  exact lv_lor hx hb hd (k a1 a2 a3 H locs lsA hP hS hL)
theorem zs_lxor {K : zCx} {own : String} {cc : ByteArray} {d n1 : Nat} {ini : Bool} {sc : Option (Nat × (Nat → Int32))} (C : zCtx K own cc d n1 ini sc) {n : Nat} {I : zI} {J : zJ} {P : zP} {pc : Nat} {ls : List Value} {x y : Int64} {r : List Value} (hd : decode cc pc = .ok (.lxor, 1)) (k : zV K n I J P (pc + 1) ls (.long (x ^^^ y) :: r)) : zV K n I J P pc ls (.long y :: .long x :: r) := by
  obtain ⟨p, l, e, R, s, m, args, below, meth, c, Q, D, gA, base, b, n0, n1v, nL⟩ := K
  obtain ⟨hx, hb, hml, hown, hgd, -⟩ := C
  intro a1 a2 a3 H locs lsA hP hS hL
  exact lv_lxor hx hb hd (k a1 a2 a3 H locs lsA hP hS hL)
theorem zs_ldiv {K : zCx} {own : String} {cc : ByteArray} {d n1 : Nat} {ini : Bool} {sc : Option (Nat × (Nat → Int32))} (C : zCtx K own cc d n1 ini sc) {n : Nat} {I : zI} {J : zJ} {P : zP} {pc : Nat} {ls : List Value} {x y : Int64} (hne : ¬ y = 0) {r : List Value} (hd : decode cc pc = .ok (.ldiv, 1)) (k : zV K n I J P (pc + 1) ls (.long (x / y) :: r)) : zV K n I J P pc ls (.long y :: .long x :: r) := by
  obtain ⟨p, l, e, R, s, m, args, below, meth, c, Q, D, gA, base, b, n0, n1v, nL⟩ := K
  obtain ⟨hx, hb, hml, hown, hgd, -⟩ := C
  intro a1 a2 a3 H locs lsA hP hS hL
  exact lv_ldiv hx hb hd hne (k a1 a2 a3 H locs lsA hP hS hL)
theorem zs_lrem {K : zCx} {own : String} {cc : ByteArray} {d n1 : Nat} {ini : Bool} {sc : Option (Nat × (Nat → Int32))} (C : zCtx K own cc d n1 ini sc) {n : Nat} {I : zI} {J : zJ} {P : zP} {pc : Nat} {ls : List Value} {x y : Int64} (hne : ¬ y = 0) {r : List Value} (hd : decode cc pc = .ok (.lrem, 1)) (k : zV K n I J P (pc + 1) ls (.long (x - x / y * y) :: r)) : zV K n I J P pc ls (.long y :: .long x :: r) := by
  obtain ⟨p, l, e, R, s, m, args, below, meth, c, Q, D, gA, base, b, n0, n1v, nL⟩ := K
  obtain ⟨hx, hb, hml, hown, hgd, -⟩ := C
  intro a1 a2 a3 H locs lsA hP hS hL
  exact lv_lrem hx hb hd hne (k a1 a2 a3 H locs lsA hP hS hL)
theorem zs_lshl {K : zCx} {own : String} {cc : ByteArray} {d n1 : Nat} {ini : Bool} {sc : Option (Nat × (Nat → Int32))} (C : zCtx K own cc d n1 ini sc) {n : Nat} {I : zI} {J : zJ} {P : zP} {pc : Nat} {ls : List Value} {x : Int64} {y : Int32} {r : List Value} (hd : decode cc pc = .ok (.lshl, 1)) (k : zV K n I J P (pc + 1) ls (.long (x <<< (y.toInt64 &&& 63)) :: r)) : zV K n I J P pc ls (.int y :: .long x :: r) := by
  obtain ⟨p, l, e, R, s, m, args, below, meth, c, Q, D, gA, base, b, n0, n1v, nL⟩ := K
  obtain ⟨hx, hb, hml, hown, hgd, -⟩ := C
  intro a1 a2 a3 H locs lsA hP hS hL
  exact lv_lshl hx hb hd rfl (k a1 a2 a3 H locs lsA hP hS hL)
theorem zs_lshr {K : zCx} {own : String} {cc : ByteArray} {d n1 : Nat} {ini : Bool} {sc : Option (Nat × (Nat → Int32))} (C : zCtx K own cc d n1 ini sc) {n : Nat} {I : zI} {J : zJ} {P : zP} {pc : Nat} {ls : List Value} {x : Int64} {y : Int32} {r : List Value} (hd : decode cc pc = .ok (.lshr, 1)) (k : zV K n I J P (pc + 1) ls (.long (x >>> (y.toInt64 &&& 63)) :: r)) : zV K n I J P pc ls (.int y :: .long x :: r) := by
  obtain ⟨p, l, e, R, s, m, args, below, meth, c, Q, D, gA, base, b, n0, n1v, nL⟩ := K
  obtain ⟨hx, hb, hml, hown, hgd, -⟩ := C
  intro a1 a2 a3 H locs lsA hP hS hL
  exact lv_lshr hx hb hd rfl (k a1 a2 a3 H locs lsA hP hS hL)
theorem zs_lushr {K : zCx} {own : String} {cc : ByteArray} {d n1 : Nat} {ini : Bool} {sc : Option (Nat × (Nat → Int32))} (C : zCtx K own cc d n1 ini sc) {n : Nat} {I : zI} {J : zJ} {P : zP} {pc : Nat} {ls : List Value} {x : Int64} {y : Int32} {r : List Value} (hd : decode cc pc = .ok (.lushr, 1)) (k : zV K n I J P (pc + 1) ls (.long ((x.toUInt64 >>> (y.toInt64.toUInt64 &&& Int64.toUInt64 63)).toInt64) :: r)) : zV K n I J P pc ls (.int y :: .long x :: r) := by
  obtain ⟨p, l, e, R, s, m, args, below, meth, c, Q, D, gA, base, b, n0, n1v, nL⟩ := K
  obtain ⟨hx, hb, hml, hown, hgd, -⟩ := C
  intro a1 a2 a3 H locs lsA hP hS hL
  exact lv_lushr hx hb hd rfl (k a1 a2 a3 H locs lsA hP hS hL)
theorem zs_ineg {K : zCx} {own : String} {cc : ByteArray} {d n1 : Nat} {ini : Bool} {sc : Option (Nat × (Nat → Int32))} (C : zCtx K own cc d n1 ini sc) {n : Nat} {I : zI} {J : zJ} {P : zP} {pc : Nat} {ls : List Value} {x : Int32} {r : List Value} (hd : decode cc pc = .ok (.ineg, 1)) (k : zV K n I J P (pc + 1) ls (.int (-x) :: r)) : zV K n I J P pc ls (.int x :: r) := by
  obtain ⟨p, l, e, R, s, m, args, below, meth, c, Q, D, gA, base, b, n0, n1v, nL⟩ := K
  obtain ⟨hx, hb, hml, hown, hgd, -⟩ := C
  intro a1 a2 a3 H locs lsA hP hS hL
  exact lv_ineg hx hb hd (k a1 a2 a3 H locs lsA hP hS hL)
theorem zs_i2l {K : zCx} {own : String} {cc : ByteArray} {d n1 : Nat} {ini : Bool} {sc : Option (Nat × (Nat → Int32))} (C : zCtx K own cc d n1 ini sc) {n : Nat} {I : zI} {J : zJ} {P : zP} {pc : Nat} {ls : List Value} {x : Int32} {r : List Value} (hd : decode cc pc = .ok (.i2l, 1)) (k : zV K n I J P (pc + 1) ls (.long x.toInt64 :: r)) : zV K n I J P pc ls (.int x :: r) := by
  obtain ⟨p, l, e, R, s, m, args, below, meth, c, Q, D, gA, base, b, n0, n1v, nL⟩ := K
  obtain ⟨hx, hb, hml, hown, hgd, -⟩ := C
  intro a1 a2 a3 H locs lsA hP hS hL
  exact lv_i2l hx hb hd rfl (k a1 a2 a3 H locs lsA hP hS hL)
theorem zs_l2i {K : zCx} {own : String} {cc : ByteArray} {d n1 : Nat} {ini : Bool} {sc : Option (Nat × (Nat → Int32))} (C : zCtx K own cc d n1 ini sc) {n : Nat} {I : zI} {J : zJ} {P : zP} {pc : Nat} {ls : List Value} {x : Int64} {r : List Value} (hd : decode cc pc = .ok (.l2i, 1)) (k : zV K n I J P (pc + 1) ls (.int x.toInt32 :: r)) : zV K n I J P pc ls (.long x :: r) := by
  obtain ⟨p, l, e, R, s, m, args, below, meth, c, Q, D, gA, base, b, n0, n1v, nL⟩ := K
  obtain ⟨hx, hb, hml, hown, hgd, -⟩ := C
  intro a1 a2 a3 H locs lsA hP hS hL
  exact lv_l2i hx hb hd rfl (k a1 a2 a3 H locs lsA hP hS hL)
theorem zs_lcmp {K : zCx} {own : String} {cc : ByteArray} {d n1 : Nat} {ini : Bool} {sc : Option (Nat × (Nat → Int32))} (C : zCtx K own cc d n1 ini sc) {n : Nat} {I : zI} {J : zJ} {P : zP} {pc : Nat} {ls : List Value} {x y : Int64} {r : List Value} (hd : decode cc pc = .ok (.lcmp, 1)) (k : zV K n I J P (pc + 1) ls (.int (lg_cmp x y) :: r)) : zV K n I J P pc ls (.long y :: .long x :: r) := by
  obtain ⟨p, l, e, R, s, m, args, below, meth, c, Q, D, gA, base, b, n0, n1v, nL⟩ := K
  obtain ⟨hx, hb, hml, hown, hgd, -⟩ := C
  intro a1 a2 a3 H locs lsA hP hS hL
  exact W.lcmp hx hb hd (k a1 a2 a3 H locs lsA hP hS hL)
theorem zs_iconst {K : zCx} {own : String} {cc : ByteArray} {d n1 : Nat} {ini : Bool} {sc : Option (Nat × (Nat → Int32))} (C : zCtx K own cc d n1 ini sc) {n : Nat} {I : zI} {J : zJ} {P : zP} {pc : Nat} {ls : List Value} {c : Int} {r : List Value} (hd : decode cc pc = .ok (.iconst c, 1)) (k : zV K n I J P (pc + 1) ls (.int (Int32.ofInt c) :: r)) : zV K n I J P pc ls (r) := by
  obtain ⟨p, l, e, R, s, m, args, below, meth, c, Q, D, gA, base, b, n0, n1v, nL⟩ := K
  obtain ⟨hx, hb, hml, hown, hgd, -⟩ := C
  intro a1 a2 a3 H locs lsA hP hS hL
  exact lv_iconst hx hb hd rfl (k a1 a2 a3 H locs lsA hP hS hL)
theorem zs_bipush {K : zCx} {own : String} {cc : ByteArray} {d n1 : Nat} {ini : Bool} {sc : Option (Nat × (Nat → Int32))} (C : zCtx K own cc d n1 ini sc) {n : Nat} {I : zI} {J : zJ} {P : zP} {pc : Nat} {ls : List Value} {c : Int} {r : List Value} (hd : decode cc pc = .ok (.bipush c, 2)) (k : zV K n I J P (pc + 2) ls (.int (Int8.ofInt c).toInt32 :: r)) : zV K n I J P pc ls (r) := by
  obtain ⟨p, l, e, R, s, m, args, below, meth, c, Q, D, gA, base, b, n0, n1v, nL⟩ := K
  obtain ⟨hx, hb, hml, hown, hgd, -⟩ := C
  intro a1 a2 a3 H locs lsA hP hS hL
  exact lv_bipush hx hb hd rfl (k a1 a2 a3 H locs lsA hP hS hL)
theorem zs_sipush {K : zCx} {own : String} {cc : ByteArray} {d n1 : Nat} {ini : Bool} {sc : Option (Nat × (Nat → Int32))} (C : zCtx K own cc d n1 ini sc) {n : Nat} {I : zI} {J : zJ} {P : zP} {pc : Nat} {ls : List Value} {c : Int} {r : List Value} (hd : decode cc pc = .ok (.sipush c, 3)) (k : zV K n I J P (pc + 3) ls (.int (Int16.ofInt c).toInt32 :: r)) : zV K n I J P pc ls (r) := by
  obtain ⟨p, l, e, R, s, m, args, below, meth, c, Q, D, gA, base, b, n0, n1v, nL⟩ := K
  obtain ⟨hx, hb, hml, hown, hgd, -⟩ := C
  intro a1 a2 a3 H locs lsA hP hS hL
  exact lv_sipush hx hb hd rfl (k a1 a2 a3 H locs lsA hP hS hL)
theorem zs_lconst {K : zCx} {own : String} {cc : ByteArray} {d n1 : Nat} {ini : Bool} {sc : Option (Nat × (Nat → Int32))} (C : zCtx K own cc d n1 ini sc) {n : Nat} {I : zI} {J : zJ} {P : zP} {pc : Nat} {ls : List Value} {c : Fin 2} {r : List Value} (hd : decode cc pc = .ok (.lconst c, 1)) (k : zV K n I J P (pc + 1) ls (.long (Int64.ofNat (c : Nat)) :: r)) : zV K n I J P pc ls (r) := by
  obtain ⟨p, l, e, R, s, m, args, below, meth, c, Q, D, gA, base, b, n0, n1v, nL⟩ := K
  obtain ⟨hx, hb, hml, hown, hgd, -⟩ := C
  intro a1 a2 a3 H locs lsA hP hS hL
  exact lv_lconst hx hb hd rfl (k a1 a2 a3 H locs lsA hP hS hL)
theorem zs_ldc {K : zCx} {own : String} {cc : ByteArray} {d n1 : Nat} {ini : Bool} {sc : Option (Nat × (Nat → Int32))} (C : zCtx K own cc d n1 ini sc) {n : Nat} {I : zI} {J : zJ} {P : zP} {pc : Nat} {ls : List Value} {i : Nat} {x : Int32} (hc : Cond.constant own i x ∈ z_good) {r : List Value} (hd : decode cc pc = .ok (.ldc i, 2)) (k : zV K n I J P (pc + 2) ls (.int x :: r)) : zV K n I J P pc ls (r) := by
  obtain ⟨p, l, e, R, s, m, args, below, meth, c, Q, D, gA, base, b, n0, n1v, nL⟩ := K
  obtain ⟨hx, hb, hml, hown, hgd, -⟩ := C
  intro a1 a2 a3 H locs lsA hP hS hL
  exact lv_ldc hx hb hown (hgd _ hc) hd (k a1 a2 a3 H locs lsA hP hS hL)
theorem zs_ldcw {K : zCx} {own : String} {cc : ByteArray} {d n1 : Nat} {ini : Bool} {sc : Option (Nat × (Nat → Int32))} (C : zCtx K own cc d n1 ini sc) {n : Nat} {I : zI} {J : zJ} {P : zP} {pc : Nat} {ls : List Value} {i : Nat} {x : Int32} (hc : Cond.constant own i x ∈ z_good) {r : List Value} (hd : decode cc pc = .ok (.ldc_w i, 3)) (k : zV K n I J P (pc + 3) ls (.int x :: r)) : zV K n I J P pc ls (r) := by
  obtain ⟨p, l, e, R, s, m, args, below, meth, c, Q, D, gA, base, b, n0, n1v, nL⟩ := K
  obtain ⟨hx, hb, hml, hown, hgd, -⟩ := C
  intro a1 a2 a3 H locs lsA hP hS hL
  exact lv_ldcw hx hb hown (hgd _ hc) hd (k a1 a2 a3 H locs lsA hP hS hL)
theorem zs_ldc2 {K : zCx} {own : String} {cc : ByteArray} {d n1 : Nat} {ini : Bool} {sc : Option (Nat × (Nat → Int32))} (C : zCtx K own cc d n1 ini sc) {n : Nat} {I : zI} {J : zJ} {P : zP} {pc : Nat} {ls : List Value} {i : Nat} {x : Int64} (hc : Cond.constantLong own i x ∈ z_good) {r : List Value} (hd : decode cc pc = .ok (.ldc2_w i, 3)) (k : zV K n I J P (pc + 3) ls (.long x :: r)) : zV K n I J P pc ls (r) := by
  obtain ⟨p, l, e, R, s, m, args, below, meth, c, Q, D, gA, base, b, n0, n1v, nL⟩ := K
  obtain ⟨hx, hb, hml, hown, hgd, -⟩ := C
  intro a1 a2 a3 H locs lsA hP hS hL
  exact lv_ldc2 hx hb hown (hgd _ hc) hd (k a1 a2 a3 H locs lsA hP hS hL)
theorem zs_iload_n {K : zCx} {own : String} {cc : ByteArray} {d n1 : Nat} {ini : Bool} {sc : Option (Nat × (Nat → Int32))} (C : zCtx K own cc d n1 ini sc) {n : Nat} {I : zI} {J : zJ} {P : zP} {pc : Nat} {ls : List Value} {k1 : Fin 4} {x : Int32} (h : ls[(k1 : Nat)]? = some (.int x)) {r : List Value} (hd : decode cc pc = .ok (.iload_n k1, 1)) (k : zV K n I J P (pc + 1) ls (.int x :: r)) : zV K n I J P pc ls (r) := by
  obtain ⟨p, l, e, R, s, m, args, below, meth, c, Q, D, gA, base, b, n0, n1v, nL⟩ := K
  obtain ⟨hx, hb, hml, hown, hgd, -⟩ := C
  intro a1 a2 a3 H locs lsA hP hS hL
  exact lv_iload_n hx hb hd rfl (zas_at hL h (by simp)) (k a1 a2 a3 H locs lsA hP hS hL)
theorem zs_iload {K : zCx} {own : String} {cc : ByteArray} {d n1 : Nat} {ini : Bool} {sc : Option (Nat × (Nat → Int32))} (C : zCtx K own cc d n1 ini sc) {n : Nat} {I : zI} {J : zJ} {P : zP} {pc : Nat} {ls : List Value} {k1 : Nat} {x : Int32} (h : ls[k1]? = some (.int x)) {r : List Value} (hd : decode cc pc = .ok (.iload k1, 2)) (k : zV K n I J P (pc + 2) ls (.int x :: r)) : zV K n I J P pc ls (r) := by
  obtain ⟨p, l, e, R, s, m, args, below, meth, c, Q, D, gA, base, b, n0, n1v, nL⟩ := K
  obtain ⟨hx, hb, hml, hown, hgd, -⟩ := C
  intro a1 a2 a3 H locs lsA hP hS hL
  exact lv_iload hx hb hd (zas_at hL h (by simp)) (k a1 a2 a3 H locs lsA hP hS hL)
theorem zs_lload_n {K : zCx} {own : String} {cc : ByteArray} {d n1 : Nat} {ini : Bool} {sc : Option (Nat × (Nat → Int32))} (C : zCtx K own cc d n1 ini sc) {n : Nat} {I : zI} {J : zJ} {P : zP} {pc : Nat} {ls : List Value} {k1 : Fin 4} {x : Int64} (h : ls[(k1 : Nat)]? = some (.long x)) {r : List Value} (hd : decode cc pc = .ok (.lload_n k1, 1)) (k : zV K n I J P (pc + 1) ls (.long x :: r)) : zV K n I J P pc ls (r) := by
  obtain ⟨p, l, e, R, s, m, args, below, meth, c, Q, D, gA, base, b, n0, n1v, nL⟩ := K
  obtain ⟨hx, hb, hml, hown, hgd, -⟩ := C
  intro a1 a2 a3 H locs lsA hP hS hL
  exact lv_lload_n hx hb hd rfl (zas_at hL h (by simp)) (k a1 a2 a3 H locs lsA hP hS hL)
theorem zs_lload {K : zCx} {own : String} {cc : ByteArray} {d n1 : Nat} {ini : Bool} {sc : Option (Nat × (Nat → Int32))} (C : zCtx K own cc d n1 ini sc) {n : Nat} {I : zI} {J : zJ} {P : zP} {pc : Nat} {ls : List Value} {k1 : Nat} {x : Int64} (h : ls[k1]? = some (.long x)) {r : List Value} (hd : decode cc pc = .ok (.lload k1, 2)) (k : zV K n I J P (pc + 2) ls (.long x :: r)) : zV K n I J P pc ls (r) := by
  obtain ⟨p, l, e, R, s, m, args, below, meth, c, Q, D, gA, base, b, n0, n1v, nL⟩ := K
  obtain ⟨hx, hb, hml, hown, hgd, -⟩ := C
  intro a1 a2 a3 H locs lsA hP hS hL
  exact lv_lload hx hb hd (zas_at hL h (by simp)) (k a1 a2 a3 H locs lsA hP hS hL)
theorem zs_aload_n {K : zCx} {own : String} {cc : ByteArray} {d n1 : Nat} {ini : Bool} {sc : Option (Nat × (Nat → Int32))} (C : zCtx K own cc d n1 ini sc) {n : Nat} {I : zI} {J : zJ} {P : zP} {pc : Nat} {ls : List Value} {k1 : Fin 4} {v : Value} (h : ls[(k1 : Nat)]? = some v) (hv : z_isr v = true) {r : List Value} (hd : decode cc pc = .ok (.aload_n k1, 1)) (k : zV K n I J P (pc + 1) ls (v :: r)) : zV K n I J P pc ls r := by
  obtain ⟨p, l, e, R, s, m, args, below, meth, c, Q, D, gA, base, b, n0, n1v, nL⟩ := K
  obtain ⟨hx, hb, hml, hown, hgd, -⟩ := C
  intro a1 a2 a3 H locs lsA hP hS hL
  cases v <;> first | (exact lv_aload_n hx hb hd rfl (zas_at hL h (by simp)) (k a1 a2 a3 H locs lsA hP hS hL)) | (simp [z_isr] at hv; done)
theorem zs_aload {K : zCx} {own : String} {cc : ByteArray} {d n1 : Nat} {ini : Bool} {sc : Option (Nat × (Nat → Int32))} (C : zCtx K own cc d n1 ini sc) {n : Nat} {I : zI} {J : zJ} {P : zP} {pc : Nat} {ls : List Value} {k1 : Nat} {v : Value} (h : ls[k1]? = some v) (hv : z_isr v = true) {r : List Value} (hd : decode cc pc = .ok (.aload k1, 2)) (k : zV K n I J P (pc + 2) ls (v :: r)) : zV K n I J P pc ls r := by
  obtain ⟨p, l, e, R, s, m, args, below, meth, c, Q, D, gA, base, b, n0, n1v, nL⟩ := K
  obtain ⟨hx, hb, hml, hown, hgd, -⟩ := C
  intro a1 a2 a3 H locs lsA hP hS hL
  cases v <;> first | (exact lv_aload hx hb hd (zas_at hL h (by simp)) (k a1 a2 a3 H locs lsA hP hS hL)) | (simp [z_isr] at hv; done)
theorem zs_istore_n {K : zCx} {own : String} {cc : ByteArray} {d n1 : Nat} {ini : Bool} {sc : Option (Nat × (Nat → Int32))} (C : zCtx K own cc d n1 ini sc) {n : Nat} {I : zI} {J : zJ} {P : zP} {pc : Nat} {ls : List Value} {k1 : Fin 4} {x : Int32} (hi : (k1 : Nat) < ls.length) {r : List Value} (hd : decode cc pc = .ok (.istore_n k1, 1)) (k : zV K n I J P (pc + 1) (zst1 ls (k1 : Nat) (.int x)) r) : zV K n I J P pc ls (.int x :: r) := by
  obtain ⟨p, l, e, R, s, m, args, below, meth, c, Q, D, gA, base, b, n0, n1v, nL⟩ := K
  obtain ⟨hx, hb, hml, hown, hgd, -⟩ := C
  intro a1 a2 a3 H locs lsA hP hS hL
  exact lv_istore_n hx hb hd rfl hL (by rw [← a3]; exact hi) rfl (fun lsB hB => k a1 a2 (by rw [zst1_len]; exact a3) H locs lsB hP hS (zhas_sub hB zst1_sub))
theorem zs_istore {K : zCx} {own : String} {cc : ByteArray} {d n1 : Nat} {ini : Bool} {sc : Option (Nat × (Nat → Int32))} (C : zCtx K own cc d n1 ini sc) {n : Nat} {I : zI} {J : zJ} {P : zP} {pc : Nat} {ls : List Value} {k1 : Nat} {x : Int32} (hi : k1 < ls.length) {r : List Value} (hd : decode cc pc = .ok (.istore k1, 2)) (k : zV K n I J P (pc + 2) (zst1 ls k1 (.int x)) r) : zV K n I J P pc ls (.int x :: r) := by
  obtain ⟨p, l, e, R, s, m, args, below, meth, c, Q, D, gA, base, b, n0, n1v, nL⟩ := K
  obtain ⟨hx, hb, hml, hown, hgd, -⟩ := C
  intro a1 a2 a3 H locs lsA hP hS hL
  exact lv_istore hx hb hd hL (by rw [← a3]; exact hi) rfl (fun lsB hB => k a1 a2 (by rw [zst1_len]; exact a3) H locs lsB hP hS (zhas_sub hB zst1_sub))
theorem zs_astore_n {K : zCx} {own : String} {cc : ByteArray} {d n1 : Nat} {ini : Bool} {sc : Option (Nat × (Nat → Int32))} (C : zCtx K own cc d n1 ini sc) {n : Nat} {I : zI} {J : zJ} {P : zP} {pc : Nat} {ls : List Value} {k1 : Fin 4} {x : Nat} (hi : (k1 : Nat) < ls.length) {r : List Value} (hd : decode cc pc = .ok (.astore_n k1, 1)) (k : zV K n I J P (pc + 1) (zst1 ls (k1 : Nat) (.ref x)) r) : zV K n I J P pc ls (.ref x :: r) := by
  obtain ⟨p, l, e, R, s, m, args, below, meth, c, Q, D, gA, base, b, n0, n1v, nL⟩ := K
  obtain ⟨hx, hb, hml, hown, hgd, -⟩ := C
  intro a1 a2 a3 H locs lsA hP hS hL
  exact lv_astore_n hx hb hd rfl hL (by rw [← a3]; exact hi) rfl (fun lsB hB => k a1 a2 (by rw [zst1_len]; exact a3) H locs lsB hP hS (zhas_sub hB zst1_sub))
theorem zs_astore {K : zCx} {own : String} {cc : ByteArray} {d n1 : Nat} {ini : Bool} {sc : Option (Nat × (Nat → Int32))} (C : zCtx K own cc d n1 ini sc) {n : Nat} {I : zI} {J : zJ} {P : zP} {pc : Nat} {ls : List Value} {k1 : Nat} {x : Nat} (hi : k1 < ls.length) {r : List Value} (hd : decode cc pc = .ok (.astore k1, 2)) (k : zV K n I J P (pc + 2) (zst1 ls k1 (.ref x)) r) : zV K n I J P pc ls (.ref x :: r) := by
  obtain ⟨p, l, e, R, s, m, args, below, meth, c, Q, D, gA, base, b, n0, n1v, nL⟩ := K
  obtain ⟨hx, hb, hml, hown, hgd, -⟩ := C
  intro a1 a2 a3 H locs lsA hP hS hL
  exact lv_astore hx hb hd hL (by rw [← a3]; exact hi) rfl (fun lsB hB => k a1 a2 (by rw [zst1_len]; exact a3) H locs lsB hP hS (zhas_sub hB zst1_sub))
theorem zs_lstore_n {K : zCx} {own : String} {cc : ByteArray} {d n1 : Nat} {ini : Bool} {sc : Option (Nat × (Nat → Int32))} (C : zCtx K own cc d n1 ini sc) {n : Nat} {I : zI} {J : zJ} {P : zP} {pc : Nat} {ls : List Value} {k1 : Fin 4} {x : Int64} (hi : (k1 : Nat) + 1 < ls.length) {r : List Value} (hd : decode cc pc = .ok (.lstore_n k1, 1)) (k : zV K n I J P (pc + 1) (zst2 ls (k1 : Nat) (.long x)) r) : zV K n I J P pc ls (.long x :: r) := by
  obtain ⟨p, l, e, R, s, m, args, below, meth, c, Q, D, gA, base, b, n0, n1v, nL⟩ := K
  obtain ⟨hx, hb, hml, hown, hgd, -⟩ := C
  intro a1 a2 a3 H locs lsA hP hS hL
  exact lv_lstore_n hx hb hd rfl hL (by rw [← a3]; exact hi) rfl (fun lsB hB => k a1 a2 (by rw [zst2_len]; exact a3) H locs lsB hP hS (zhas_sub hB zst2_sub))
theorem zs_lstore {K : zCx} {own : String} {cc : ByteArray} {d n1 : Nat} {ini : Bool} {sc : Option (Nat × (Nat → Int32))} (C : zCtx K own cc d n1 ini sc) {n : Nat} {I : zI} {J : zJ} {P : zP} {pc : Nat} {ls : List Value} {k1 : Nat} {x : Int64} (hi : k1 + 1 < ls.length) {r : List Value} (hd : decode cc pc = .ok (.lstore k1, 2)) (k : zV K n I J P (pc + 2) (zst2 ls k1 (.long x)) r) : zV K n I J P pc ls (.long x :: r) := by
  obtain ⟨p, l, e, R, s, m, args, below, meth, c, Q, D, gA, base, b, n0, n1v, nL⟩ := K
  obtain ⟨hx, hb, hml, hown, hgd, -⟩ := C
  intro a1 a2 a3 H locs lsA hP hS hL
  exact lv_lstore hx hb hd hL (by rw [← a3]; exact hi) rfl (fun lsB hB => k a1 a2 (by rw [zst2_len]; exact a3) H locs lsB hP hS (zhas_sub hB zst2_sub))
theorem zs_iinc {K : zCx} {own : String} {cc : ByteArray} {d n1 : Nat} {ini : Bool} {sc : Option (Nat × (Nat → Int32))} (C : zCtx K own cc d n1 ini sc) {n : Nat} {I : zI} {J : zJ} {P : zP} {pc : Nat} {ls : List Value} {k1 : Nat} {cn : Int} {x : Int32} (h : ls[k1]? = some (.int x)) {r : List Value} (hd : decode cc pc = .ok (.iinc k1 cn, 3)) (k : zV K n I J P (pc + 3) (zst1 ls k1 (.int (x + Int32.ofInt cn))) r) : zV K n I J P pc ls r := by
  obtain ⟨p, l, e, R, s, m, args, below, meth, c, Q, D, gA, base, b, n0, n1v, nL⟩ := K
  obtain ⟨hx, hb, hml, hown, hgd, -⟩ := C
  intro a1 a2 a3 H locs lsA hP hS hL
  obtain ⟨kk, hkk⟩ := List.getElem?_of_mem (zas_mem (base := base) (b := b) h (by simp))
  exact lv_iinc hx hb hd hL hkk rfl (by rw [← a3]; exact (List.getElem?_eq_some_iff.mp h).1) rfl (fun lsB hB => k a1 a2 (by rw [zst1_len]; exact a3) H locs lsB hP hS (zhas_sub hB zst1_sub))
theorem zs_dup {K : zCx} {own : String} {cc : ByteArray} {d n1 : Nat} {ini : Bool} {sc : Option (Nat × (Nat → Int32))} (C : zCtx K own cc d n1 ini sc) {n : Nat} {I : zI} {J : zJ} {P : zP} {pc : Nat} {ls : List Value} {v : Value} (hv : v.category = 1) {r : List Value} (hd : decode cc pc = .ok (.dup, 1)) (k : zV K n I J P (pc + 1) ls (v :: v :: r)) : zV K n I J P pc ls (v :: r) := by
  obtain ⟨p, l, e, R, s, m, args, below, meth, c, Q, D, gA, base, b, n0, n1v, nL⟩ := K
  obtain ⟨hx, hb, hml, hown, hgd, -⟩ := C
  intro a1 a2 a3 H locs lsA hP hS hL
  exact lv_dup hx hb hd (by rw [zcv_cat]; exact hv) (k a1 a2 a3 H locs lsA hP hS hL)
theorem zs_dup2 {K : zCx} {own : String} {cc : ByteArray} {d n1 : Nat} {ini : Bool} {sc : Option (Nat × (Nat → Int32))} (C : zCtx K own cc d n1 ini sc) {n : Nat} {I : zI} {J : zJ} {P : zP} {pc : Nat} {ls : List Value} {v u : Value} (hv : v.category = 1) (hu : u.category = 1) {r : List Value} (hd : decode cc pc = .ok (.dup2, 1)) (k : zV K n I J P (pc + 1) ls (v :: u :: v :: u :: r)) : zV K n I J P pc ls (v :: u :: r) := by
  obtain ⟨p, l, e, R, s, m, args, below, meth, c, Q, D, gA, base, b, n0, n1v, nL⟩ := K
  obtain ⟨hx, hb, hml, hown, hgd, -⟩ := C
  intro a1 a2 a3 H locs lsA hP hS hL
  exact lv_dup2_11 hx hb hd (by rw [zcv_cat]; exact hv) (by rw [zcv_cat]; exact hu) (k a1 a2 a3 H locs lsA hP hS hL)
theorem zs_goto {K : zCx} {own : String} {cc : ByteArray} {d n1 : Nat} {ini : Bool} {sc : Option (Nat × (Nat → Int32))} (C : zCtx K own cc d n1 ini sc) {n : Nat} {I : zI} {J : zJ} {P : zP} {pc : Nat} {ls : List Value} {o : Int} {t : Nat} (ht : (pc : Int) + o = (t : Int)) {r : List Value} (hd : decode cc pc = .ok (.goto o, 3)) (k : zV K n I J P t ls r) : zV K n I J P pc ls r := by
  obtain ⟨p, l, e, R, s, m, args, below, meth, c, Q, D, gA, base, b, n0, n1v, nL⟩ := K
  obtain ⟨hx, hb, hml, hown, hgd, -⟩ := C
  intro a1 a2 a3 H locs lsA hP hS hL
  exact lv_goto hx hb hd ht (k a1 a2 a3 H locs lsA hP hS hL)
theorem zs_icmp {K : zCx} {own : String} {cc : ByteArray} {d n1 : Nat} {ini : Bool} {sc : Option (Nat × (Nat → Int32))} (C : zCtx K own cc d n1 ini sc) {n : Nat} {I : zI} {J : zJ} {P : zP} {pc : Nat} {ls : List Value} {cd : ClassFile.Cond} {o : Int} {t : Nat} {x y : Int32} (ht : (pc : Int) + o = (t : Int)) {r : List Value} (hd : decode cc pc = .ok (.if_icmp cd o, 3)) (kt : z_cc cd x y → zV K n I J P t ls r) (kf : ¬ z_cc cd x y → zV K n I J P (pc + 3) ls r) : zV K n I J P pc ls (.int y :: .int x :: r) := by
  obtain ⟨p, l, e, R, s, m, args, below, meth, c, Q, D, gA, base, b, n0, n1v, nL⟩ := K
  obtain ⟨hx, hb, hml, hown, hgd, -⟩ := C
  intro a1 a2 a3 H locs lsA hP hS hL
  cases cd
  · exact lv_icmp_eq hx hb hd ht (fun h => kt h a1 a2 a3 H locs lsA hP hS hL) (fun h => kf h a1 a2 a3 H locs lsA hP hS hL)
  · exact lv_icmp_ne hx hb hd ht (fun h => kt h a1 a2 a3 H locs lsA hP hS hL) (fun h => kf (fun q => q h) a1 a2 a3 H locs lsA hP hS hL)
  · exact lv_icmp_lt hx hb hd ht (fun h => kt h a1 a2 a3 H locs lsA hP hS hL) (fun h => kf h a1 a2 a3 H locs lsA hP hS hL)
  · exact lv_icmp_ge hx hb hd ht (fun h => kt h a1 a2 a3 H locs lsA hP hS hL) (fun h => kf h a1 a2 a3 H locs lsA hP hS hL)
  · exact lv_icmp_gt hx hb hd ht (fun h => kt h a1 a2 a3 H locs lsA hP hS hL) (fun h => kf h a1 a2 a3 H locs lsA hP hS hL)
  · exact lv_icmp_le hx hb hd ht (fun h => kt h a1 a2 a3 H locs lsA hP hS hL) (fun h => kf h a1 a2 a3 H locs lsA hP hS hL)
theorem zs_if {K : zCx} {own : String} {cc : ByteArray} {d n1 : Nat} {ini : Bool} {sc : Option (Nat × (Nat → Int32))} (C : zCtx K own cc d n1 ini sc) {n : Nat} {I : zI} {J : zJ} {P : zP} {pc : Nat} {ls : List Value} {cd : ClassFile.Cond} {o : Int} {t : Nat} {x : Int32} (ht : (pc : Int) + o = (t : Int)) {r : List Value} (hd : decode cc pc = .ok (.ifCond cd o, 3)) (kt : z_cc cd x 0 → zV K n I J P t ls r) (kf : ¬ z_cc cd x 0 → zV K n I J P (pc + 3) ls r) : zV K n I J P pc ls (.int x :: r) := by
  obtain ⟨p, l, e, R, s, m, args, below, meth, c, Q, D, gA, base, b, n0, n1v, nL⟩ := K
  obtain ⟨hx, hb, hml, hown, hgd, -⟩ := C
  intro a1 a2 a3 H locs lsA hP hS hL
  cases cd
  · exact lv_if_eq hx hb hd ht (fun h => kt h a1 a2 a3 H locs lsA hP hS hL) (fun h => kf h a1 a2 a3 H locs lsA hP hS hL)
  · exact lv_if_ne hx hb hd ht (fun h => kt h a1 a2 a3 H locs lsA hP hS hL) (fun h => kf (fun q => q h) a1 a2 a3 H locs lsA hP hS hL)
  · exact lv_if_lt hx hb hd ht (fun h => kt h a1 a2 a3 H locs lsA hP hS hL) (fun h => kf h a1 a2 a3 H locs lsA hP hS hL)
  · exact lv_if_ge hx hb hd ht (fun h => kt h a1 a2 a3 H locs lsA hP hS hL) (fun h => kf h a1 a2 a3 H locs lsA hP hS hL)
  · exact lv_if_gt hx hb hd ht (fun h => kt h a1 a2 a3 H locs lsA hP hS hL) (fun h => kf h a1 a2 a3 H locs lsA hP hS hL)
  · exact lv_if_le hx hb hd ht (fun h => kt h a1 a2 a3 H locs lsA hP hS hL) (fun h => kf h a1 a2 a3 H locs lsA hP hS hL)
theorem zs_ifnonnull {K : zCx} {own : String} {cc : ByteArray} {d n1 : Nat} {ini : Bool} {sc : Option (Nat × (Nat → Int32))} (C : zCtx K own cc d n1 ini sc) {n : Nat} {I : zI} {J : zJ} {P : zP} {pc : Nat} {ls : List Value} {v : Value} {o : Int} {t : Nat} (hv : z_isr v = true) (ht : (pc : Int) + o = (t : Int)) {r : List Value} (hd : decode cc pc = .ok (.ifnonnull o, 3)) (k : zV K n I J P t ls r) : zV K n I J P pc ls (v :: r) := by
  obtain ⟨p, l, e, R, s, m, args, below, meth, c, Q, D, gA, base, b, n0, n1v, nL⟩ := K
  obtain ⟨hx, hb, hml, hown, hgd, -⟩ := C
  intro a1 a2 a3 H locs lsA hP hS hL
  cases v <;> first | (exact lv_ifnonnull hx hb hd ht (k a1 a2 a3 H locs lsA hP hS hL)) | (simp [z_isr] at hv; done)
theorem zs_tsw {K : zCx} {own : String} {cc : ByteArray} {d n1 : Nat} {ini : Bool} {sc : Option (Nat × (Nat → Int32))} (C : zCtx K own cc d n1 ini sc) {n : Nat} {I : zI} {J : zJ} {P : zP} {pc : Nat} {ls : List Value} {df lo hi : Int} {offs : Array Int} {len : Nat} {x : Int32} {r : List Value} (hd : decode cc pc = .ok (.tableswitch df lo hi offs, len)) (k1 : (x.toInt < lo ∨ hi < x.toInt) → ∃ t : Nat, (pc : Int) + df = (t : Int) ∧ zV K n I J P t ls r) (k2 : ¬ x.toInt < lo → ¬ hi < x.toInt → ∃ (o : Int) (t : Nat), offs[(x.toInt - lo).toNat]? = some o ∧ (pc : Int) + o = (t : Int) ∧ zV K n I J P t ls r) : zV K n I J P pc ls (.int x :: r) := by
  obtain ⟨p, l, e, R, s, m, args, below, meth, c, Q, D, gA, base, b, n0, n1v, nL⟩ := K
  obtain ⟨hx, hb, hml, hown, hgd, -⟩ := C
  intro a1 a2 a3 H locs lsA hP hS hL
  by_cases h1 : x.toInt < lo
  · obtain ⟨t, ht, k⟩ := k1 (Or.inl h1)
    exact lv_tableOut hx hb hd (Or.inl h1) ht (k a1 a2 a3 H locs lsA hP hS hL)
  · by_cases h2 : hi < x.toInt
    · obtain ⟨t, ht, k⟩ := k1 (Or.inr h2)
      exact lv_tableOut hx hb hd (Or.inr h2) ht (k a1 a2 a3 H locs lsA hP hS hL)
    · obtain ⟨o, t, ho, ht, k⟩ := k2 h1 h2
      exact lv_tableIn hx hb hd h1 h2 ho ht (k a1 a2 a3 H locs lsA hP hS hL)
theorem zs_iaload {K : zCx} {own : String} {cc : ByteArray} {d n1 : Nat} {ini : Bool} {sc : Option (Nat × (Nat → Int32))} (C : zCtx K own cc d n1 ini sc) {n : Nat} {I : zI} {J : zJ} {P : zP} {pc : Nat} {ls : List Value} {q N : Nat} {i : Int32} (hq : q < n) (hs : zSH q = .inr (.int, N)) (hi : vp_in i N) {r : List Value} (hd : decode cc pc = .ok (.iaload, 1)) (k : zV K n I J P (pc + 1) ls (.int (I q i.toNatClampNeg) :: r)) : zV K n I J P pc ls (.int i :: .ref q :: r) := by
  obtain ⟨p, l, e, R, s, m, args, below, meth, c, Q, D, gA, base, b, n0, n1v, nL⟩ := K
  obtain ⟨hx, hb, hml, hown, hgd, hnt, hao, hK, -⟩ := C
  intro a1 a2 a3 H locs lsA hP hS hL
  have hg := zws_get (base := base) (gA := gA) (I := I) (J := J) (P := P) hq
  simp only [zent, hs, zStd] at hg
  exact va_iald hx hb hK hP q 0 hg rfl hi hd (k a1 a2 a3 H locs lsA hP hS hL)
theorem zs_baload {K : zCx} {own : String} {cc : ByteArray} {d n1 : Nat} {ini : Bool} {sc : Option (Nat × (Nat → Int32))} (C : zCtx K own cc d n1 ini sc) {n : Nat} {I : zI} {J : zJ} {P : zP} {pc : Nat} {ls : List Value} {q N : Nat} {i : Int32} (hq : q < n) (hs : zSH q = .inr (.boolean, N)) (hi : vp_in i N) {r : List Value} (hd : decode cc pc = .ok (.baload, 1)) (k : zV K n I J P (pc + 1) ls (.int (I q i.toNatClampNeg) :: r)) : zV K n I J P pc ls (.int i :: .ref q :: r) := by
  obtain ⟨p, l, e, R, s, m, args, below, meth, c, Q, D, gA, base, b, n0, n1v, nL⟩ := K
  obtain ⟨hx, hb, hml, hown, hgd, hnt, hao, hK, -⟩ := C
  intro a1 a2 a3 H locs lsA hP hS hL
  have hg := zws_get (base := base) (gA := gA) (I := I) (J := J) (P := P) hq
  simp only [zent, hs, zStd] at hg
  exact va_zald hx hb hK hP q 2 hg rfl hi hd (k a1 a2 a3 H locs lsA hP hS hL)
theorem zs_laload {K : zCx} {own : String} {cc : ByteArray} {d n1 : Nat} {ini : Bool} {sc : Option (Nat × (Nat → Int32))} (C : zCtx K own cc d n1 ini sc) {n : Nat} {I : zI} {J : zJ} {P : zP} {pc : Nat} {ls : List Value} {q N : Nat} {i : Int32} (hq : q < n) (hs : zSH q = .inr (.long, N)) (hi : vp_in i N) {r : List Value} (hd : decode cc pc = .ok (.laload, 1)) (k : zV K n I J P (pc + 1) ls (.long (J q i.toNatClampNeg) :: r)) : zV K n I J P pc ls (.int i :: .ref q :: r) := by
  obtain ⟨p, l, e, R, s, m, args, below, meth, c, Q, D, gA, base, b, n0, n1v, nL⟩ := K
  obtain ⟨hx, hb, hml, hown, hgd, hnt, hao, hK, -⟩ := C
  intro a1 a2 a3 H locs lsA hP hS hL
  have hg := zws_get (base := base) (gA := gA) (I := I) (J := J) (P := P) hq
  simp only [zent, hs, zStd] at hg
  exact va_lald hx hb hK hP q 1 hg rfl hi hd (k a1 a2 a3 H locs lsA hP hS hL)
theorem z_rf_map (base b : Nat) (o : Option Nat) : va_rf (o.map (fun x => base + x)) = zcv base b (z_rf o) := by cases o <;> rfl
theorem zs_aaload {K : zCx} {own : String} {cc : ByteArray} {d n1 : Nat} {ini : Bool} {sc : Option (Nat × (Nat → Int32))} (C : zCtx K own cc d n1 ini sc) {n : Nat} {I : zI} {J : zJ} {P : zP} {pc : Nat} {ls : List Value} {q N : Nat} {i : Int32} (hq : q < n) (hs : zSH q = .inr (zStd, N)) (hi : vp_in i N) {r : List Value} (hd : decode cc pc = .ok (.aaload, 1)) (k : zV K n I J P (pc + 1) ls (z_rf (P q i.toNatClampNeg) :: r)) : zV K n I J P pc ls (.int i :: .ref q :: r) := by
  obtain ⟨p, l, e, R, s, m, args, below, meth, c, Q, D, gA, base, b, n0, n1v, nL⟩ := K
  obtain ⟨hx, hb, hml, hown, hgd, hnt, hao, hK, -⟩ := C
  intro a1 a2 a3 H locs lsA hP hS hL
  have hg := zws_get (base := base) (gA := gA) (I := I) (J := J) (P := P) hq
  simp only [zent, hs, zStd] at hg
  exact va_aldq hx hb hK hP q 3 hg rfl hi hd (by rw [z_rf_map base b]; exact k a1 a2 a3 H locs lsA hP hS hL)
theorem zs_iastore {K : zCx} {own : String} {cc : ByteArray} {d n1 : Nat} {ini : Bool} {sc : Option (Nat × (Nat → Int32))} (C : zCtx K own cc d n1 ini sc) {n : Nat} {I : zI} {J : zJ} {P : zP} {pc : Nat} {ls : List Value} {q N : Nat} {i : Int32} {x : Int32} (hq : q < n) (hs : zSH q = .inr (.int, N)) (hi : vp_in i N) {r : List Value} (hd : decode cc pc = .ok (.iastore, 1)) (k : zV K n (zu I q (zu (I q) i.toNatClampNeg x)) (J) (P) (pc + 1) ls r) : zV K n I J P pc ls (.int x :: .int i :: .ref q :: r) := by
  obtain ⟨p, l, e, R, s, m, args, below, meth, c, Q, D, gA, base, b, n0, n1v, nL⟩ := K
  obtain ⟨hx, hb, hml, hown, hgd, hnt, hao, hK, -⟩ := C
  intro a1 a2 a3 H locs lsA hP hS hL
  have hg := zws_get (base := base) (gA := gA) (I := I) (J := J) (P := P) hq
  simp only [zent, hs, zStd] at hg
  refine va_iast hx hb hK hP zws_D hS q 0 hg rfl hi hd (fun H1 locs1 h1 _ h3 => ?_)
  rw [zws_set (I' := zu I q (zu (I q) i.toNatClampNeg x)) (J' := J) (P' := P) ?_ ?_ ?_ ?_] at h1
  · exact k a1 a2 a3 H1 locs1 lsA h1 h3 hL
  · simp only [zent, hs, zStd, zu_s]; try rfl
  all_goals (intro j hj; first | rfl | exact zu_n _ _ hj)
theorem zs_bastore {K : zCx} {own : String} {cc : ByteArray} {d n1 : Nat} {ini : Bool} {sc : Option (Nat × (Nat → Int32))} (C : zCtx K own cc d n1 ini sc) {n : Nat} {I : zI} {J : zJ} {P : zP} {pc : Nat} {ls : List Value} {q N : Nat} {i : Int32} {x : Int32} (hq : q < n) (hs : zSH q = .inr (.boolean, N)) (hi : vp_in i N) {r : List Value} (hd : decode cc pc = .ok (.bastore, 1)) (k : zV K n (zu I q (zu (I q) i.toNatClampNeg (vp_nar .boolean x))) (J) (P) (pc + 1) ls r) : zV K n I J P pc ls (.int x :: .int i :: .ref q :: r) := by
  obtain ⟨p, l, e, R, s, m, args, below, meth, c, Q, D, gA, base, b, n0, n1v, nL⟩ := K
  obtain ⟨hx, hb, hml, hown, hgd, hnt, hao, hK, -⟩ := C
  intro a1 a2 a3 H locs lsA hP hS hL
  have hg := zws_get (base := base) (gA := gA) (I := I) (J := J) (P := P) hq
  simp only [zent, hs, zStd] at hg
  refine va_zast hx hb hK hP zws_D hS q 2 hg rfl hi hd (fun H1 locs1 h1 _ h3 => ?_)
  rw [zws_set (I' := zu I q (zu (I q) i.toNatClampNeg (vp_nar .boolean x))) (J' := J) (P' := P) ?_ ?_ ?_ ?_] at h1
  · exact k a1 a2 a3 H1 locs1 lsA h1 h3 hL
  · simp only [zent, hs, zStd, zu_s]; try rfl
  all_goals (intro j hj; first | rfl | exact zu_n _ _ hj)
theorem zs_lastore {K : zCx} {own : String} {cc : ByteArray} {d n1 : Nat} {ini : Bool} {sc : Option (Nat × (Nat → Int32))} (C : zCtx K own cc d n1 ini sc) {n : Nat} {I : zI} {J : zJ} {P : zP} {pc : Nat} {ls : List Value} {q N : Nat} {i : Int32} {x : Int64} (hq : q < n) (hs : zSH q = .inr (.long, N)) (hi : vp_in i N) {r : List Value} (hd : decode cc pc = .ok (.lastore, 1)) (k : zV K n (I) (zu J q (zu (J q) i.toNatClampNeg x)) (P) (pc + 1) ls r) : zV K n I J P pc ls (.long x :: .int i :: .ref q :: r) := by
  obtain ⟨p, l, e, R, s, m, args, below, meth, c, Q, D, gA, base, b, n0, n1v, nL⟩ := K
  obtain ⟨hx, hb, hml, hown, hgd, hnt, hao, hK, -⟩ := C
  intro a1 a2 a3 H locs lsA hP hS hL
  have hg := zws_get (base := base) (gA := gA) (I := I) (J := J) (P := P) hq
  simp only [zent, hs, zStd] at hg
  refine va_last hx hb hK hP zws_D hS q 1 hg rfl hi hd (fun H1 locs1 h1 _ h3 => ?_)
  rw [zws_set (I' := I) (J' := zu J q (zu (J q) i.toNatClampNeg x)) (P' := P) ?_ ?_ ?_ ?_] at h1
  · exact k a1 a2 a3 H1 locs1 lsA h1 h3 hL
  · simp only [zent, hs, zStd, zu_s]; try rfl
  all_goals (intro j hj; first | rfl | exact zu_n _ _ hj)
theorem zs_aastore {K : zCx} {own : String} {cc : ByteArray} {d n1 : Nat} {ini : Bool} {sc : Option (Nat × (Nat → Int32))} (C : zCtx K own cc d n1 ini sc) {n : Nat} {I : zI} {J : zJ} {P : zP} {pc : Nat} {ls : List Value} {q v N : Nat} {i : Int32} (hq : q < n) (hv : v < n) (hs : zSH q = .inr (zStd, N)) (hsv : zSH v = .inl 7) (hi : vp_in i N) {r : List Value} (hd : decode cc pc = .ok (.aastore, 1)) (k : zV K n I J (zu P q (zu (P q) i.toNatClampNeg (some v))) (pc + 1) ls r) : zV K n I J P pc ls (.ref v :: .int i :: .ref q :: r) := by
  obtain ⟨p, l, e, R, s, m, args, below, meth, c, Q, D, gA, base, b, n0, n1v, nL⟩ := K
  obtain ⟨hx, hb, hml, hown, hgd, hnt, hao, hK, -⟩ := C
  intro a1 a2 a3 H locs lsA hP hS hL
  have hg := zws_get (base := base) (gA := gA) (I := I) (J := J) (P := P) hq
  have hgv := zws_get (base := base) (gA := gA) (I := I) (J := J) (P := P) hv
  simp only [zent, hs, zStd] at hg
  simp only [zent, hsv] at hgv
  refine va_astq (r := (RX7, TX7, 7)) hx hb hK hP zws_D hS q 3 v 7 hg rfl hgv rfl hi hd (fun H1 locs1 h1 _ h3 => ?_)
  rw [zws_set (I' := I) (J' := J) (P' := zu P q (zu (P q) i.toNatClampNeg (some v))) ?_ ?_ ?_ ?_] at h1
  · exact k a1 a2 a3 H1 locs1 lsA h1 h3 hL
  · simp only [zent, hs, zStd, zu_s]
    have e : (fun j => (zu (P q) i.toNatClampNeg (some v) j).map (fun x => base + x)) = va_up (fun j => (P q j).map (fun x => base + x)) i.toNatClampNeg (some (base + v)) := by
      funext j
      by_cases hj : j = i.toNatClampNeg
      · simp [zu, va_up, hj]
      · simp [zu, va_up, hj]
    rw [e]
  all_goals (intro j hj; first | rfl | exact zu_n _ _ hj)
theorem zs_saload {K : zCx} {own : String} {cc : ByteArray} {d n1 : Nat} {ini : Bool} {sc : Option (Nat × (Nat → Int32))} (C : zCtx K own cc d n1 ini sc) {n : Nat} {I : zI} {J : zJ} {P : zP} {pc : Nat} {ls : List Value} {f : UInt32} {i : Int32} {L : Nat} {xs : Nat → Int32} (hsc : sc = some (L, xs)) (hi : vp_in i L) {r : List Value} (hd : decode cc pc = .ok (.iaload, 1)) (k : zV K n I J P (pc + 1) ls (.int (xs i.toNatClampNeg) :: r)) : zV K n I J P pc ls (.int i :: .float f :: r) := by
  obtain ⟨p, l, e, R, s, m, args, below, meth, c, Q, D, gA, base, b, n0, n1v, nL⟩ := K
  obtain ⟨hx, hb, hml, hown, hgd, hnt, hao, hK, hsz, -, -, -, hX⟩ := C
  intro a1 a2 a3 H locs lsA hP hS hL
  obtain ⟨h1, h2, h3⟩ := hX L xs hsc
  exact va_sld hx hb h1 h2 (Nat.not_le.mpr h3) hS hi hd (k a1 a2 a3 H locs lsA hP hS hL)
theorem zs_slen {K : zCx} {own : String} {cc : ByteArray} {d n1 : Nat} {ini : Bool} {sc : Option (Nat × (Nat → Int32))} (C : zCtx K own cc d n1 ini sc) {n : Nat} {I : zI} {J : zJ} {P : zP} {pc : Nat} {ls : List Value} {f : UInt32} {L : Nat} {xs : Nat → Int32} (hsc : sc = some (L, xs)) {r : List Value} (hd : decode cc pc = .ok (.arraylength, 1)) (k : zV K n I J P (pc + 1) ls (.int (Int32.ofNat L) :: r)) : zV K n I J P pc ls (.float f :: r) := by
  obtain ⟨p, l, e, R, s, m, args, below, meth, c, Q, D, gA, base, b, n0, n1v, nL⟩ := K
  obtain ⟨hx, hb, hml, hown, hgd, hnt, hao, hK, hsz, -, -, -, hX⟩ := C
  intro a1 a2 a3 H locs lsA hP hS hL
  obtain ⟨h1, h2, h3⟩ := hX L xs hsc
  exact va_slen hx hb h1 h2 (Nat.not_le.mpr h3) hS hd (k a1 a2 a3 H locs lsA hP hS hL)
