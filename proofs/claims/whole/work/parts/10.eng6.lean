/-- V is closed backward under the method's instructions; and what isn't wanted may be forgotten -/
def z_Cl (own : String) (cc : ByteArray) (d n1 : Nat) (ini : Bool) (sc : Option (Nat × (Nat → Int32))) (ret : Option FieldType) (post : Option Value → zI → zJ → zP → Prop) (V : Nat → zI → zJ → zP → Nat → List Value → List Value → Prop) : Prop :=
  (∀ (n : Nat) (I : zI) (J : zJ) (P : zP) (pc : Nat) (ls st : List Value) (i : Instr) (len : Nat), decode cc pc = .ok (i, len) → z_wp own d n1 ini sc ret post V n I J P pc ls st i len → V n I J P pc ls st) ∧
  ∀ (n : Nat) (I : zI) (J : zJ) (P : zP) (pc k : Nat) (ls st : List Value), V n I J P pc (ls.set k .null) st → V n I J P pc ls st
theorem zas_kill {base b k : Nat} {ls : List Value} : ∀ q ∈ zas base b (ls.set k .null), q ∈ zas base b ls := by
  intro q hq
  obtain ⟨v, h1, h2, h3⟩ := zas_inv hq
  obtain ⟨i, w⟩ := q
  simp only at h1 h3
  subst h3
  by_cases hk : i = k
  · subst hk
    have hl := (List.getElem?_eq_some_iff.mp h1).1
    rw [List.getElem?_set_self (by rw [List.length_set] at hl; exact hl)] at h1
    cases h1
    exact absurd rfl h2
  · rw [List.getElem?_set_ne (Ne.symm hk)] at h1
    exact zas_mem h1 h2
theorem zV_kill {K : zCx} {n : Nat} {I : zI} {J : zJ} {P : zP} {pc k : Nat} {ls st : List Value} (h : zV K n I J P pc (ls.set k .null) st) : zV K n I J P pc ls st := by
  obtain ⟨p, l, e, R, s, m, args, below, meth, c, Q, D, gA, base, b, n0, n1v, nL⟩ := K
  intro a1 a2 a3 H locs lsA hP hS hL
  exact h a1 a2 (by rw [List.length_set]; exact a3) H locs lsA hP hS (zhas_sub hL zas_kill)
/-- the returns are the frame's own business -/
def z_Rok (K : zCx) (cc : ByteArray) (ret : Option FieldType) (n1 : Nat) (post : Option Value → zI → zJ → zP → Prop) : Prop := ∀ (n : Nat) (I : zI) (J : zJ) (P : zP) (pc : Nat) (ls st : List Value) (i : Instr), decode cc pc = .ok (i, 1) → z_ret ret n1 post n I J P st i → zV K n I J P pc ls st
/-- THE SOUNDNESS: the machine's judgement is closed under every instruction of the abstract machine -/
theorem z_sound {K : zCx} {own : String} {cc : ByteArray} {d n1 : Nat} {ini : Bool} {sc : Option (Nat × (Nat → Int32))} {ret : Option FieldType} {post : Option Value → zI → zJ → zP → Prop} (C : zCtx K own cc d n1 ini sc) (hR : z_Rok K cc ret n1 post) : z_Cl own cc d n1 ini sc ret post (zV K) := by
  refine ⟨?_, fun n I J P pc k ls st h => zV_kill h⟩
  intro n I J P pc ls st i len hd hw
  cases i with
  | iadd =>
    obtain ⟨rfl, x, y, r, rfl, k⟩ := hw; exact zs_iadd C hd k
  | isub =>
    obtain ⟨rfl, x, y, r, rfl, k⟩ := hw; exact zs_isub C hd k
  | imul =>
    obtain ⟨rfl, x, y, r, rfl, k⟩ := hw; exact zs_imul C hd k
  | iand =>
    obtain ⟨rfl, x, y, r, rfl, k⟩ := hw; exact zs_iand C hd k
  | ior =>
    obtain ⟨rfl, x, y, r, rfl, k⟩ := hw; exact zs_ior C hd k
  | ixor =>
    obtain ⟨rfl, x, y, r, rfl, k⟩ := hw; exact zs_ixor C hd k
  | ishl =>
    obtain ⟨rfl, x, y, r, rfl, k⟩ := hw; exact zs_ishl C hd k
  | ishr =>
    obtain ⟨rfl, x, y, r, rfl, k⟩ := hw; exact zs_ishr C hd k
  | iushr =>
    obtain ⟨rfl, x, y, r, rfl, k⟩ := hw; exact zs_iushr C hd k
  | ladd =>
    obtain ⟨rfl, x, y, r, rfl, k⟩ := hw; exact zs_ladd C hd k
  | lsub =>
    obtain ⟨rfl, x, y, r, rfl, k⟩ := hw; exact zs_lsub C hd k
  | lmul =>
    obtain ⟨rfl, x, y, r, rfl, k⟩ := hw; exact zs_lmul C hd k
  | land =>
    obtain ⟨rfl, x, y, r, rfl, k⟩ := hw; exact zs_land C hd k
  | lor =>
    obtain ⟨rfl, x, y, r, rfl, k⟩ := hw; exact zs_lor C hd k
  | lxor =>
    obtain ⟨rfl, x, y, r, rfl, k⟩ := hw; exact zs_lxor C hd k
  | idiv =>
    obtain ⟨rfl, x, y, r, rfl, hne, k⟩ := hw; exact zs_idiv C hne hd k
  | irem =>
    obtain ⟨rfl, x, y, r, rfl, hne, k⟩ := hw; exact zs_irem C hne hd k
  | ldiv =>
    obtain ⟨rfl, x, y, r, rfl, hne, k⟩ := hw; exact zs_ldiv C hne hd k
  | lrem =>
    obtain ⟨rfl, x, y, r, rfl, hne, k⟩ := hw; exact zs_lrem C hne hd k
  | lshl =>
    obtain ⟨rfl, x, y, r, rfl, k⟩ := hw; exact zs_lshl C hd k
  | lshr =>
    obtain ⟨rfl, x, y, r, rfl, k⟩ := hw; exact zs_lshr C hd k
  | lushr =>
    obtain ⟨rfl, x, y, r, rfl, k⟩ := hw; exact zs_lushr C hd k
  | ineg =>
    obtain ⟨rfl, x, r, rfl, k⟩ := hw; exact zs_ineg C hd k
  | i2l =>
    obtain ⟨rfl, x, r, rfl, k⟩ := hw; exact zs_i2l C hd k
  | l2i =>
    obtain ⟨rfl, x, r, rfl, k⟩ := hw; exact zs_l2i C hd k
  | lcmp =>
    obtain ⟨rfl, x, y, r, rfl, k⟩ := hw; exact zs_lcmp C hd k
  | iconst v =>
    obtain ⟨rfl, k⟩ := hw; exact zs_iconst C hd k
  | bipush v =>
    obtain ⟨rfl, k⟩ := hw; exact zs_bipush C hd k
  | sipush v =>
    obtain ⟨rfl, k⟩ := hw; exact zs_sipush C hd k
  | lconst v =>
    obtain ⟨rfl, k⟩ := hw; exact zs_lconst C hd k
  | ldc v =>
    obtain ⟨rfl, x, h, k⟩ := hw; exact zs_ldc C h hd k
  | ldc_w v =>
    obtain ⟨rfl, x, h, k⟩ := hw; exact zs_ldcw C h hd k
  | ldc2_w v =>
    obtain ⟨rfl, x, h, k⟩ := hw; exact zs_ldc2 C h hd k
  | iload_n v =>
    obtain ⟨rfl, x, h, k⟩ := hw; exact zs_iload_n C h hd k
  | iload v =>
    obtain ⟨rfl, x, h, k⟩ := hw; exact zs_iload C h hd k
  | lload_n v =>
    obtain ⟨rfl, x, h, k⟩ := hw; exact zs_lload_n C h hd k
  | lload v =>
    obtain ⟨rfl, x, h, k⟩ := hw; exact zs_lload C h hd k
  | aload_n v =>
    obtain ⟨rfl, x, h, h2, k⟩ := hw; exact zs_aload_n C h h2 hd k
  | aload v =>
    obtain ⟨rfl, x, h, h2, k⟩ := hw; exact zs_aload C h h2 hd k
  | istore_n v =>
    obtain ⟨rfl, x, r, rfl, h, k⟩ := hw; exact zs_istore_n C h hd k
  | istore v =>
    obtain ⟨rfl, x, r, rfl, h, k⟩ := hw; exact zs_istore C h hd k
  | astore_n v =>
    obtain ⟨rfl, x, r, rfl, h, k⟩ := hw; exact zs_astore_n C h hd k
  | astore v =>
    obtain ⟨rfl, x, r, rfl, h, k⟩ := hw; exact zs_astore C h hd k
  | lstore_n v =>
    obtain ⟨rfl, x, r, rfl, h, k⟩ := hw; exact zs_lstore_n C h hd k
  | lstore v =>
    obtain ⟨rfl, x, r, rfl, h, k⟩ := hw; exact zs_lstore C h hd k
  | iinc v u =>
    obtain ⟨rfl, x, h, k⟩ := hw; exact zs_iinc C h hd k
  | dup =>
    obtain ⟨rfl, v, r, rfl, h, k⟩ := hw; exact zs_dup C h hd k
  | dup2 =>
    obtain ⟨rfl, v, u, r, rfl, h, h2, k⟩ := hw; exact zs_dup2 C h h2 hd k
  | goto o =>
    obtain ⟨rfl, t, ht, k⟩ := hw; exact zs_goto C ht hd k
  | if_icmp cd o =>
    obtain ⟨rfl, x, y, r, t, rfl, ht, k1, k2⟩ := hw; exact zs_icmp C ht hd k1 k2
  | ifCond cd o =>
    obtain ⟨rfl, x, r, t, rfl, ht, k1, k2⟩ := hw; exact zs_if C ht hd k1 k2
  | ifnonnull o =>
    obtain ⟨rfl, v, r, t, rfl, h, ht, k⟩ := hw; exact zs_ifnonnull C h ht hd k
  | tableswitch df lo hi offs =>
    obtain ⟨x, r, rfl, k1, k2⟩ := hw; exact zs_tsw C hd k1 k2
  | iaload =>
    obtain ⟨rfl, h⟩ := hw
    rcases h with ⟨q, k0, r, N, rfl, hq, hs, hi, k⟩ | ⟨f, k0, r, L, xs, rfl, hs, hi, k⟩
    · exact zs_iaload C hq hs hi hd k
    · exact zs_saload C hs hi hd k
  | arraylength =>
    obtain ⟨rfl, f, r, L, xs, rfl, hs, k⟩ := hw; exact zs_slen C hs hd k
  | baload =>
    obtain ⟨rfl, q, k0, r, N, rfl, hq, hs, hi, k⟩ := hw; exact zs_baload C hq hs hi hd k
  | laload =>
    obtain ⟨rfl, q, k0, r, N, rfl, hq, hs, hi, k⟩ := hw; exact zs_laload C hq hs hi hd k
  | aaload =>
    obtain ⟨rfl, q, k0, r, N, rfl, hq, hs, hi, k⟩ := hw; exact zs_aaload C hq hs hi hd k
  | iastore =>
    obtain ⟨rfl, q, k0, x, r, N, rfl, hq, hs, hi, k⟩ := hw; exact zs_iastore C hq hs hi hd k
  | bastore =>
    obtain ⟨rfl, q, k0, x, r, N, rfl, hq, hs, hi, k⟩ := hw; exact zs_bastore C hq hs hi hd k
  | lastore =>
    obtain ⟨rfl, q, k0, x, r, N, rfl, hq, hs, hi, k⟩ := hw; exact zs_lastore C hq hs hi hd k
  | aastore =>
    obtain ⟨rfl, q, v, k0, r, N, rfl, hq, hv, hs, hsv, hi, k⟩ := hw; exact zs_aastore C hq hv hs hsv hi hd k
  | getfield v =>
    obtain ⟨rfl, o, ci, k0, r, rfl, hf, ho, hs, k⟩ := hw; exact zs_getfield C hf ho hs hd k
  | putfield v =>
    obtain ⟨rfl, o, ci, k0, r, hf, hp, ho, hs, h⟩ := hw
    rcases h with ⟨x, rfl, hok, k⟩ | ⟨q, rfl, hok, k⟩
    · exact zs_putI C hf hp ho hs hok hd k
    · exact zs_putR C hf hp ho hs hok hd k
  | new v =>
    obtain ⟨rfl, ci, h0, h1, h2, h3, hs, hn, k⟩ := hw; exact zs_new C h0 h1 h2 h3 hs hn hd k
  | newarray v =>
    obtain ⟨rfl, x, N, r, rfl, h0, h1, hs, hx, hN, hb, hn, k⟩ := hw; exact zs_newarray C h0 h1 hs hx hN hb hn hd k
  | anewarray v =>
    obtain ⟨rfl, x, N, r, rfl, h1, hs, hx, hN, hb, hn, k⟩ := hw; exact zs_anewarray C h1 hs hx hN hb hn hd k
  | invokevirtual v =>
    obtain ⟨rfl, y, cy, mL, rt, na, d1, n2, o, ci, As, rest, post1, rfl, hm, h1, h2, h3, h4, h5, h6, h7, h8, h9, h10, h11, h12, k⟩ := hw; exact zs_invokevirtual C hm h1 h2 h3 h4 h5 h6 h7 h8 h9 h10 h11 h12 k hd
  | invokestatic v =>
    obtain ⟨rfl, h⟩ := hw
    rcases h with ⟨y, cy, mL, rt, na, d1, n2, As, rest, post1, rfl, hm, h1, h3, h8, h9, h10, h11, h12, k⟩ | ⟨x, y, r, rfl, h1, h2, h3, k⟩ | ⟨x, y, r, rfl, h1, h2, h3, k⟩ | ⟨x, r, rfl, h1, h2, h3, k⟩
    · exact zs_invokestatic C hm h1 h3 h8 h9 h10 h11 h12 k hd
    · exact zs_mmax C h1 h2 h3 hd k
    · exact zs_mmin C h1 h2 h3 hd k
    · exact zs_mabs C h1 h2 h3 hd k
  | invokespecial v =>
    obtain ⟨rfl, h⟩ := hw
    rcases h with ⟨o, rest, rfl, hl, h1, h2, k⟩ | ⟨y, cy, mL, na, d1, n2, o, As, rest, post1, rfl, hm, h1, h2, h3, h8, h9, h10, h11, h12, k⟩
    · exact zs_objinit C hl h1 h2 hd k
    · exact zs_invokeinit C hm h1 h2 h3 h8 h9 h10 h11 h12 k hd
  | _ => obtain ⟨rfl, h⟩ := hw; exact hR _ _ _ _ _ _ _ _ hd h
theorem z_met {y : MethodName} {cc : ByteArray} {maxL : Nat} {ret : Option FieldType} {d n n1 : Nat} {I : zI} {J : zJ} {P : zP} {args : List Value} {post : Option Value → zI → zJ → zP → Prop} (ini : Bool) (hy : plainName y.cls = true) (hini : ini = true → y.name = "<init>") (hex : (zex args).length ≤ maxL) (hn : n ≤ n1)
    (h : ∀ V : Nat → zI → zJ → zP → Nat → List Value → List Value → Prop, z_Cl y.cls cc d n1 ini none ret post V → V n I J P 0 (zin maxL args) []) : z_Sp d y cc maxL ret n n1 I J P args post := by
  refine ⟨hn, fun l D gA base b => ?_⟩
  refine Met.ofW (cc := cc) (maxL := maxL) (ret := ret) hy rfl ?_
  intro p e s m args' below meth c s₁ B hml hv
  obtain ⟨rfl, hP, hsz, hK, hnt, hao⟩ := hv
  have hx := B.exec
  have hb := B.bytes
  have hr := B.returns
  have hts := atoms_spec (ws := Cond.code y cc maxL ret :: z_good) B.pre
  have hown : s.vm.findClass y.cls = some m.cls := findClass_of_methodNamed B.named
  have hlocks := B.notSynchronized
  have hnm : meth.name = y.name := (name_of_methodNamed B.named B.method).1
  have hC : zCtx (p, l, e, (headSpec (Cond.code y cc maxL ret :: z_good) { frames := d, cells := n1 - n, slots := zsz n1 - zsz n, locals := 64 * d }).room, s, m, (args.map (zcv base b)).toArray, below, meth, c, MQ below (z_Qc D gA base b n1 post) (args.map (zcv base b)).toArray s (n1 - n) (zsz n1 - zsz n) (fun q => base ≤ q), D, gA, base, b, n, n1, maxL) y.cls cc d n1 ini none :=
    ⟨hx, hb, hml, hown, fun w hw => hts w (List.mem_cons_of_mem _ hw), hnt, hao, hK, hsz, rfl, ⟨Nat.le_refl _, Nat.le_refl _, Nat.le_refl _, Nat.le_refl _⟩, fun hi => by rw [hnm]; exact hini hi, fun L xs hc => by cases hc⟩
  have hR : z_Rok (p, l, e, (headSpec (Cond.code y cc maxL ret :: z_good) { frames := d, cells := n1 - n, slots := zsz n1 - zsz n, locals := 64 * d }).room, s, m, (args.map (zcv base b)).toArray, below, meth, c, MQ below (z_Qc D gA base b n1 post) (args.map (zcv base b)).toArray s (n1 - n) (zsz n1 - zsz n) (fun q => base ≤ q), D, gA, base, b, n, n1, maxL) cc ret n1 post := by
    intro n' I' J' P' pc ls st i hd hz a1 a2 a3 H locs lsA hP' hS hL
    unfold z_ret at hz
    split at hz
    · obtain ⟨x, ty, rfl, hty, hnar, rfl, hpost⟩ := hz
      exact W.zret hx hb (hr.trans hty) hnar (fun t ht hW => ⟨⟨some (.int x), I', J', P', rfl, hpost, by rw [ht]; exact hP'⟩, hS.F ht⟩) hS.2.2 hd
    · obtain ⟨x, rfl, hty, rfl, hpost⟩ := hz
      exact W.lret hx hb (hr.trans hty) (fun t ht hW => ⟨⟨some (.long x), I', J', P', rfl, hpost, by rw [ht]; exact hP'⟩, hS.F ht⟩) hS.2.2 hd
    · obtain ⟨rfl, hty, rfl, hpost⟩ := hz
      exact W.vret hx hb (hr.trans hty) (fun t ht hW => ⟨⟨none, I', J', P', rfl, hpost, by rw [ht]; exact hP'⟩, hS.F ht⟩) hS.2.2 hd
    · exact hz.elim
  have go := h _ (z_sound hC hR) (Nat.le_refl n) hn (zin_len hex) s.heap [] _ hP va_S.rf (zin_has (base := base) (b := b) hex)
  rw [lg_entry_eq]
  rw [Nat.sub_self, Nat.sub_self] at go
  exact go
