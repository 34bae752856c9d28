/-! INSTRUCTIONS AS BYTES: a method's code checked by its bytes in their order; decode itself, over a whole method, goes to each byte from the first one on -/

theorem xbd {α β : Type} {r : ClassFile.Decoder α} {f : α → ClassFile.Decoder β} {code : ByteArray} {p s : Nat} {v : α} (h : r code p = .ok (v, s)) : (r >>= f) code p = f v code s := by
  show Except.bind (r code p) _ = _
  rw [h]
  rfl
theorem xdr {code : ByteArray} {p : Nat} {b : UInt8} {r : List UInt8} (h : code.data.toList.drop p = b :: r) : code.data.toList.drop (p + 1) = r := by
  rw [← List.drop_drop, h]
  rfl
theorem xr1 {code : ByteArray} {p k : Nat} {b : UInt8} {r : List UInt8} (h : code.data.toList.drop p = b :: r) (hb : b.toNat = k) : (ClassFile.Reader.u1 : ClassFile.Decoder Nat) code p = .ok (k, p + 1) := by
  have hl : p < code.data.toList.length := by
    rcases Nat.lt_or_ge p code.data.toList.length with h1 | h1
    · exact h1
    · rw [List.drop_eq_nil_of_le h1] at h
      cases h
  have hs : p < code.size := by
    show p < code.data.size
    rw [← Array.length_toList]
    exact hl
  have hv : code[p].toNat = k := by
    have h2 : code.data.toList[p] = b := by
      have h3 := List.getElem_cons_drop hl
      rw [h] at h3
      exact (List.cons.inj h3).1
    rw [← hb, ← h2]
    rfl
  have e : (ClassFile.Reader.u1 : ClassFile.Decoder Nat) code p = (if h : p < code.size then .ok (code[p].toNat, p + 1) else .error (ClassFile.HasTruncated.truncated p)) := by
    unfold ClassFile.Reader.u1
    show (if h : p < code.size then _ else _ : ClassFile.Decoder Nat) code p = _
    split <;> rfl
  rw [e, dif_pos hs, hv]
theorem xr2 {code : ByteArray} {p k l : Nat} {b c : UInt8} {r : List UInt8} (h : code.data.toList.drop p = b :: c :: r) (hb : b.toNat = k) (hc : c.toNat = l) : (ClassFile.Reader.u2 : ClassFile.Decoder Nat) code p = .ok (k * 256 + l, p + 2) :=
  (xbd (xr1 h hb)).trans ((xbd (xr1 (xdr h) hc)).trans rfl)
theorem xs1r {code : ByteArray} {p k : Nat} {b : UInt8} {r : List UInt8} (h : code.data.toList.drop p = b :: r) (hb : b.toNat = k) : (ClassFile.Reader.s1 : ClassFile.Decoder Int) code p = .ok (ClassFile.Reader.signed 8 k, p + 1) := by
  show Except.map _ _ = _
  rw [xr1 h hb]
  rfl
theorem xs2r {code : ByteArray} {p k l : Nat} {b c : UInt8} {r : List UInt8} (h : code.data.toList.drop p = b :: c :: r) (hb : b.toNat = k) (hc : c.toNat = l) : (ClassFile.Reader.s2 : ClassFile.Decoder Int) code p = .ok (ClassFile.Reader.signed 16 (k * 256 + l), p + 2) := by
  show Except.map _ _ = _
  rw [xr2 h hb hc]
  rfl
theorem xdec {code : ByteArray} {pc n : Nat} {i : Instr} (h : ClassFile.Decoder.instr pc code pc = .ok (i, pc + n)) : decode code pc = .ok (i, n) := by
  unfold decode
  show Except.bind (ClassFile.Decoder.instr pc code pc) _ = _
  rw [h]
  show Except.ok (i, pc + n - pc) = _
  rw [Nat.add_sub_cancel_left]
theorem xsg8 {n : Int} (h1 : -128 ≤ n) (h2 : n < 128) : ClassFile.Reader.signed 8 (n % 256).toNat = n := by
  unfold ClassFile.Reader.signed
  split <;> simp at * <;> omega
theorem xsg16 {n : Int} (h1 : -32768 ≤ n) (h2 : n < 32768) : ClassFile.Reader.signed 16 ((n % 65536).toNat / 256 * 256 + (n % 65536).toNat % 256) = n := by
  rw [Nat.mul_comm, Nat.div_add_mod]
  unfold ClassFile.Reader.signed
  split <;> simp at * <;> omega
def xpre : List Nat → List UInt8 → Option (List UInt8)
  | [], r => some r
  | _ :: _, [] => none
  | k :: ks, b :: bs => match Nat.beq b.toNat k with
    | true => xpre ks bs
    | false => none
theorem xpre_c {k : Nat} {ks : List Nat} {l r : List UInt8} (h : xpre (k :: ks) l = some r) : ∃ b bs, l = b :: bs ∧ b.toNat = k ∧ xpre ks bs = some r := by
  match l, h with
  | b :: bs, h =>
    unfold xpre at h
    split at h
    · next e => exact ⟨b, bs, rfl, Nat.eq_of_beq_eq_true e, h⟩
    · cases h
theorem xpre_1 {k : Nat} {l r : List UInt8} (h : xpre [k] l = some r) : ∃ b, l = b :: r ∧ b.toNat = k := by
  obtain ⟨b, bs, h1, h2, h3⟩ := xpre_c h
  cases h3
  exact ⟨b, h1, h2⟩
theorem xpre_2 {k m : Nat} {l r : List UInt8} (h : xpre [k, m] l = some r) : ∃ b c, l = b :: c :: r ∧ b.toNat = k ∧ c.toNat = m := by
  obtain ⟨b, bs, h1, h2, h3⟩ := xpre_c h
  obtain ⟨c, h4, h5⟩ := xpre_1 h3
  exact ⟨b, c, by rw [h1, h4], h2, h5⟩
theorem xpre_3 {k m n : Nat} {l r : List UInt8} (h : xpre [k, m, n] l = some r) : ∃ b c d, l = b :: c :: d :: r ∧ b.toNat = k ∧ c.toNat = m ∧ d.toNat = n := by
  obtain ⟨b, bs, h1, h2, h3⟩ := xpre_c h
  obtain ⟨c, d, h4, h5, h6⟩ := xpre_2 h3
  exact ⟨b, c, d, by rw [h1, h4], h2, h5, h6⟩
def xcx (c : ClassFile.Cond) : Nat := match c with
  | .eq => 0 | .ne => 1 | .lt => 2 | .ge => 3 | .gt => 4 | .le => 5
def xal (t : ArrayType) : Nat := match t with
  | .boolean => 4 | .char => 5 | .float => 6 | .double => 7 | .byte => 8 | .short => 9 | .int => 10 | .long => 11
def xu2e (k n : Nat) : List Nat := [k, n / 256, n % 256]
def xs2e (k : Nat) (n : Int) : List Nat := match decide (-32768 ≤ n) && decide (n < 32768) with
  | true => [k, (n % 65536).toNat / 256, (n % 65536).toNat % 256]
  | false => []
def xs1e (k : List Nat) (n : Int) : List Nat := match decide (-128 ≤ n) && decide (n < 128) with
  | true => k ++ [(n % 256).toNat]
  | false => []
def xice (n : Int) : List Nat := match decide (-1 ≤ n) && decide (n ≤ 5) with
  | true => [(n + 3).toNat]
  | false => []
/-- the bytes of an instruction; none for switches (and what isn't used) -/
def xenc (i : Instr) : List Nat := match i with
  | .iaload => [46]
  | .laload => [47]
  | .aaload => [50]
  | .baload => [51]
  | .caload => [52]
  | .iastore => [79]
  | .lastore => [80]
  | .aastore => [83]
  | .bastore => [84]
  | .castore => [85]
  | .pop => [87]
  | .pop2 => [88]
  | .dup => [89]
  | .dup2 => [92]
  | .iadd => [96]
  | .ladd => [97]
  | .isub => [100]
  | .lsub => [101]
  | .imul => [104]
  | .lmul => [105]
  | .idiv => [108]
  | .ldiv => [109]
  | .irem => [112]
  | .lrem => [113]
  | .ineg => [116]
  | .lneg => [117]
  | .ishl => [120]
  | .lshl => [121]
  | .ishr => [122]
  | .lshr => [123]
  | .iushr => [124]
  | .lushr => [125]
  | .iand => [126]
  | .land => [127]
  | .ior => [128]
  | .lor => [129]
  | .ixor => [130]
  | .lxor => [131]
  | .i2l => [133]
  | .l2i => [136]
  | .i2b => [145]
  | .i2c => [146]
  | .i2s => [147]
  | .lcmp => [148]
  | .ireturn => [172]
  | .lreturn => [173]
  | .areturn => [176]
  | .return_ => [177]
  | .arraylength => [190]
  | .ldc n => [18, n]
  | .iload n => [21, n]
  | .lload n => [22, n]
  | .aload n => [25, n]
  | .istore n => [54, n]
  | .lstore n => [55, n]
  | .astore n => [58, n]
  | .ldc_w n => xu2e 19 n
  | .ldc2_w n => xu2e 20 n
  | .getstatic n => xu2e 178 n
  | .getfield n => xu2e 180 n
  | .putfield n => xu2e 181 n
  | .invokevirtual n => xu2e 182 n
  | .invokespecial n => xu2e 183 n
  | .invokestatic n => xu2e 184 n
  | .new n => xu2e 187 n
  | .anewarray n => xu2e 189 n
  | .sipush n => xs2e 17 n
  | .goto n => xs2e 167 n
  | .ifnull n => xs2e 198 n
  | .ifnonnull n => xs2e 199 n
  | .iload_n n => [26 + n.val]
  | .lload_n n => [30 + n.val]
  | .aload_n n => [42 + n.val]
  | .istore_n n => [59 + n.val]
  | .lstore_n n => [63 + n.val]
  | .astore_n n => [75 + n.val]
  | .iconst n => xice n
  | .lconst n => [9 + n.val]
  | .bipush n => xs1e [16] n
  | .iinc k n => xs1e [132, k] n
  | .ifCond c n => xs2e (153 + xcx c) n
  | .if_icmp c n => xs2e (159 + xcx c) n
  | .newarray t => [188, xal t]
  | _ => []
section XFA
variable {code : ByteArray} {pc : Nat} {b c d : UInt8} {r : List UInt8}
theorem xe_iaload (h : code.data.toList.drop pc = b :: r) (hb : b.toNat = 46) : decode code pc = .ok (.iaload, 1) := xdec ((xbd (xr1 h hb)).trans rfl)
theorem xe_laload (h : code.data.toList.drop pc = b :: r) (hb : b.toNat = 47) : decode code pc = .ok (.laload, 1) := xdec ((xbd (xr1 h hb)).trans rfl)
theorem xe_aaload (h : code.data.toList.drop pc = b :: r) (hb : b.toNat = 50) : decode code pc = .ok (.aaload, 1) := xdec ((xbd (xr1 h hb)).trans rfl)
theorem xe_baload (h : code.data.toList.drop pc = b :: r) (hb : b.toNat = 51) : decode code pc = .ok (.baload, 1) := xdec ((xbd (xr1 h hb)).trans rfl)
theorem xe_caload (h : code.data.toList.drop pc = b :: r) (hb : b.toNat = 52) : decode code pc = .ok (.caload, 1) := xdec ((xbd (xr1 h hb)).trans rfl)
theorem xe_iastore (h : code.data.toList.drop pc = b :: r) (hb : b.toNat = 79) : decode code pc = .ok (.iastore, 1) := xdec ((xbd (xr1 h hb)).trans rfl)
theorem xe_lastore (h : code.data.toList.drop pc = b :: r) (hb : b.toNat = 80) : decode code pc = .ok (.lastore, 1) := xdec ((xbd (xr1 h hb)).trans rfl)
theorem xe_aastore (h : code.data.toList.drop pc = b :: r) (hb : b.toNat = 83) : decode code pc = .ok (.aastore, 1) := xdec ((xbd (xr1 h hb)).trans rfl)
theorem xe_bastore (h : code.data.toList.drop pc = b :: r) (hb : b.toNat = 84) : decode code pc = .ok (.bastore, 1) := xdec ((xbd (xr1 h hb)).trans rfl)
theorem xe_castore (h : code.data.toList.drop pc = b :: r) (hb : b.toNat = 85) : decode code pc = .ok (.castore, 1) := xdec ((xbd (xr1 h hb)).trans rfl)
theorem xe_pop (h : code.data.toList.drop pc = b :: r) (hb : b.toNat = 87) : decode code pc = .ok (.pop, 1) := xdec ((xbd (xr1 h hb)).trans rfl)
theorem xe_pop2 (h : code.data.toList.drop pc = b :: r) (hb : b.toNat = 88) : decode code pc = .ok (.pop2, 1) := xdec ((xbd (xr1 h hb)).trans rfl)
theorem xe_dup (h : code.data.toList.drop pc = b :: r) (hb : b.toNat = 89) : decode code pc = .ok (.dup, 1) := xdec ((xbd (xr1 h hb)).trans rfl)
theorem xe_dup2 (h : code.data.toList.drop pc = b :: r) (hb : b.toNat = 92) : decode code pc = .ok (.dup2, 1) := xdec ((xbd (xr1 h hb)).trans rfl)
theorem xe_iadd (h : code.data.toList.drop pc = b :: r) (hb : b.toNat = 96) : decode code pc = .ok (.iadd, 1) := xdec ((xbd (xr1 h hb)).trans rfl)
theorem xe_ladd (h : code.data.toList.drop pc = b :: r) (hb : b.toNat = 97) : decode code pc = .ok (.ladd, 1) := xdec ((xbd (xr1 h hb)).trans rfl)
theorem xe_isub (h : code.data.toList.drop pc = b :: r) (hb : b.toNat = 100) : decode code pc = .ok (.isub, 1) := xdec ((xbd (xr1 h hb)).trans rfl)
theorem xe_lsub (h : code.data.toList.drop pc = b :: r) (hb : b.toNat = 101) : decode code pc = .ok (.lsub, 1) := xdec ((xbd (xr1 h hb)).trans rfl)
theorem xe_imul (h : code.data.toList.drop pc = b :: r) (hb : b.toNat = 104) : decode code pc = .ok (.imul, 1) := xdec ((xbd (xr1 h hb)).trans rfl)
theorem xe_lmul (h : code.data.toList.drop pc = b :: r) (hb : b.toNat = 105) : decode code pc = .ok (.lmul, 1) := xdec ((xbd (xr1 h hb)).trans rfl)
theorem xe_idiv (h : code.data.toList.drop pc = b :: r) (hb : b.toNat = 108) : decode code pc = .ok (.idiv, 1) := xdec ((xbd (xr1 h hb)).trans rfl)
theorem xe_ldiv (h : code.data.toList.drop pc = b :: r) (hb : b.toNat = 109) : decode code pc = .ok (.ldiv, 1) := xdec ((xbd (xr1 h hb)).trans rfl)
theorem xe_irem (h : code.data.toList.drop pc = b :: r) (hb : b.toNat = 112) : decode code pc = .ok (.irem, 1) := xdec ((xbd (xr1 h hb)).trans rfl)
theorem xe_lrem (h : code.data.toList.drop pc = b :: r) (hb : b.toNat = 113) : decode code pc = .ok (.lrem, 1) := xdec ((xbd (xr1 h hb)).trans rfl)
theorem xe_ineg (h : code.data.toList.drop pc = b :: r) (hb : b.toNat = 116) : decode code pc = .ok (.ineg, 1) := xdec ((xbd (xr1 h hb)).trans rfl)
theorem xe_lneg (h : code.data.toList.drop pc = b :: r) (hb : b.toNat = 117) : decode code pc = .ok (.lneg, 1) := xdec ((xbd (xr1 h hb)).trans rfl)
theorem xe_ishl (h : code.data.toList.drop pc = b :: r) (hb : b.toNat = 120) : decode code pc = .ok (.ishl, 1) := xdec ((xbd (xr1 h hb)).trans rfl)
theorem xe_lshl (h : code.data.toList.drop pc = b :: r) (hb : b.toNat = 121) : decode code pc = .ok (.lshl, 1) := xdec ((xbd (xr1 h hb)).trans rfl)
theorem xe_ishr (h : code.data.toList.drop pc = b :: r) (hb : b.toNat = 122) : decode code pc = .ok (.ishr, 1) := xdec ((xbd (xr1 h hb)).trans rfl)
theorem xe_lshr (h : code.data.toList.drop pc = b :: r) (hb : b.toNat = 123) : decode code pc = .ok (.lshr, 1) := xdec ((xbd (xr1 h hb)).trans rfl)
theorem xe_iushr (h : code.data.toList.drop pc = b :: r) (hb : b.toNat = 124) : decode code pc = .ok (.iushr, 1) := xdec ((xbd (xr1 h hb)).trans rfl)
theorem xe_lushr (h : code.data.toList.drop pc = b :: r) (hb : b.toNat = 125) : decode code pc = .ok (.lushr, 1) := xdec ((xbd (xr1 h hb)).trans rfl)
theorem xe_iand (h : code.data.toList.drop pc = b :: r) (hb : b.toNat = 126) : decode code pc = .ok (.iand, 1) := xdec ((xbd (xr1 h hb)).trans rfl)
theorem xe_land (h : code.data.toList.drop pc = b :: r) (hb : b.toNat = 127) : decode code pc = .ok (.land, 1) := xdec ((xbd (xr1 h hb)).trans rfl)
theorem xe_ior (h : code.data.toList.drop pc = b :: r) (hb : b.toNat = 128) : decode code pc = .ok (.ior, 1) := xdec ((xbd (xr1 h hb)).trans rfl)
theorem xe_lor (h : code.data.toList.drop pc = b :: r) (hb : b.toNat = 129) : decode code pc = .ok (.lor, 1) := xdec ((xbd (xr1 h hb)).trans rfl)
theorem xe_ixor (h : code.data.toList.drop pc = b :: r) (hb : b.toNat = 130) : decode code pc = .ok (.ixor, 1) := xdec ((xbd (xr1 h hb)).trans rfl)
theorem xe_lxor (h : code.data.toList.drop pc = b :: r) (hb : b.toNat = 131) : decode code pc = .ok (.lxor, 1) := xdec ((xbd (xr1 h hb)).trans rfl)
theorem xe_i2l (h : code.data.toList.drop pc = b :: r) (hb : b.toNat = 133) : decode code pc = .ok (.i2l, 1) := xdec ((xbd (xr1 h hb)).trans rfl)
theorem xe_l2i (h : code.data.toList.drop pc = b :: r) (hb : b.toNat = 136) : decode code pc = .ok (.l2i, 1) := xdec ((xbd (xr1 h hb)).trans rfl)
theorem xe_i2b (h : code.data.toList.drop pc = b :: r) (hb : b.toNat = 145) : decode code pc = .ok (.i2b, 1) := xdec ((xbd (xr1 h hb)).trans rfl)
theorem xe_i2c (h : code.data.toList.drop pc = b :: r) (hb : b.toNat = 146) : decode code pc = .ok (.i2c, 1) := xdec ((xbd (xr1 h hb)).trans rfl)
theorem xe_i2s (h : code.data.toList.drop pc = b :: r) (hb : b.toNat = 147) : decode code pc = .ok (.i2s, 1) := xdec ((xbd (xr1 h hb)).trans rfl)
theorem xe_lcmp (h : code.data.toList.drop pc = b :: r) (hb : b.toNat = 148) : decode code pc = .ok (.lcmp, 1) := xdec ((xbd (xr1 h hb)).trans rfl)
theorem xe_ireturn (h : code.data.toList.drop pc = b :: r) (hb : b.toNat = 172) : decode code pc = .ok (.ireturn, 1) := xdec ((xbd (xr1 h hb)).trans rfl)
theorem xe_lreturn (h : code.data.toList.drop pc = b :: r) (hb : b.toNat = 173) : decode code pc = .ok (.lreturn, 1) := xdec ((xbd (xr1 h hb)).trans rfl)
theorem xe_areturn (h : code.data.toList.drop pc = b :: r) (hb : b.toNat = 176) : decode code pc = .ok (.areturn, 1) := xdec ((xbd (xr1 h hb)).trans rfl)
theorem xe_return_ (h : code.data.toList.drop pc = b :: r) (hb : b.toNat = 177) : decode code pc = .ok (.return_, 1) := xdec ((xbd (xr1 h hb)).trans rfl)
theorem xe_arraylength (h : code.data.toList.drop pc = b :: r) (hb : b.toNat = 190) : decode code pc = .ok (.arraylength, 1) := xdec ((xbd (xr1 h hb)).trans rfl)
theorem xe_ldc (h : code.data.toList.drop pc = b :: c :: r) (hb : b.toNat = 18) : decode code pc = .ok (.ldc c.toNat, 2) := xdec ((xbd (xr1 h hb)).trans ((xbd (xr1 (xdr h) rfl)).trans rfl))
theorem xe_iload (h : code.data.toList.drop pc = b :: c :: r) (hb : b.toNat = 21) : decode code pc = .ok (.iload c.toNat, 2) := xdec ((xbd (xr1 h hb)).trans ((xbd (xr1 (xdr h) rfl)).trans rfl))
theorem xe_lload (h : code.data.toList.drop pc = b :: c :: r) (hb : b.toNat = 22) : decode code pc = .ok (.lload c.toNat, 2) := xdec ((xbd (xr1 h hb)).trans ((xbd (xr1 (xdr h) rfl)).trans rfl))
theorem xe_aload (h : code.data.toList.drop pc = b :: c :: r) (hb : b.toNat = 25) : decode code pc = .ok (.aload c.toNat, 2) := xdec ((xbd (xr1 h hb)).trans ((xbd (xr1 (xdr h) rfl)).trans rfl))
theorem xe_istore (h : code.data.toList.drop pc = b :: c :: r) (hb : b.toNat = 54) : decode code pc = .ok (.istore c.toNat, 2) := xdec ((xbd (xr1 h hb)).trans ((xbd (xr1 (xdr h) rfl)).trans rfl))
theorem xe_lstore (h : code.data.toList.drop pc = b :: c :: r) (hb : b.toNat = 55) : decode code pc = .ok (.lstore c.toNat, 2) := xdec ((xbd (xr1 h hb)).trans ((xbd (xr1 (xdr h) rfl)).trans rfl))
theorem xe_astore (h : code.data.toList.drop pc = b :: c :: r) (hb : b.toNat = 58) : decode code pc = .ok (.astore c.toNat, 2) := xdec ((xbd (xr1 h hb)).trans ((xbd (xr1 (xdr h) rfl)).trans rfl))
theorem xe_ldc_w (h : code.data.toList.drop pc = b :: c :: d :: r) (hb : b.toNat = 19) : decode code pc = .ok (.ldc_w (c.toNat * 256 + d.toNat), 3) := xdec ((xbd (xr1 h hb)).trans ((xbd (xr2 (xdr h) rfl rfl)).trans rfl))
theorem xe_ldc2_w (h : code.data.toList.drop pc = b :: c :: d :: r) (hb : b.toNat = 20) : decode code pc = .ok (.ldc2_w (c.toNat * 256 + d.toNat), 3) := xdec ((xbd (xr1 h hb)).trans ((xbd (xr2 (xdr h) rfl rfl)).trans rfl))
theorem xe_getstatic (h : code.data.toList.drop pc = b :: c :: d :: r) (hb : b.toNat = 178) : decode code pc = .ok (.getstatic (c.toNat * 256 + d.toNat), 3) := xdec ((xbd (xr1 h hb)).trans ((xbd (xr2 (xdr h) rfl rfl)).trans rfl))
theorem xe_getfield (h : code.data.toList.drop pc = b :: c :: d :: r) (hb : b.toNat = 180) : decode code pc = .ok (.getfield (c.toNat * 256 + d.toNat), 3) := xdec ((xbd (xr1 h hb)).trans ((xbd (xr2 (xdr h) rfl rfl)).trans rfl))
theorem xe_putfield (h : code.data.toList.drop pc = b :: c :: d :: r) (hb : b.toNat = 181) : decode code pc = .ok (.putfield (c.toNat * 256 + d.toNat), 3) := xdec ((xbd (xr1 h hb)).trans ((xbd (xr2 (xdr h) rfl rfl)).trans rfl))
theorem xe_invokevirtual (h : code.data.toList.drop pc = b :: c :: d :: r) (hb : b.toNat = 182) : decode code pc = .ok (.invokevirtual (c.toNat * 256 + d.toNat), 3) := xdec ((xbd (xr1 h hb)).trans ((xbd (xr2 (xdr h) rfl rfl)).trans rfl))
theorem xe_invokespecial (h : code.data.toList.drop pc = b :: c :: d :: r) (hb : b.toNat = 183) : decode code pc = .ok (.invokespecial (c.toNat * 256 + d.toNat), 3) := xdec ((xbd (xr1 h hb)).trans ((xbd (xr2 (xdr h) rfl rfl)).trans rfl))
theorem xe_invokestatic (h : code.data.toList.drop pc = b :: c :: d :: r) (hb : b.toNat = 184) : decode code pc = .ok (.invokestatic (c.toNat * 256 + d.toNat), 3) := xdec ((xbd (xr1 h hb)).trans ((xbd (xr2 (xdr h) rfl rfl)).trans rfl))
theorem xe_new (h : code.data.toList.drop pc = b :: c :: d :: r) (hb : b.toNat = 187) : decode code pc = .ok (.new (c.toNat * 256 + d.toNat), 3) := xdec ((xbd (xr1 h hb)).trans ((xbd (xr2 (xdr h) rfl rfl)).trans rfl))
theorem xe_anewarray (h : code.data.toList.drop pc = b :: c :: d :: r) (hb : b.toNat = 189) : decode code pc = .ok (.anewarray (c.toNat * 256 + d.toNat), 3) := xdec ((xbd (xr1 h hb)).trans ((xbd (xr2 (xdr h) rfl rfl)).trans rfl))
theorem xe_sipush (h : code.data.toList.drop pc = b :: c :: d :: r) (hb : b.toNat = 17) : decode code pc = .ok (.sipush (ClassFile.Reader.signed 16 (c.toNat * 256 + d.toNat)), 3) := xdec ((xbd (xr1 h hb)).trans ((xbd (xs2r (xdr h) rfl rfl)).trans rfl))
theorem xe_goto (h : code.data.toList.drop pc = b :: c :: d :: r) (hb : b.toNat = 167) : decode code pc = .ok (.goto (ClassFile.Reader.signed 16 (c.toNat * 256 + d.toNat)), 3) := xdec ((xbd (xr1 h hb)).trans ((xbd (xs2r (xdr h) rfl rfl)).trans rfl))
theorem xe_ifnull (h : code.data.toList.drop pc = b :: c :: d :: r) (hb : b.toNat = 198) : decode code pc = .ok (.ifnull (ClassFile.Reader.signed 16 (c.toNat * 256 + d.toNat)), 3) := xdec ((xbd (xr1 h hb)).trans ((xbd (xs2r (xdr h) rfl rfl)).trans rfl))
theorem xe_ifnonnull (h : code.data.toList.drop pc = b :: c :: d :: r) (hb : b.toNat = 199) : decode code pc = .ok (.ifnonnull (ClassFile.Reader.signed 16 (c.toNat * 256 + d.toNat)), 3) := xdec ((xbd (xr1 h hb)).trans ((xbd (xs2r (xdr h) rfl rfl)).trans rfl))
theorem xe_iload_n0 (h : code.data.toList.drop pc = b :: r) (hb : b.toNat = 26) : decode code pc = .ok (.iload_n 0, 1) := xdec ((xbd (xr1 h hb)).trans rfl)
theorem xe_iload_n1 (h : code.data.toList.drop pc = b :: r) (hb : b.toNat = 27) : decode code pc = .ok (.iload_n 1, 1) := xdec ((xbd (xr1 h hb)).trans rfl)
theorem xe_iload_n2 (h : code.data.toList.drop pc = b :: r) (hb : b.toNat = 28) : decode code pc = .ok (.iload_n 2, 1) := xdec ((xbd (xr1 h hb)).trans rfl)
theorem xe_iload_n3 (h : code.data.toList.drop pc = b :: r) (hb : b.toNat = 29) : decode code pc = .ok (.iload_n 3, 1) := xdec ((xbd (xr1 h hb)).trans rfl)
theorem xe_lload_n0 (h : code.data.toList.drop pc = b :: r) (hb : b.toNat = 30) : decode code pc = .ok (.lload_n 0, 1) := xdec ((xbd (xr1 h hb)).trans rfl)
theorem xe_lload_n1 (h : code.data.toList.drop pc = b :: r) (hb : b.toNat = 31) : decode code pc = .ok (.lload_n 1, 1) := xdec ((xbd (xr1 h hb)).trans rfl)
theorem xe_lload_n2 (h : code.data.toList.drop pc = b :: r) (hb : b.toNat = 32) : decode code pc = .ok (.lload_n 2, 1) := xdec ((xbd (xr1 h hb)).trans rfl)
theorem xe_lload_n3 (h : code.data.toList.drop pc = b :: r) (hb : b.toNat = 33) : decode code pc = .ok (.lload_n 3, 1) := xdec ((xbd (xr1 h hb)).trans rfl)
theorem xe_aload_n0 (h : code.data.toList.drop pc = b :: r) (hb : b.toNat = 42) : decode code pc = .ok (.aload_n 0, 1) := xdec ((xbd (xr1 h hb)).trans rfl)
theorem xe_aload_n1 (h : code.data.toList.drop pc = b :: r) (hb : b.toNat = 43) : decode code pc = .ok (.aload_n 1, 1) := xdec ((xbd (xr1 h hb)).trans rfl)
theorem xe_aload_n2 (h : code.data.toList.drop pc = b :: r) (hb : b.toNat = 44) : decode code pc = .ok (.aload_n 2, 1) := xdec ((xbd (xr1 h hb)).trans rfl)
theorem xe_aload_n3 (h : code.data.toList.drop pc = b :: r) (hb : b.toNat = 45) : decode code pc = .ok (.aload_n 3, 1) := xdec ((xbd (xr1 h hb)).trans rfl)
theorem xe_istore_n0 (h : code.data.toList.drop pc = b :: r) (hb : b.toNat = 59) : decode code pc = .ok (.istore_n 0, 1) := xdec ((xbd (xr1 h hb)).trans rfl)
theorem xe_istore_n1 (h : code.data.toList.drop pc = b :: r) (hb : b.toNat = 60) : decode code pc = .ok (.istore_n 1, 1) := xdec ((xbd (xr1 h hb)).trans rfl)
theorem xe_istore_n2 (h : code.data.toList.drop pc = b :: r) (hb : b.toNat = 61) : decode code pc = .ok (.istore_n 2, 1) := xdec ((xbd (xr1 h hb)).trans rfl)
theorem xe_istore_n3 (h : code.data.toList.drop pc = b :: r) (hb : b.toNat = 62) : decode code pc = .ok (.istore_n 3, 1) := xdec ((xbd (xr1 h hb)).trans rfl)
theorem xe_lstore_n0 (h : code.data.toList.drop pc = b :: r) (hb : b.toNat = 63) : decode code pc = .ok (.lstore_n 0, 1) := xdec ((xbd (xr1 h hb)).trans rfl)
theorem xe_lstore_n1 (h : code.data.toList.drop pc = b :: r) (hb : b.toNat = 64) : decode code pc = .ok (.lstore_n 1, 1) := xdec ((xbd (xr1 h hb)).trans rfl)
theorem xe_lstore_n2 (h : code.data.toList.drop pc = b :: r) (hb : b.toNat = 65) : decode code pc = .ok (.lstore_n 2, 1) := xdec ((xbd (xr1 h hb)).trans rfl)
theorem xe_lstore_n3 (h : code.data.toList.drop pc = b :: r) (hb : b.toNat = 66) : decode code pc = .ok (.lstore_n 3, 1) := xdec ((xbd (xr1 h hb)).trans rfl)
theorem xe_astore_n0 (h : code.data.toList.drop pc = b :: r) (hb : b.toNat = 75) : decode code pc = .ok (.astore_n 0, 1) := xdec ((xbd (xr1 h hb)).trans rfl)
theorem xe_astore_n1 (h : code.data.toList.drop pc = b :: r) (hb : b.toNat = 76) : decode code pc = .ok (.astore_n 1, 1) := xdec ((xbd (xr1 h hb)).trans rfl)
theorem xe_astore_n2 (h : code.data.toList.drop pc = b :: r) (hb : b.toNat = 77) : decode code pc = .ok (.astore_n 2, 1) := xdec ((xbd (xr1 h hb)).trans rfl)
theorem xe_astore_n3 (h : code.data.toList.drop pc = b :: r) (hb : b.toNat = 78) : decode code pc = .ok (.astore_n 3, 1) := xdec ((xbd (xr1 h hb)).trans rfl)
theorem xe_iconstm1 (h : code.data.toList.drop pc = b :: r) (hb : b.toNat = 2) : decode code pc = .ok (.iconst (-1), 1) := xdec ((xbd (xr1 h hb)).trans rfl)
theorem xe_iconst0 (h : code.data.toList.drop pc = b :: r) (hb : b.toNat = 3) : decode code pc = .ok (.iconst (0), 1) := xdec ((xbd (xr1 h hb)).trans rfl)
theorem xe_iconst1 (h : code.data.toList.drop pc = b :: r) (hb : b.toNat = 4) : decode code pc = .ok (.iconst (1), 1) := xdec ((xbd (xr1 h hb)).trans rfl)
theorem xe_iconst2 (h : code.data.toList.drop pc = b :: r) (hb : b.toNat = 5) : decode code pc = .ok (.iconst (2), 1) := xdec ((xbd (xr1 h hb)).trans rfl)
theorem xe_iconst3 (h : code.data.toList.drop pc = b :: r) (hb : b.toNat = 6) : decode code pc = .ok (.iconst (3), 1) := xdec ((xbd (xr1 h hb)).trans rfl)
theorem xe_iconst4 (h : code.data.toList.drop pc = b :: r) (hb : b.toNat = 7) : decode code pc = .ok (.iconst (4), 1) := xdec ((xbd (xr1 h hb)).trans rfl)
theorem xe_iconst5 (h : code.data.toList.drop pc = b :: r) (hb : b.toNat = 8) : decode code pc = .ok (.iconst (5), 1) := xdec ((xbd (xr1 h hb)).trans rfl)
theorem xe_lconst0 (h : code.data.toList.drop pc = b :: r) (hb : b.toNat = 9) : decode code pc = .ok (.lconst 0, 1) := xdec ((xbd (xr1 h hb)).trans rfl)
theorem xe_lconst1 (h : code.data.toList.drop pc = b :: r) (hb : b.toNat = 10) : decode code pc = .ok (.lconst 1, 1) := xdec ((xbd (xr1 h hb)).trans rfl)
theorem xe_bipush (h : code.data.toList.drop pc = b :: c :: r) (hb : b.toNat = 16) : decode code pc = .ok (.bipush (ClassFile.Reader.signed 8 c.toNat), 2) := xdec ((xbd (xr1 h hb)).trans ((xbd (xs1r (xdr h) rfl)).trans rfl))
theorem xe_iinc (h : code.data.toList.drop pc = b :: c :: d :: r) (hb : b.toNat = 132) : decode code pc = .ok (.iinc c.toNat (ClassFile.Reader.signed 8 d.toNat), 3) := xdec ((xbd (xr1 h hb)).trans ((xbd (xr1 (xdr h) rfl)).trans ((xbd (xs1r (xdr (xdr h)) rfl)).trans rfl)))
theorem xe_ifCond_eq (h : code.data.toList.drop pc = b :: c :: d :: r) (hb : b.toNat = 153) : decode code pc = .ok (.ifCond .eq (ClassFile.Reader.signed 16 (c.toNat * 256 + d.toNat)), 3) := xdec ((xbd (xr1 h hb)).trans ((xbd (xs2r (xdr h) rfl rfl)).trans rfl))
theorem xe_if_icmp_eq (h : code.data.toList.drop pc = b :: c :: d :: r) (hb : b.toNat = 159) : decode code pc = .ok (.if_icmp .eq (ClassFile.Reader.signed 16 (c.toNat * 256 + d.toNat)), 3) := xdec ((xbd (xr1 h hb)).trans ((xbd (xs2r (xdr h) rfl rfl)).trans rfl))
theorem xe_ifCond_ne (h : code.data.toList.drop pc = b :: c :: d :: r) (hb : b.toNat = 154) : decode code pc = .ok (.ifCond .ne (ClassFile.Reader.signed 16 (c.toNat * 256 + d.toNat)), 3) := xdec ((xbd (xr1 h hb)).trans ((xbd (xs2r (xdr h) rfl rfl)).trans rfl))
theorem xe_if_icmp_ne (h : code.data.toList.drop pc = b :: c :: d :: r) (hb : b.toNat = 160) : decode code pc = .ok (.if_icmp .ne (ClassFile.Reader.signed 16 (c.toNat * 256 + d.toNat)), 3) := xdec ((xbd (xr1 h hb)).trans ((xbd (xs2r (xdr h) rfl rfl)).trans rfl))
theorem xe_ifCond_lt (h : code.data.toList.drop pc = b :: c :: d :: r) (hb : b.toNat = 155) : decode code pc = .ok (.ifCond .lt (ClassFile.Reader.signed 16 (c.toNat * 256 + d.toNat)), 3) := xdec ((xbd (xr1 h hb)).trans ((xbd (xs2r (xdr h) rfl rfl)).trans rfl))
theorem xe_if_icmp_lt (h : code.data.toList.drop pc = b :: c :: d :: r) (hb : b.toNat = 161) : decode code pc = .ok (.if_icmp .lt (ClassFile.Reader.signed 16 (c.toNat * 256 + d.toNat)), 3) := xdec ((xbd (xr1 h hb)).trans ((xbd (xs2r (xdr h) rfl rfl)).trans rfl))
theorem xe_ifCond_ge (h : code.data.toList.drop pc = b :: c :: d :: r) (hb : b.toNat = 156) : decode code pc = .ok (.ifCond .ge (ClassFile.Reader.signed 16 (c.toNat * 256 + d.toNat)), 3) := xdec ((xbd (xr1 h hb)).trans ((xbd (xs2r (xdr h) rfl rfl)).trans rfl))
theorem xe_if_icmp_ge (h : code.data.toList.drop pc = b :: c :: d :: r) (hb : b.toNat = 162) : decode code pc = .ok (.if_icmp .ge (ClassFile.Reader.signed 16 (c.toNat * 256 + d.toNat)), 3) := xdec ((xbd (xr1 h hb)).trans ((xbd (xs2r (xdr h) rfl rfl)).trans rfl))
theorem xe_ifCond_gt (h : code.data.toList.drop pc = b :: c :: d :: r) (hb : b.toNat = 157) : decode code pc = .ok (.ifCond .gt (ClassFile.Reader.signed 16 (c.toNat * 256 + d.toNat)), 3) := xdec ((xbd (xr1 h hb)).trans ((xbd (xs2r (xdr h) rfl rfl)).trans rfl))
theorem xe_if_icmp_gt (h : code.data.toList.drop pc = b :: c :: d :: r) (hb : b.toNat = 163) : decode code pc = .ok (.if_icmp .gt (ClassFile.Reader.signed 16 (c.toNat * 256 + d.toNat)), 3) := xdec ((xbd (xr1 h hb)).trans ((xbd (xs2r (xdr h) rfl rfl)).trans rfl))
theorem xe_ifCond_le (h : code.data.toList.drop pc = b :: c :: d :: r) (hb : b.toNat = 158) : decode code pc = .ok (.ifCond .le (ClassFile.Reader.signed 16 (c.toNat * 256 + d.toNat)), 3) := xdec ((xbd (xr1 h hb)).trans ((xbd (xs2r (xdr h) rfl rfl)).trans rfl))
theorem xe_if_icmp_le (h : code.data.toList.drop pc = b :: c :: d :: r) (hb : b.toNat = 164) : decode code pc = .ok (.if_icmp .le (ClassFile.Reader.signed 16 (c.toNat * 256 + d.toNat)), 3) := xdec ((xbd (xr1 h hb)).trans ((xbd (xs2r (xdr h) rfl rfl)).trans rfl))
theorem xe_newarray_boolean (h : code.data.toList.drop pc = b :: c :: r) (hb : b.toNat = 188) (hc : c.toNat = 4) : decode code pc = .ok (.newarray .boolean, 2) := xdec ((xbd (xr1 h hb)).trans ((xbd (xr1 (xdr h) hc)).trans rfl))
theorem xe_newarray_char (h : code.data.toList.drop pc = b :: c :: r) (hb : b.toNat = 188) (hc : c.toNat = 5) : decode code pc = .ok (.newarray .char, 2) := xdec ((xbd (xr1 h hb)).trans ((xbd (xr1 (xdr h) hc)).trans rfl))
theorem xe_newarray_float (h : code.data.toList.drop pc = b :: c :: r) (hb : b.toNat = 188) (hc : c.toNat = 6) : decode code pc = .ok (.newarray .float, 2) := xdec ((xbd (xr1 h hb)).trans ((xbd (xr1 (xdr h) hc)).trans rfl))
theorem xe_newarray_double (h : code.data.toList.drop pc = b :: c :: r) (hb : b.toNat = 188) (hc : c.toNat = 7) : decode code pc = .ok (.newarray .double, 2) := xdec ((xbd (xr1 h hb)).trans ((xbd (xr1 (xdr h) hc)).trans rfl))
theorem xe_newarray_byte (h : code.data.toList.drop pc = b :: c :: r) (hb : b.toNat = 188) (hc : c.toNat = 8) : decode code pc = .ok (.newarray .byte, 2) := xdec ((xbd (xr1 h hb)).trans ((xbd (xr1 (xdr h) hc)).trans rfl))
theorem xe_newarray_short (h : code.data.toList.drop pc = b :: c :: r) (hb : b.toNat = 188) (hc : c.toNat = 9) : decode code pc = .ok (.newarray .short, 2) := xdec ((xbd (xr1 h hb)).trans ((xbd (xr1 (xdr h) hc)).trans rfl))
theorem xe_newarray_int (h : code.data.toList.drop pc = b :: c :: r) (hb : b.toNat = 188) (hc : c.toNat = 10) : decode code pc = .ok (.newarray .int, 2) := xdec ((xbd (xr1 h hb)).trans ((xbd (xr1 (xdr h) hc)).trans rfl))
theorem xe_newarray_long (h : code.data.toList.drop pc = b :: c :: r) (hb : b.toNat = 188) (hc : c.toNat = 11) : decode code pc = .ok (.newarray .long, 2) := xdec ((xbd (xr1 h hb)).trans ((xbd (xr1 (xdr h) hc)).trans rfl))
end XFA
theorem xs2e_in {k : Nat} {n : Int} {l r : List UInt8} (h0 : xs2e k n ≠ []) (h : xpre (xs2e k n) l = some r) : (∃ b c d, l = b :: c :: d :: r ∧ b.toNat = k ∧ ClassFile.Reader.signed 16 (c.toNat * 256 + d.toNat) = n) ∧ (xs2e k n).length = 3 := by
  unfold xs2e at h h0 ⊢
  split at h
  · next e =>
    simp only [Bool.and_eq_true, decide_eq_true_eq] at e
    obtain ⟨b, c, d, h1, h2, h3, h4⟩ := xpre_3 h
    exact ⟨⟨b, c, d, h1, h2, by rw [h3, h4]; exact xsg16 e.1 e.2⟩, rfl⟩
  · next e => rw [e] at h0; exact (h0 rfl).elim
/-- what the bytes say is what decode says -/
theorem xenc_ok {code : ByteArray} {pc : Nat} {i : Instr} {l r : List UInt8} (h0 : xenc i ≠ []) (hp : xpre (xenc i) l = some r) (hl : code.data.toList.drop pc = l) : decode code pc = .ok (i, (xenc i).length) ∧ code.data.toList.drop (pc + (xenc i).length) = r := by
  have hd : ∀ n, code.data.toList.drop (pc + n) = l.drop n := fun n => by rw [← hl, List.drop_drop]
  cases i with
  | iaload =>
    obtain ⟨b, rfl, h2⟩ := xpre_1 hp
    exact ⟨xe_iaload hl h2, hd 1⟩
  | laload =>
    obtain ⟨b, rfl, h2⟩ := xpre_1 hp
    exact ⟨xe_laload hl h2, hd 1⟩
  | aaload =>
    obtain ⟨b, rfl, h2⟩ := xpre_1 hp
    exact ⟨xe_aaload hl h2, hd 1⟩
  | baload =>
    obtain ⟨b, rfl, h2⟩ := xpre_1 hp
    exact ⟨xe_baload hl h2, hd 1⟩
  | caload =>
    obtain ⟨b, rfl, h2⟩ := xpre_1 hp
    exact ⟨xe_caload hl h2, hd 1⟩
  | iastore =>
    obtain ⟨b, rfl, h2⟩ := xpre_1 hp
    exact ⟨xe_iastore hl h2, hd 1⟩
  | lastore =>
    obtain ⟨b, rfl, h2⟩ := xpre_1 hp
    exact ⟨xe_lastore hl h2, hd 1⟩
  | aastore =>
    obtain ⟨b, rfl, h2⟩ := xpre_1 hp
    exact ⟨xe_aastore hl h2, hd 1⟩
  | bastore =>
    obtain ⟨b, rfl, h2⟩ := xpre_1 hp
    exact ⟨xe_bastore hl h2, hd 1⟩
  | castore =>
    obtain ⟨b, rfl, h2⟩ := xpre_1 hp
    exact ⟨xe_castore hl h2, hd 1⟩
  | pop =>
    obtain ⟨b, rfl, h2⟩ := xpre_1 hp
    exact ⟨xe_pop hl h2, hd 1⟩
  | pop2 =>
    obtain ⟨b, rfl, h2⟩ := xpre_1 hp
    exact ⟨xe_pop2 hl h2, hd 1⟩
  | dup =>
    obtain ⟨b, rfl, h2⟩ := xpre_1 hp
    exact ⟨xe_dup hl h2, hd 1⟩
  | dup2 =>
    obtain ⟨b, rfl, h2⟩ := xpre_1 hp
    exact ⟨xe_dup2 hl h2, hd 1⟩
  | iadd =>
    obtain ⟨b, rfl, h2⟩ := xpre_1 hp
    exact ⟨xe_iadd hl h2, hd 1⟩
  | ladd =>
    obtain ⟨b, rfl, h2⟩ := xpre_1 hp
    exact ⟨xe_ladd hl h2, hd 1⟩
  | isub =>
    obtain ⟨b, rfl, h2⟩ := xpre_1 hp
    exact ⟨xe_isub hl h2, hd 1⟩
  | lsub =>
    obtain ⟨b, rfl, h2⟩ := xpre_1 hp
    exact ⟨xe_lsub hl h2, hd 1⟩
  | imul =>
    obtain ⟨b, rfl, h2⟩ := xpre_1 hp
    exact ⟨xe_imul hl h2, hd 1⟩
  | lmul =>
    obtain ⟨b, rfl, h2⟩ := xpre_1 hp
    exact ⟨xe_lmul hl h2, hd 1⟩
  | idiv =>
    obtain ⟨b, rfl, h2⟩ := xpre_1 hp
    exact ⟨xe_idiv hl h2, hd 1⟩
  | ldiv =>
    obtain ⟨b, rfl, h2⟩ := xpre_1 hp
    exact ⟨xe_ldiv hl h2, hd 1⟩
  | irem =>
    obtain ⟨b, rfl, h2⟩ := xpre_1 hp
    exact ⟨xe_irem hl h2, hd 1⟩
  | lrem =>
    obtain ⟨b, rfl, h2⟩ := xpre_1 hp
    exact ⟨xe_lrem hl h2, hd 1⟩
  | ineg =>
    obtain ⟨b, rfl, h2⟩ := xpre_1 hp
    exact ⟨xe_ineg hl h2, hd 1⟩
  | lneg =>
    obtain ⟨b, rfl, h2⟩ := xpre_1 hp
    exact ⟨xe_lneg hl h2, hd 1⟩
  | ishl =>
    obtain ⟨b, rfl, h2⟩ := xpre_1 hp
    exact ⟨xe_ishl hl h2, hd 1⟩
  | lshl =>
    obtain ⟨b, rfl, h2⟩ := xpre_1 hp
    exact ⟨xe_lshl hl h2, hd 1⟩
  | ishr =>
    obtain ⟨b, rfl, h2⟩ := xpre_1 hp
    exact ⟨xe_ishr hl h2, hd 1⟩
  | lshr =>
    obtain ⟨b, rfl, h2⟩ := xpre_1 hp
    exact ⟨xe_lshr hl h2, hd 1⟩
  | iushr =>
    obtain ⟨b, rfl, h2⟩ := xpre_1 hp
    exact ⟨xe_iushr hl h2, hd 1⟩
  | lushr =>
    obtain ⟨b, rfl, h2⟩ := xpre_1 hp
    exact ⟨xe_lushr hl h2, hd 1⟩
  | iand =>
    obtain ⟨b, rfl, h2⟩ := xpre_1 hp
    exact ⟨xe_iand hl h2, hd 1⟩
  | land =>
    obtain ⟨b, rfl, h2⟩ := xpre_1 hp
    exact ⟨xe_land hl h2, hd 1⟩
  | ior =>
    obtain ⟨b, rfl, h2⟩ := xpre_1 hp
    exact ⟨xe_ior hl h2, hd 1⟩
  | lor =>
    obtain ⟨b, rfl, h2⟩ := xpre_1 hp
    exact ⟨xe_lor hl h2, hd 1⟩
  | ixor =>
    obtain ⟨b, rfl, h2⟩ := xpre_1 hp
    exact ⟨xe_ixor hl h2, hd 1⟩
  | lxor =>
    obtain ⟨b, rfl, h2⟩ := xpre_1 hp
    exact ⟨xe_lxor hl h2, hd 1⟩
  | i2l =>
    obtain ⟨b, rfl, h2⟩ := xpre_1 hp
    exact ⟨xe_i2l hl h2, hd 1⟩
  | l2i =>
    obtain ⟨b, rfl, h2⟩ := xpre_1 hp
    exact ⟨xe_l2i hl h2, hd 1⟩
  | i2b =>
    obtain ⟨b, rfl, h2⟩ := xpre_1 hp
    exact ⟨xe_i2b hl h2, hd 1⟩
  | i2c =>
    obtain ⟨b, rfl, h2⟩ := xpre_1 hp
    exact ⟨xe_i2c hl h2, hd 1⟩
  | i2s =>
    obtain ⟨b, rfl, h2⟩ := xpre_1 hp
    exact ⟨xe_i2s hl h2, hd 1⟩
  | lcmp =>
    obtain ⟨b, rfl, h2⟩ := xpre_1 hp
    exact ⟨xe_lcmp hl h2, hd 1⟩
  | ireturn =>
    obtain ⟨b, rfl, h2⟩ := xpre_1 hp
    exact ⟨xe_ireturn hl h2, hd 1⟩
  | lreturn =>
    obtain ⟨b, rfl, h2⟩ := xpre_1 hp
    exact ⟨xe_lreturn hl h2, hd 1⟩
  | areturn =>
    obtain ⟨b, rfl, h2⟩ := xpre_1 hp
    exact ⟨xe_areturn hl h2, hd 1⟩
  | return_ =>
    obtain ⟨b, rfl, h2⟩ := xpre_1 hp
    exact ⟨xe_return_ hl h2, hd 1⟩
  | arraylength =>
    obtain ⟨b, rfl, h2⟩ := xpre_1 hp
    exact ⟨xe_arraylength hl h2, hd 1⟩
  | ldc n =>
    obtain ⟨b, c, rfl, h2, h3⟩ := xpre_2 hp
    have h9 := xe_ldc hl h2
    rw [h3] at h9
    exact ⟨h9, hd 2⟩
  | iload n =>
    obtain ⟨b, c, rfl, h2, h3⟩ := xpre_2 hp
    have h9 := xe_iload hl h2
    rw [h3] at h9
    exact ⟨h9, hd 2⟩
  | lload n =>
    obtain ⟨b, c, rfl, h2, h3⟩ := xpre_2 hp
    have h9 := xe_lload hl h2
    rw [h3] at h9
    exact ⟨h9, hd 2⟩
  | aload n =>
    obtain ⟨b, c, rfl, h2, h3⟩ := xpre_2 hp
    have h9 := xe_aload hl h2
    rw [h3] at h9
    exact ⟨h9, hd 2⟩
  | istore n =>
    obtain ⟨b, c, rfl, h2, h3⟩ := xpre_2 hp
    have h9 := xe_istore hl h2
    rw [h3] at h9
    exact ⟨h9, hd 2⟩
  | lstore n =>
    obtain ⟨b, c, rfl, h2, h3⟩ := xpre_2 hp
    have h9 := xe_lstore hl h2
    rw [h3] at h9
    exact ⟨h9, hd 2⟩
  | astore n =>
    obtain ⟨b, c, rfl, h2, h3⟩ := xpre_2 hp
    have h9 := xe_astore hl h2
    rw [h3] at h9
    exact ⟨h9, hd 2⟩
  | ldc_w n =>
    obtain ⟨b, c, d, rfl, h2, h3, h4⟩ := xpre_3 hp
    have h9 := xe_ldc_w hl h2
    rw [h3, h4, Nat.mul_comm, Nat.div_add_mod] at h9
    exact ⟨h9, hd 3⟩
  | ldc2_w n =>
    obtain ⟨b, c, d, rfl, h2, h3, h4⟩ := xpre_3 hp
    have h9 := xe_ldc2_w hl h2
    rw [h3, h4, Nat.mul_comm, Nat.div_add_mod] at h9
    exact ⟨h9, hd 3⟩
  | getstatic n =>
    obtain ⟨b, c, d, rfl, h2, h3, h4⟩ := xpre_3 hp
    have h9 := xe_getstatic hl h2
    rw [h3, h4, Nat.mul_comm, Nat.div_add_mod] at h9
    exact ⟨h9, hd 3⟩
  | getfield n =>
    obtain ⟨b, c, d, rfl, h2, h3, h4⟩ := xpre_3 hp
    have h9 := xe_getfield hl h2
    rw [h3, h4, Nat.mul_comm, Nat.div_add_mod] at h9
    exact ⟨h9, hd 3⟩
  | putfield n =>
    obtain ⟨b, c, d, rfl, h2, h3, h4⟩ := xpre_3 hp
    have h9 := xe_putfield hl h2
    rw [h3, h4, Nat.mul_comm, Nat.div_add_mod] at h9
    exact ⟨h9, hd 3⟩
  | invokevirtual n =>
    obtain ⟨b, c, d, rfl, h2, h3, h4⟩ := xpre_3 hp
    have h9 := xe_invokevirtual hl h2
    rw [h3, h4, Nat.mul_comm, Nat.div_add_mod] at h9
    exact ⟨h9, hd 3⟩
  | invokespecial n =>
    obtain ⟨b, c, d, rfl, h2, h3, h4⟩ := xpre_3 hp
    have h9 := xe_invokespecial hl h2
    rw [h3, h4, Nat.mul_comm, Nat.div_add_mod] at h9
    exact ⟨h9, hd 3⟩
  | invokestatic n =>
    obtain ⟨b, c, d, rfl, h2, h3, h4⟩ := xpre_3 hp
    have h9 := xe_invokestatic hl h2
    rw [h3, h4, Nat.mul_comm, Nat.div_add_mod] at h9
    exact ⟨h9, hd 3⟩
  | new n =>
    obtain ⟨b, c, d, rfl, h2, h3, h4⟩ := xpre_3 hp
    have h9 := xe_new hl h2
    rw [h3, h4, Nat.mul_comm, Nat.div_add_mod] at h9
    exact ⟨h9, hd 3⟩
  | anewarray n =>
    obtain ⟨b, c, d, rfl, h2, h3, h4⟩ := xpre_3 hp
    have h9 := xe_anewarray hl h2
    rw [h3, h4, Nat.mul_comm, Nat.div_add_mod] at h9
    exact ⟨h9, hd 3⟩
  | sipush n =>
    obtain ⟨⟨b, c, d, rfl, h2, h3⟩, h5⟩ := xs2e_in (k := 17) h0 hp
    have h9 := xe_sipush hl h2
    rw [h3] at h9
    show decode code pc = .ok (_, (xs2e 17 n).length) ∧ code.data.toList.drop (pc + (xs2e 17 n).length) = r
    rw [h5]
    exact ⟨h9, hd 3⟩
  | goto n =>
    obtain ⟨⟨b, c, d, rfl, h2, h3⟩, h5⟩ := xs2e_in (k := 167) h0 hp
    have h9 := xe_goto hl h2
    rw [h3] at h9
    show decode code pc = .ok (_, (xs2e 167 n).length) ∧ code.data.toList.drop (pc + (xs2e 167 n).length) = r
    rw [h5]
    exact ⟨h9, hd 3⟩
  | ifnull n =>
    obtain ⟨⟨b, c, d, rfl, h2, h3⟩, h5⟩ := xs2e_in (k := 198) h0 hp
    have h9 := xe_ifnull hl h2
    rw [h3] at h9
    show decode code pc = .ok (_, (xs2e 198 n).length) ∧ code.data.toList.drop (pc + (xs2e 198 n).length) = r
    rw [h5]
    exact ⟨h9, hd 3⟩
  | ifnonnull n =>
    obtain ⟨⟨b, c, d, rfl, h2, h3⟩, h5⟩ := xs2e_in (k := 199) h0 hp
    have h9 := xe_ifnonnull hl h2
    rw [h3] at h9
    show decode code pc = .ok (_, (xs2e 199 n).length) ∧ code.data.toList.drop (pc + (xs2e 199 n).length) = r
    rw [h5]
    exact ⟨h9, hd 3⟩
  | iload_n n =>
    obtain ⟨b, rfl, h2⟩ := xpre_1 hp
    match n, h2 with
    | 0, h2 => exact ⟨xe_iload_n0 hl h2, hd 1⟩
    | 1, h2 => exact ⟨xe_iload_n1 hl h2, hd 1⟩
    | 2, h2 => exact ⟨xe_iload_n2 hl h2, hd 1⟩
    | 3, h2 => exact ⟨xe_iload_n3 hl h2, hd 1⟩
  | lload_n n =>
    obtain ⟨b, rfl, h2⟩ := xpre_1 hp
    match n, h2 with
    | 0, h2 => exact ⟨xe_lload_n0 hl h2, hd 1⟩
    | 1, h2 => exact ⟨xe_lload_n1 hl h2, hd 1⟩
    | 2, h2 => exact ⟨xe_lload_n2 hl h2, hd 1⟩
    | 3, h2 => exact ⟨xe_lload_n3 hl h2, hd 1⟩
  | aload_n n =>
    obtain ⟨b, rfl, h2⟩ := xpre_1 hp
    match n, h2 with
    | 0, h2 => exact ⟨xe_aload_n0 hl h2, hd 1⟩
    | 1, h2 => exact ⟨xe_aload_n1 hl h2, hd 1⟩
    | 2, h2 => exact ⟨xe_aload_n2 hl h2, hd 1⟩
    | 3, h2 => exact ⟨xe_aload_n3 hl h2, hd 1⟩
  | istore_n n =>
    obtain ⟨b, rfl, h2⟩ := xpre_1 hp
    match n, h2 with
    | 0, h2 => exact ⟨xe_istore_n0 hl h2, hd 1⟩
    | 1, h2 => exact ⟨xe_istore_n1 hl h2, hd 1⟩
    | 2, h2 => exact ⟨xe_istore_n2 hl h2, hd 1⟩
    | 3, h2 => exact ⟨xe_istore_n3 hl h2, hd 1⟩
  | lstore_n n =>
    obtain ⟨b, rfl, h2⟩ := xpre_1 hp
    match n, h2 with
    | 0, h2 => exact ⟨xe_lstore_n0 hl h2, hd 1⟩
    | 1, h2 => exact ⟨xe_lstore_n1 hl h2, hd 1⟩
    | 2, h2 => exact ⟨xe_lstore_n2 hl h2, hd 1⟩
    | 3, h2 => exact ⟨xe_lstore_n3 hl h2, hd 1⟩
  | astore_n n =>
    obtain ⟨b, rfl, h2⟩ := xpre_1 hp
    match n, h2 with
    | 0, h2 => exact ⟨xe_astore_n0 hl h2, hd 1⟩
    | 1, h2 => exact ⟨xe_astore_n1 hl h2, hd 1⟩
    | 2, h2 => exact ⟨xe_astore_n2 hl h2, hd 1⟩
    | 3, h2 => exact ⟨xe_astore_n3 hl h2, hd 1⟩
  | iconst n =>
    have h1 : xpre (xice n) l = some r := hp
    have h2 : xice n ≠ [] := h0
    show decode code pc = .ok (_, (xice n).length) ∧ code.data.toList.drop (pc + (xice n).length) = r
    unfold xice at h1 h2 ⊢
    split at h1
    · next e =>
      simp only [Bool.and_eq_true, decide_eq_true_eq] at e
      obtain ⟨b, rfl, h4⟩ := xpre_1 h1
      have h5 : n = -1 ∨ n = 0 ∨ n = 1 ∨ n = 2 ∨ n = 3 ∨ n = 4 ∨ n = 5 := by omega
      rcases h5 with rfl | rfl | rfl | rfl | rfl | rfl | rfl
      · exact ⟨xe_iconstm1 hl h4, hd 1⟩
      · exact ⟨xe_iconst0 hl h4, hd 1⟩
      · exact ⟨xe_iconst1 hl h4, hd 1⟩
      · exact ⟨xe_iconst2 hl h4, hd 1⟩
      · exact ⟨xe_iconst3 hl h4, hd 1⟩
      · exact ⟨xe_iconst4 hl h4, hd 1⟩
      · exact ⟨xe_iconst5 hl h4, hd 1⟩
    · next e => rw [e] at h2; exact (h2 rfl).elim
  | lconst n =>
    obtain ⟨b, rfl, h2⟩ := xpre_1 hp
    match n, h2 with
    | 0, h2 => exact ⟨xe_lconst0 hl h2, hd 1⟩
    | 1, h2 => exact ⟨xe_lconst1 hl h2, hd 1⟩
  | bipush n =>
    have h1 : xpre (xs1e [16] n) l = some r := hp
    have h2 : xs1e [16] n ≠ [] := h0
    show decode code pc = .ok (_, (xs1e [16] n).length) ∧ code.data.toList.drop (pc + (xs1e [16] n).length) = r
    unfold xs1e at h1 h2 ⊢
    split at h1
    · next e =>
      simp only [Bool.and_eq_true, decide_eq_true_eq] at e
      obtain ⟨b, c, rfl, h4, h5⟩ := xpre_2 h1
      have h9 := xe_bipush hl h4
      rw [h5, xsg8 e.1 e.2] at h9
      exact ⟨h9, hd 2⟩
    · next e => rw [e] at h2; exact (h2 rfl).elim
  | iinc k n =>
    have h1 : xpre (xs1e [132, k] n) l = some r := hp
    have h2 : xs1e [132, k] n ≠ [] := h0
    show decode code pc = .ok (_, (xs1e [132, k] n).length) ∧ code.data.toList.drop (pc + (xs1e [132, k] n).length) = r
    unfold xs1e at h1 h2 ⊢
    split at h1
    · next e =>
      simp only [Bool.and_eq_true, decide_eq_true_eq] at e
      obtain ⟨b, c, d, rfl, h4, h5, h6⟩ := xpre_3 h1
      have h9 := xe_iinc hl h4
      rw [h5, h6, xsg8 e.1 e.2] at h9
      exact ⟨h9, hd 3⟩
    · next e => rw [e] at h2; exact (h2 rfl).elim
  | ifCond cc n =>
    obtain ⟨⟨b, c, d, rfl, h2, h3⟩, h5⟩ := xs2e_in (k := 153 + xcx cc) h0 hp
    show decode code pc = .ok (_, (xs2e (153 + xcx cc) n).length) ∧ code.data.toList.drop (pc + (xs2e (153 + xcx cc) n).length) = r
    rw [h5]
    refine ⟨?_, hd 3⟩
    rw [← h3]
    cases cc with
    | eq => exact xe_ifCond_eq hl h2
    | ne => exact xe_ifCond_ne hl h2
    | lt => exact xe_ifCond_lt hl h2
    | ge => exact xe_ifCond_ge hl h2
    | gt => exact xe_ifCond_gt hl h2
    | le => exact xe_ifCond_le hl h2
  | if_icmp cc n =>
    obtain ⟨⟨b, c, d, rfl, h2, h3⟩, h5⟩ := xs2e_in (k := 159 + xcx cc) h0 hp
    show decode code pc = .ok (_, (xs2e (159 + xcx cc) n).length) ∧ code.data.toList.drop (pc + (xs2e (159 + xcx cc) n).length) = r
    rw [h5]
    refine ⟨?_, hd 3⟩
    rw [← h3]
    cases cc with
    | eq => exact xe_if_icmp_eq hl h2
    | ne => exact xe_if_icmp_ne hl h2
    | lt => exact xe_if_icmp_lt hl h2
    | ge => exact xe_if_icmp_ge hl h2
    | gt => exact xe_if_icmp_gt hl h2
    | le => exact xe_if_icmp_le hl h2
  | newarray t =>
    obtain ⟨b, c, rfl, h2, h3⟩ := xpre_2 hp
    cases t with
    | boolean => exact ⟨xe_newarray_boolean hl h2 h3, hd 2⟩
    | char => exact ⟨xe_newarray_char hl h2 h3, hd 2⟩
    | float => exact ⟨xe_newarray_float hl h2 h3, hd 2⟩
    | double => exact ⟨xe_newarray_double hl h2 h3, hd 2⟩
    | byte => exact ⟨xe_newarray_byte hl h2 h3, hd 2⟩
    | short => exact ⟨xe_newarray_short hl h2 h3, hd 2⟩
    | int => exact ⟨xe_newarray_int hl h2 h3, hd 2⟩
    | long => exact ⟨xe_newarray_long hl h2 h3, hd 2⟩
  | _ => exact (h0 rfl).elim
/-- a stretch checked by its bytes: l is what stands from pc on -/
def xOkD (w : XRow) : Nat → List XI → Nat → List UInt8 → Bool
  | pc, [], fall, _ => pc == fall
  | pc, x :: r, fall, l => x.1 == pc && (match xenc x.2.1 with
    | [] => (match decode w.2.2.1 pc with
      | .ok q => decide (q.1 = x.2.1) && ((xisw x.2.1 || q.2 == xlen x.2.1) && (xjok pc x.2.1 && (xOkX w.1 (w.2.1.name == "<init>") x && xOkD w (pc + q.2) r fall (l.drop q.2))))
      | .error _ => false)
    | k :: ks => (match xpre (k :: ks) l with
      | some l' => ((k :: ks).length == xlen x.2.1) && (xjok pc x.2.1 && (xOkX w.1 (w.2.1.name == "<init>") x && xOkD w (pc + (k :: ks).length) r fall l'))
      | none => false))
theorem xOkD_ok {w : XRow} : ∀ (code : List XI) (pc fall : Nat) (l : List UInt8), w.2.2.1.data.toList.drop pc = l → xOkD w pc code fall l = true → xOkC w pc code fall = true
  | [], _, _, _, _, h => h
  | x :: r, pc, fall, l, hl, h => by
    unfold xOkD at h
    unfold xOkC
    rw [Bool.and_eq_true] at h ⊢
    refine ⟨h.1, ?_⟩
    have h := h.2
    split at h
    · split at h
      · next q e =>
        rw [e]
        simp only [Bool.and_eq_true] at h ⊢
        refine ⟨h.1, h.2.1, h.2.2.1, h.2.2.2.1, xOkD_ok r _ _ _ ?_ h.2.2.2.2⟩
        rw [← List.drop_drop, hl]
      · cases h
    · next k ks e =>
      split at h
      · next l' e2 =>
        obtain ⟨h1, h2⟩ := xenc_ok (i := x.2.1) (code := w.2.2.1) (pc := pc) (by rw [e]; exact fun q => by cases q) (by rw [e]; exact e2) hl
        rw [e] at h1 h2
        rw [h1]
        simp only [Bool.and_eq_true] at h ⊢
        refine ⟨decide_eq_true trivial, by rw [Bool.or_eq_true]; exact .inr h.1, h.2.1, h.2.2.1, xOkD_ok r _ _ _ h2 h.2.2.2⟩
      · cases h
/-- all stretches, in their order: each one's bytes behind the last one's -/
def xOkE (w : XRow) : XB → Nat → List UInt8 → Bool
  | [], _, _ => true
  | q :: r, pc, l => Nat.ble pc q.1 && (xOkD w q.1 q.2.1 q.2.2 (l.drop (q.1 - pc)) && xOkE w r q.1 (l.drop (q.1 - pc)))
theorem xOkE_ok {w : XRow} : ∀ (bs : XB) (pc : Nat) (l : List UInt8), w.2.2.1.data.toList.drop pc = l → xOkE w bs pc l = true → (bs.all fun q => xOkC w q.1 q.2.1 q.2.2) = true
  | [], _, _, _, _ => rfl
  | q :: r, pc, l, hl, h => by
    unfold xOkE at h
    simp only [Bool.and_eq_true] at h
    have h1 := Nat.le_of_ble_eq_true h.1
    have h2 : w.2.2.1.data.toList.drop q.1 = l.drop (q.1 - pc) := by
      rw [← hl, List.drop_drop, Nat.add_sub_cancel' h1]
    rw [List.all_cons, Bool.and_eq_true]
    exact ⟨xOkD_ok _ _ _ _ h2 h.2.1, xOkE_ok r q.1 _ h2 h.2.2⟩
def xRowD (w : XRow) : Bool := xOkE w w.2.2.2.2.2 0 w.2.2.1.data.toList
theorem xRowD_ok {w : XRow} (h : xRowD w = true) : xRowOk w = true := xOkE_ok _ 0 _ rfl h
