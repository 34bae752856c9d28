/-! LEADING a net -/
theorem bJn_li {s : BdS} {n hb rb : Nat} {r : Int} {c : Nat} (h : bLi s n hb rb) (h0 : 0 ≤ bDn s n r c) : bLi (bJn s n r c) n hb (rb + 1) := by
  have gB9 : bK s ≤ 1024 := h.1.1.2.2.2
  have hP := bPl_sp gB9 h0
  refine bJ2_li h (fun j hj => (bPth_sp gB9 h0 j (fun i hi => hP.2 i (by omega))).1) (fun i j hi hj => bPth_ne gB9 h0 hi (by omega)) (fun k hk => bPl_ct gB9 h0 k hk) (fun j hj => ?_) hP.2
  have w := bPth_sp gB9 h0 j (fun i hi => hP.2 i (by omega))
  obtain ⟨c', y, y1, y2, y3, y4, y5⟩ := bDi_p w.2.1 (hP.2 j hj)
  unfold bTl at y4
  by_cases e : bba s (bPth s n r c j) ≠ 0 ∨ (bHl s n (bPth s n r c j) ∧ (r = 0 ∨ bpa s (bPth s n r c j) ≠ -1))
  · rw [zite_t e] at y4
    exact absurd rfl y4
  · refine ⟨Classical.byContradiction (fun q => e (Or.inl q)), fun q => Classical.byContradiction (fun q2 => e (Or.inr ⟨q, Or.inr q2⟩))⟩
theorem bLi_w {s : BdS} {n hb rb m : Nat} (h : bLi s n hb rb) (hm : m < bnn s) : bWok s m := by
  obtain ⟨c1, c2, c3, c4, c5, c6, c7, c8⟩ := h.1.2.2.2.2.1 m hm
  have gB9 : bK s ≤ 1024 := h.1.1.2.2.2
  have c7' : ∀ k, k < bwl s m → bwy s m k < bK s ∧ bho s (bwy s m k) = m := c7
  exact ⟨c5, fun k hk => ⟨by have := (c7' k hk).1; omega, (c7' k hk).2⟩, c8⟩
theorem bLi_k {s : BdS} {n hb rb m : Nat} (h : bLi s n hb rb) (hm : m < bnn s) : ∀ k, k < bwl s m → bwy s m k < bK s := fun k hk => ((h.1.2.2.2.2.1 m hm).2.2.2.2.2.2.1 k hk).1
theorem bLi_h {s : BdS} {n hb rb : Nat} (h : bLi s n hb rb) : ∀ c, c < 1024 → -1 ≤ bho s c ∧ bho s c < bnn s := fun c hc => ⟨(h.1.2.2.1 c hc).2.2.1, (h.1.2.2.1 c hc).2.2.2.1⟩
theorem bLi_z {s : BdS} {n hb rb : Nat} (h : bLi s n hb rb) : bGz s := ⟨h.1.1, h.1.2.1, h.1.2.2.2.2.2.1⟩
theorem bLi_p {s : BdS} {n hb rb : Nat} (h : bLi s n hb rb) : ∀ p : Nat, p < bnp s → 0 ≤ bP s p 2 ∧ bP s p 2 < bK s := fun p hp => (h.1.2.2.2.1 p hp).2.2.1
theorem bLi_hi {s : BdS} {n hb rb : Nat} (h : bLi s n hb rb) : ∀ c, c < 1024 → bhi s c ≤ hb + 1 := fun c hc => by
  have k := h.2.2.1 c hc
  by_cases e : bTr s n c
  · rw [zite_t e] at k; exact k
  · rw [zite_f e] at k; omega
/-- another word of the nets that nobody asks for while it is led -/
theorem bLi_5 {s : BdS} {n hb rb : Nat} {x : Int} (h : bLi s n hb rb) (hx : 0 ≤ x ∧ x < 4096) : bLi (bs_N s (up2z (bN s) n 5 x)) n hb rb := by
  obtain ⟨⟨g1, g2, gc, gp, gn, gco, gnd, gun⟩, hn, hhi, hrp, hct⟩ := h
  refine ⟨⟨g1, g2, gc, gp, fun m hm => ?_, gco, gnd, fun a b hab hb2 => ?_⟩, hn, hhi, fun m hm => ?_, hct⟩
  · obtain ⟨c1, c2, c3, c4, c5, c6, c7, c8⟩ := gn m hm
    have e : ∀ y, y ≠ 5 → up2z (up2z (bN s) n 5 x) n 2 1 m y = up2z (bN s) n 2 1 m y := fun y hy => by
      by_cases q : m = n ∧ y = 2
      · rw [q.1, q.2, up2z_at, up2z_at]
      · rw [up2z_ne q, up2z_ne q, up2z_ne (by omega)]
    refine ⟨(e 1 (by decide)).trans c1, c2, ?_, ?_, c5, fun k => c6 ((e 2 (by decide)).symm.trans k), c7, c8⟩
    · have e2 := e 2 (by decide)
      rcases c3 with c3 | c3
      · exact Or.inl (e2.trans c3)
      · exact Or.inr (e2.trans c3)
    · show 0 ≤ up2z (up2z (bN s) n 5 x) n 2 1 m 5 ∧ up2z (up2z (bN s) n 5 x) n 2 1 m 5 < 4096
      have c4' : 0 ≤ up2z (bN s) n 2 1 m 5 ∧ up2z (bN s) n 2 1 m 5 < 4096 := c4
      rw [up2z_ne (by omega)] at c4' ⊢
      by_cases q : m = n
      · rw [q, up2z_at]; exact hx
      · rw [up2z_ne (by omega)]; exact c4'
  · have k := gun a b hab hb2
    have e : ∀ m : Nat, up2z (up2z (bN s) n 5 x) n 2 1 m 0 = up2z (bN s) n 2 1 m 0 := fun m => by
      rw [up2z_ne (by omega), up2z_ne (by omega), up2z_ne (by omega)]
    show up2z (up2z (bN s) n 5 x) n 2 1 a 0 ≠ up2z (up2z (bN s) n 5 x) n 2 1 b 0
    rw [e, e]
    exact k
  · show 0 ≤ up2z (bN s) n 5 x m 4 ∧ up2z (bN s) n 5 x m 4 ≤ rb
    rw [up2z_ne (by omega)]
    exact hrp m hm
/-- the tree, told -/
noncomputable def bTn (s : BdS) (n : Nat) (c : Nat) : Int := zite (bTr s n c) 1 0
/-- the next pad: what it costs, or -1; what comes of it -/
noncomputable def bM5 (s : BdS) (n : Nat) : BdS := bs_N s (up2z (bN s) n 5 (bMc s n (bK s)))
noncomputable def bNx (s : BdS) (n : Nat) : BdS × Int := if bPk s n 0 (bTn s n) ≠ -1 then (bJn s n 0 (bP s (bPk s n 0 (bTn s n)).toNat 2).toNat, bDn s n 0 (bP s (bPk s n 0 (bTn s n)).toNat 2).toNat) else if bPk (bM5 s n) n 1 (bTn s n) = -1 then (bM5 s n, -1) else (bJn (bM5 s n) n 1 (bP s (bPk (bM5 s n) n 1 (bTn s n)).toNat 2).toNat, bDn (bM5 s n) n 1 (bP s (bPk (bM5 s n) n 1 (bTn s n)).toNat 2).toNat)
theorem bPk_sp {s : BdS} {n : Nat} {r : Int} {tr : Nat → Int} (h : bPk s n r tr ≠ -1) : ∃ p : Nat, bPk s n r tr = p ∧ p < bnp s ∧ bOut s n tr (bP s p 2).toNat ∧ 0 ≤ bDn s n r (bP s p 2).toNat ∧ bNst s n r tr (bP s p 2).toNat := by
  rcases zlow_sp (fun p => bOut s n tr (bP s p 2).toNat ∧ 0 ≤ bDn s n r (bP s p 2).toNat ∧ bNst s n r tr (bP s p 2).toNat) (bnp s) with q | q
  · exact absurd q.1 h
  · obtain ⟨p, p1, p2, p3, -⟩ := q
    exact ⟨p, p2, p1, p3⟩
/-- no pad is found: whatever is come to is told as it is -/
theorem bPk_no {s : BdS} {n : Nat} {r : Int} {tr : Nat → Int} (hp : ∀ c, c < bK s → bpa s c ≠ -1 → bpa s c < bnp s ∧ 0 ≤ bpa s c ∧ bP s (bpa s c).toNat 2 = c) (h : bPk s n r tr = -1) : ∀ c, bOut s n tr c → bDn s n r c < 0 := by
  intro c hc
  refine Classical.byContradiction (fun k => ?_)
  -- the nearest of them
  have ex : ∃ m : Nat, ∃ d, bOut s n tr d ∧ bDn s n r d = m := ⟨(bDn s n r c).toNat, c, hc, by omega⟩
  obtain ⟨m, ⟨d, d1, d2⟩, d3⟩ := zleast ex
  have w := hp d d1.1 d1.2.1
  rcases zlow_sp (fun p => bOut s n tr (bP s p 2).toNat ∧ 0 ≤ bDn s n r (bP s p 2).toNat ∧ bNst s n r tr (bP s p 2).toNat) (bnp s) with q | q
  · refine q.2 (bpa s d).toNat (by omega) ?_
    have e : (bP s (bpa s d).toNat 2).toNat = d := by omega
    rw [e]
    refine ⟨d1, by omega, fun c' h1 h2 => ?_⟩
    have := d3 (bDn s n r c').toNat ⟨c', h1, by omega⟩
    omega
  · obtain ⟨p, p1, p2, -⟩ := q
    have e : bPk s n r tr = zlow (fun p => bOut s n tr (bP s p 2).toNat ∧ 0 ≤ bDn s n r (bP s p 2).toNat ∧ bNst s n r tr (bP s p 2).toNat) (bnp s) := rfl
    omega
theorem bNx_a {s : BdS} {n : Nat} {p : Int} (e : p = bPk s n 0 (bTn s n)) (h : p ≠ -1) : bNx s n = (bJn s n 0 (bP s p.toNat 2).toNat, bDn s n 0 (bP s p.toNat 2).toNat) := by
  subst e
  exact if_pos h
theorem bNx_b {s : BdS} {n : Nat} {p q : Int} (e : p = bPk s n 0 (bTn s n)) (h : p = -1) (e2 : q = bPk (bM5 s n) n 1 (bTn s n)) (h2 : q = -1) : bNx s n = (bM5 s n, -1) := by
  subst e e2
  exact (if_neg (fun k => k h)).trans (if_pos h2)
theorem bNx_c {s : BdS} {n : Nat} {p q : Int} (e : p = bPk s n 0 (bTn s n)) (h : p = -1) (e2 : q = bPk (bM5 s n) n 1 (bTn s n)) (h2 : q ≠ -1) : bNx s n = (bJn (bM5 s n) n 1 (bP s q.toNat 2).toNat, bDn (bM5 s n) n 1 (bP s q.toNat 2).toNat) := by
  subst e e2
  exact (if_neg (fun k => k h)).trans (if_neg h2)
theorem bPk_p {s : BdS} {n : Nat} {r : Int} {tr : Nat → Int} {v : Int} (hv : v = bPk s n r tr) (h : v ≠ -1) : v < bnp s ∧ 0 ≤ v ∧ 0 ≤ bDn s n r (bP s v.toNat 2).toNat ∧ bNst s n r tr (bP s v.toNat 2).toNat := by
  rw [hv] at h
  obtain ⟨p, p1, p2, p3, p4, p5⟩ := bPk_sp h
  rw [hv, p1]
  exact ⟨by omega, by omega, p4, p5⟩
/-- all pads of a net are in the tree -/
def bAll (s : BdS) (n : Int) (tr : Nat → Int) : Prop := ∀ p : Nat, p < bnp s → ¬ bOut s n tr (bP s p 2).toNat
/-! DRAWS -/
def bSe (s : BdS) : Int := zn6 (bsd s * 6364136223846793005 + 1442695040888963407)
def bDr (s : BdS) : Int := zlushr (bSe s) 33
theorem zlushr33 (x : Int) : 0 ≤ zlushr x 33 ∧ zlushr x 33 < 2147483648 := by
  have h1 : zlushr x 33 = ((Int64.ofInt x).toUInt64 >>> 33).toInt64.toInt := rfl
  have e2 : ((Int64.ofInt x).toUInt64 >>> 33).toNat = (Int64.ofInt x).toUInt64.toNat / 2 ^ 33 := by
    rw [UInt64.toNat_shiftRight]
    show (Int64.ofInt x).toUInt64.toNat >>> (33 % 64) = _
    rw [Nat.shiftRight_eq_div_pow]
  have h3 := (Int64.ofInt x).toUInt64.toNat_lt
  have h2 : ((Int64.ofInt x).toUInt64 >>> 33).toNat < 2147483648 := by
    rw [e2]
    omega
  have e : ((Int64.ofInt x).toUInt64 >>> 33).toInt64.toInt = (((Int64.ofInt x).toUInt64 >>> 33).toNat : Int) := by
    show (((Int64.ofInt x).toUInt64 >>> 33).toBitVec).toInt = _
    rw [BitVec.toInt_eq_toNat_of_lt (by show 2 * ((Int64.ofInt x).toUInt64 >>> 33).toNat < 2 ^ 64; omega)]
    rfl
  rw [h1, e]
  omega
