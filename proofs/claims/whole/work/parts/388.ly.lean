/-! LEADING keeps what holds of boards -/
theorem bLi_up {s : BdS} {n hb a b : Nat} (h : bLi s n hb a) (hab : a ≤ b) : bLi s n hb b := ⟨h.1, h.2.1, h.2.2.1, fun m hm => by have := h.2.2.2.1 m hm; omega, h.2.2.2.2⟩
theorem bLp_li {n : Nat} : ∀ (k : Nat) (t : BdS) (a : Int) (hb rb : Nat), bLi t n hb rb → bLi (bLp n k t a).1 n hb (rb + k)
  | 0, t, a, hb, rb, h => h
  | k + 1, t, a, hb, rb, h => by
    by_cases e : bAll t n (bTn t n)
    · rw [bLp_a e]
      exact bLi_up h (by omega)
    · by_cases e2 : (bNx t n).2 = -1
      · rw [bLp_s e e2]
        exact bLi_up (bNx_li h) (by omega)
      · rw [bLp_k e e2]
        have w := bLp_li k (bNx t n).1 (a + (bNx t n).2) hb (rb + 1) (bNx_li h)
        rw [show rb + (k + 1) = rb + 1 + k by omega]
        exact w
theorem bGd_led {t : BdS} {n : Nat} {a : Int} (hg : bGd (bs_N t (up2z (bN t) n 2 1))) : bGd (bs_N t (up2z (up2z (up2z (bN t) n 2 1) n 3 a) n 5 0)) := by
  obtain ⟨g1, g2, gc, gp, gn, gco, gnd, gun⟩ := hg
  refine ⟨g1, g2, gc, gp, fun m hm => ?_, gco, gnd, fun x y hxy hy => ?_⟩
  · obtain ⟨c1, c2, c3, c4, c5, c6, c7, c8⟩ := gn m hm
    have e : ∀ y, y ≠ 3 → y ≠ 5 → up2z (up2z (up2z (bN t) n 2 1) n 3 a) n 5 0 m y = up2z (bN t) n 2 1 m y := fun y h1 h2 => by
      rw [up2z_ne (by omega), up2z_ne (by omega)]
    refine ⟨(e 1 (by decide) (by decide)).trans c1, c2, ?_, ?_, c5, fun k => c6 ((e 2 (by decide) (by decide)).symm.trans k), c7, c8⟩
    · have e2 := e 2 (by decide) (by decide)
      rcases c3 with c3 | c3
      · exact Or.inl (e2.trans c3)
      · exact Or.inr (e2.trans c3)
    · show 0 ≤ up2z (up2z (up2z (bN t) n 2 1) n 3 a) n 5 0 m 5 ∧ up2z (up2z (up2z (bN t) n 2 1) n 3 a) n 5 0 m 5 < 4096
      have c4' : 0 ≤ up2z (bN t) n 2 1 m 5 ∧ up2z (bN t) n 2 1 m 5 < 4096 := c4
      by_cases q : m = n
      · rw [q, up2z_at]; exact ⟨Int.le_refl 0, by decide⟩
      · rw [up2z_ne (by omega), up2z_ne (by omega)]; exact c4'
  · have k := gun x y hxy hy
    have e : ∀ m : Nat, up2z (up2z (up2z (bN t) n 2 1) n 3 a) n 5 0 m 0 = up2z (bN t) n 2 1 m 0 := fun m => by
      rw [up2z_ne (by omega), up2z_ne (by omega)]
    show up2z (up2z (up2z (bN t) n 2 1) n 3 a) n 5 0 x 0 ≠ up2z (up2z (up2z (bN t) n 2 1) n 3 a) n 5 0 y 0
    rw [e, e]
    exact k
theorem bGd_let {t : BdS} {n : Nat} (hg : bGd (bs_N t (up2z (bN t) n 2 1))) : bGd (bLet t n) := by
  obtain ⟨g1, g2, gc, gp, gn, gco, gnd, gun⟩ := hg
  have eh : ∀ c, bho (bLet t n) c = if bho t c = n ∧ bpa t c = -1 then -1 else bho t c := fun c => rfl
  refine ⟨g1, g2, fun c hc => ?_, fun p hp => ?_, fun m hm => ?_, gco, gnd, fun x y hxy hy => ?_⟩
  · obtain ⟨a1, a2, a3, a4, a5, a6, a7, a8⟩ := gc c hc
    show bba t c ≤ 1 ∧ (bba t c = 1 → bho (bLet t n) c = -1) ∧ -1 ≤ bho (bLet t n) c ∧ bho (bLet t n) c < bnn t ∧ -1 ≤ bpa t c ∧ bpa t c < bnp t ∧ (bpa t c ≠ -1 → bP t (bpa t c).toNat 2 = c) ∧ (bK t ≤ c → bho (bLet t n) c = -1)
    rw [eh]
    by_cases e : bho t c = n ∧ bpa t c = -1
    · rw [if_pos e]
      exact ⟨a1, fun _ => rfl, by omega, by omega, a5, a6, a7, fun _ => rfl⟩
    · rw [if_neg e]
      exact ⟨a1, a2, a3, a4, a5, a6, a7, a8⟩
  · obtain ⟨b1, b2, b3, b4, b5, b6⟩ := gp p hp
    refine ⟨b1, b2, b3, b4, b5, ?_⟩
    show bho (bLet t n) (bP t p 2).toNat = bP t p 3
    have b5' : bpa t (bP t p 2).toNat = p := b5
    rw [eh, if_neg (fun q => by have := q.2; omega)]
    exact b6
  · obtain ⟨c1, c2, c3, c4, c5, c6, c7, c8⟩ := gn m hm
    have hmn : m < bnn t := hm
    have e : ∀ y, y ≠ 2 → up2z (bN t) n 2 0 m y = up2z (bN t) n 2 1 m y := fun y h => by
      rw [up2z_ne (by omega), up2z_ne (by omega)]
    show up2z (bN t) n 2 0 m 1 = bcn (bP t) m (bnp t) ∧ bcn (bP t) m (bnp t) ≤ 5 ∧ (up2z (bN t) n 2 0 m 2 = 0 ∨ up2z (bN t) n 2 0 m 2 = 1) ∧ (0 ≤ up2z (bN t) n 2 0 m 5 ∧ up2z (bN t) n 2 0 m 5 < 4096) ∧ upF (bwl t) n 0 m ≤ 1024 ∧ (up2z (bN t) n 2 0 m 2 = 0 → upF (bwl t) n 0 m = 0) ∧
      (∀ k, k < upF (bwl t) n 0 m → bwy t m k < bK t ∧ bho (bLet t n) (bwy t m k) = m) ∧ ∀ c, c < 1024 → bho (bLet t n) c = m → bpa t c = -1 → zex (fun k => k < upF (bwl t) n 0 m ∧ bwy t m k = c)
    rw [e 1 (by decide), e 5 (by decide)]
    have c7' : ∀ k, k < bwl t m → bwy t m k < bK t ∧ bho t (bwy t m k) = m := c7
    have c8' : ∀ c, c < 1024 → bho t c = m → bpa t c = -1 → zex (fun k => k < bwl t m ∧ bwy t m k = c) := c8
    by_cases q : m = n
    · subst q
      rw [up2z_at, upF_at]
      refine ⟨c1, c2, Or.inl rfl, c4, by omega, fun _ => rfl, fun k hk => absurd hk (Nat.not_lt_zero k), fun c hc h1 h2 => ?_⟩
      exfalso
      rw [eh] at h1
      by_cases w : bho t c = m ∧ bpa t c = -1
      · rw [if_pos w] at h1
        omega
      · rw [if_neg w] at h1
        exact w ⟨h1, h2⟩
    · have c3' : up2z (bN t) n 2 1 m 2 = 0 ∨ up2z (bN t) n 2 1 m 2 = 1 := c3
      have c6' : up2z (bN t) n 2 1 m 2 = 0 → bwl t m = 0 := c6
      rw [up2z_ne (show ¬ (m = n ∧ 2 = 2) by omega)] at c3' c6'
      rw [up2z_ne (show ¬ (m = n ∧ 2 = 2) by omega), upF_ne q]
      refine ⟨c1, c2, c3', c4, c5, c6', fun k hk => ?_, fun c hc h1 h2 => ?_⟩
      · have w := c7' k hk
        refine ⟨w.1, ?_⟩
        have w2 := w.2
        rw [eh, if_neg (fun z => by have := z.1; omega)]
        exact w2
      · refine c8' c hc ?_ h2
        rw [eh] at h1
        by_cases w : bho t c = n ∧ bpa t c = -1
        · rw [if_pos w] at h1
          omega
        · rw [if_neg w] at h1
          exact h1
  · have k := gun x y hxy hy
    have e : ∀ m : Nat, up2z (bN t) n 2 0 m 0 = up2z (bN t) n 2 1 m 0 := fun m => by
      rw [up2z_ne (by omega), up2z_ne (by omega)]
    show up2z (bN t) n 2 0 x 0 ≠ up2z (bN t) n 2 0 y 0
    rw [e, e]
    exact k
theorem bLd_gd {s : BdS} {n hb rb : Nat} (hg : bGd s) (hn : n < bnn s) (hp : 0 < bN s n 1) (h2 : bN s n 2 = 0) (hhi : ∀ c, c < 1024 → bhi s c ≤ hb) (hrp : ∀ m, m < bnn s → 0 ≤ bN s m 4 ∧ bN s m 4 ≤ rb) :
    bGd (bLd s n) ∧ (∀ c, c < 1024 → bhi (bLd s n) c ≤ hb + 1) ∧ ∀ m, m < bnn (bLd s n) → 0 ≤ bN (bLd s n) m 4 ∧ bN (bLd s n) m 4 ≤ rb + 5 := by
  have w := bLp_li 5 (bLs s n) 0 hb rb (bLs_li hg hn hp h2 hhi hrp)
  have w2 : bLi (bLr s n).1 n hb (rb + 5) := w
  unfold bLd
  by_cases e : (bLr s n).2.2 = 1
  · rw [if_pos e]
    refine ⟨bGd_let w2.1, (show ∀ c, c < 1024 → bhi (bLr s n).1 c ≤ hb + 1 from bLi_hi w2), fun m hm => ?_⟩
    show 0 ≤ up2z (bN (bLr s n).1) n 2 0 m 4 ∧ up2z (bN (bLr s n).1) n 2 0 m 4 ≤ rb + 5
    rw [up2z_ne (by omega)]
    exact w2.2.2.2.1 m hm
  · rw [if_neg e]
    refine ⟨bGd_led w2.1, (show ∀ c, c < 1024 → bhi (bLr s n).1 c ≤ hb + 1 from bLi_hi w2), fun m hm => ?_⟩
    show 0 ≤ up2z (up2z (up2z (bN (bLr s n).1) n 2 1) n 3 (bLr s n).2.1) n 5 0 m 4 ∧ up2z (up2z (up2z (bN (bLr s n).1) n 2 1) n 3 (bLr s n).2.1) n 5 0 m 4 ≤ rb + 5
    rw [up2z_ne (by omega), up2z_ne (by omega), up2z_ne (by omega)]
    exact w2.2.2.2.1 m hm
/-- what a net's leading does not touch -/
abbrev bKp (t s : BdS) : Prop := t.1 = s.1 ∧ bsd t = bsd s ∧ bba t = bba s ∧ bpa t = bpa s ∧ bnp t = bnp s ∧ bP t = bP s ∧ bnn t = bnn s ∧ bco t = bco s ∧ bnd t = bnd s
theorem bKp_tr {a b c : BdS} (h : bKp a b) (g : bKp b c) : bKp a c := ⟨h.1.trans g.1, h.2.1.trans g.2.1, h.2.2.1.trans g.2.2.1, h.2.2.2.1.trans g.2.2.2.1, h.2.2.2.2.1.trans g.2.2.2.2.1, h.2.2.2.2.2.1.trans g.2.2.2.2.2.1, h.2.2.2.2.2.2.1.trans g.2.2.2.2.2.2.1, h.2.2.2.2.2.2.2.1.trans g.2.2.2.2.2.2.2.1, h.2.2.2.2.2.2.2.2.trans g.2.2.2.2.2.2.2.2⟩
theorem bJn_kp (s : BdS) (n : Nat) (r : Int) (c : Nat) : bKp (bJn s n r c) s := by
  have p := bRp_p (bs_hi (bWx s n (bPth s n r c) (bPl s n r c)) (bHx (bWx s n (bPth s n r c) (bPl s n r c)) n (bPth s n r c) (bPl s n r c))) (bRm (bWx s n (bPth s n r c) (bPl s n r c)) n (bPth s n r c) (bPl s n r c)) 12
  have q := bWx_p s n (bPth s n r c) (bPl s n r c)
  exact ⟨p.1.trans q.1, p.2.1.trans q.2.1, p.2.2.1.trans q.2.2.2.1, p.2.2.2.2.1.trans q.2.2.2.2.2.1, p.2.2.2.2.2.1.trans q.2.2.2.2.2.2.1, p.2.2.2.2.2.2.1.trans q.2.2.2.2.2.2.2.1, p.2.2.2.2.2.2.2.1.trans q.2.2.2.2.2.2.2.2.1, p.2.2.2.2.2.2.2.2.2.1.trans q.2.2.2.2.2.2.2.2.2.2.1, p.2.2.2.2.2.2.2.2.2.2.trans q.2.2.2.2.2.2.2.2.2.2.2⟩
theorem bKp_r (s : BdS) : bKp s s := ⟨rfl, rfl, rfl, rfl, rfl, rfl, rfl, rfl, rfl⟩
theorem bNx_kp (s : BdS) (n : Nat) : bKp (bNx s n).1 s := by
  by_cases e : bPk s n 0 (bTn s n) = -1
  · by_cases e2 : bPk (bM5 s n) n 1 (bTn s n) = -1
    · rw [bNx_b rfl e rfl e2]
      exact bKp_r s
    · rw [bNx_c rfl e rfl e2]
      exact bKp_tr (bJn_kp _ _ _ _) (bKp_r s)
  · rw [bNx_a rfl e]
    exact bJn_kp _ _ _ _
theorem bLp_kp {n : Nat} : ∀ (k : Nat) (t : BdS) (a : Int), bKp (bLp n k t a).1 t
  | 0, t, a => bKp_r t
  | k + 1, t, a => by
    by_cases e : bAll t n (bTn t n)
    · rw [bLp_a e]
      exact bKp_r t
    · by_cases e2 : (bNx t n).2 = -1
      · rw [bLp_s e e2]
        exact bNx_kp t n
      · rw [bLp_k e e2]
        exact bKp_tr (bLp_kp k _ _) (bNx_kp t n)
theorem bLd_kp (s : BdS) (n : Nat) : bKp (bLd s n) s := by
  have w : bKp (bLr s n).1 s := bKp_tr (bLp_kp 5 (bLs s n) 0) (bKp_r s)
  unfold bLd
  by_cases e : (bLr s n).2.2 = 1
  · rw [if_pos e]; exact w
  · rw [if_neg e]; exact w
