/-! LEADING a net: pad after pad -/
noncomputable def bLp (n : Nat) : Nat → BdS → Int → BdS × Int × Int
  | 0, s, a => (s, a, 0)
  | k + 1, s, a => zite (bAll s n (bTn s n)) (s, a, 0) (if (bNx s n).2 = -1 then ((bNx s n).1, a - 1, 1) else bLp n k (bNx s n).1 (a + (bNx s n).2))
noncomputable def bLs (s : BdS) (n : Nat) : BdS := bWay s n (bFp s n).toNat
noncomputable def bLr (s : BdS) (n : Nat) : BdS × Int × Int := bLp n 5 (bLs s n) 0
noncomputable def bLd (s : BdS) (n : Nat) : BdS := if (bLr s n).2.2 = 1 then bLet (bLr s n).1 n else bs_N (bLr s n).1 (up2z (up2z (up2z (bN (bLr s n).1) n 2 1) n 3 (bLr s n).2.1) n 5 0)
theorem bLp_a {n k : Nat} {s : BdS} {a : Int} (h : bAll s n (bTn s n)) : bLp n k s a = (s, a, 0) := by
  cases k with
  | zero => rfl
  | succ k => exact zite_t h
theorem bLp_s {n k : Nat} {s : BdS} {a : Int} (h : ¬ bAll s n (bTn s n)) (h2 : (bNx s n).2 = -1) : bLp n (k + 1) s a = ((bNx s n).1, a - 1, 1) := (zite_f h).trans (if_pos h2)
theorem bLp_k {n k : Nat} {s : BdS} {a : Int} (h : ¬ bAll s n (bTn s n)) (h2 : (bNx s n).2 ≠ -1) : bLp n (k + 1) s a = bLp n k (bNx s n).1 (a + (bNx s n).2) := (zite_f h).trans (if_neg h2)
theorem bFp_sp {s : BdS} {n : Nat} (hg : bGd s) (hn : n < bnn s) (hp : 0 < bN s n 1) : ∃ p : Nat, p < bnp s ∧ bP s p 3 = n ∧ bFp s n = bP s p 2 := by
  obtain ⟨g1, g2, gc, gp, gn, gco, gnd, gun⟩ := hg
  rcases zlow_sp (fun p => bP s p 3 = n) (bnp s) with q | q
  · exfalso
    have w : ∀ p, p ≤ bnp s → bcn (bP s) n p = 0 := by
      intro p
      induction p with
      | zero => intro _; rfl
      | succ p ih =>
        intro hp2
        unfold bcn
        rw [ih (by omega), if_neg (q.2 p (by omega))]
    have w2 := w (bnp s) (Nat.le_refl _)
    have w3 := (gn n hn).1
    omega
  · obtain ⟨p, p1, p2, p3, -⟩ := q
    refine ⟨p, p1, p3, ?_⟩
    unfold bFp
    rw [p2, if_neg (by omega)]
    rfl
theorem bLs_li {s : BdS} {n hb rb : Nat} (hg : bGd s) (hn : n < bnn s) (hp : 0 < bN s n 1) (h2 : bN s n 2 = 0) (hhi : ∀ c, c < 1024 → bhi s c ≤ hb) (hrp : ∀ m, m < bnn s → 0 ≤ bN s m 4 ∧ bN s m 4 ≤ rb) : bLi (bLs s n) n hb rb := by
  obtain ⟨p, p1, p2, p3⟩ := bFp_sp hg hn hp
  obtain ⟨g1, g2, gc, gp, gn, gco, gnd, gun⟩ := hg
  obtain ⟨b1, b2, b3, b4, b5, b6⟩ := gp p p1
  obtain ⟨d1, d2, d3, d4, d5, d6, d7, d8⟩ := gn n hn
  have hwl := d6 h2
  obtain ⟨c, hc⟩ : ∃ c, c = (bFp s n).toNat := ⟨_, rfl⟩
  have hc1 : (c : Int) = bP s p 2 := by omega
  have hcK : c < bK s := by
    have e : ((bW s * bH s * bD s : Nat) : Int) = (bK s : Nat) := rfl
    omega
  have hch : bho s c = n := by
    have e : (bP s p 2).toNat = c := by omega
    rw [e] at b6
    omega
  have eS : bLs s n = bWay s n c := by rw [hc]; rfl
  have ewl : ∀ m, bwl (bWay s n c) m = if m = n then 1 else bwl s m := fun m => by
    show upF (bwl s) n (bwl s n + 1) m = _
    unfold upF
    by_cases e : m = n
    · rw [if_pos e, if_pos e, hwl]
    · rw [if_neg e, if_neg e]
  have ewy : ∀ m k, bwy (bWay s n c) m k = if m = n ∧ k = 0 then c else bwy s m k := fun m k => by
    show up2 (bwy s) n (bwl s n) c m k = _
    unfold up2
    rw [hwl]
  rw [eS]
  refine ⟨⟨g1, g2, gc, gp, fun m hm => ?_, gco, gnd, fun a b hab hb2 => ?_⟩, hn, fun c hc => Nat.le_trans (hhi c hc) (Nat.le_add_right _ _), hrp, ?_⟩
  · obtain ⟨c1, c2, c3, c4, c5, c6, c7, c8⟩ := gn m hm
    show up2z (bN s) n 2 1 m 1 = bcn (bP s) m (bnp s) ∧ bcn (bP s) m (bnp s) ≤ 5 ∧ (up2z (bN s) n 2 1 m 2 = 0 ∨ up2z (bN s) n 2 1 m 2 = 1) ∧ (0 ≤ up2z (bN s) n 2 1 m 5 ∧ up2z (bN s) n 2 1 m 5 < 4096) ∧ bwl (bWay s n c) m ≤ 1024 ∧ (up2z (bN s) n 2 1 m 2 = 0 → bwl (bWay s n c) m = 0) ∧
      (∀ k, k < bwl (bWay s n c) m → bwy (bWay s n c) m k < bK s ∧ bho s (bwy (bWay s n c) m k) = m) ∧ ∀ c', c' < 1024 → bho s c' = m → bpa s c' = -1 → zex (fun k => k < bwl (bWay s n c) m ∧ bwy (bWay s n c) m k = c')
    rw [up2z_ne (show ¬ (m = n ∧ 1 = 2) by omega), up2z_ne (show ¬ (m = n ∧ 5 = 2) by omega), ewl]
    by_cases e : m = n
    · subst e
      rw [if_pos rfl, up2z_at]
      refine ⟨c1, c2, Or.inr rfl, c4, by omega, fun q => absurd q (by decide), fun k hk => ?_, fun c' h3 h4 h5 => ?_⟩
      · rw [ewy, if_pos ⟨rfl, by omega⟩]
        exact ⟨hcK, hch⟩
      · exfalso
        obtain ⟨k, k1, k2⟩ := c8 c' h3 h4 h5
        omega
    · rw [if_neg e, up2z_ne (by omega)]
      refine ⟨c1, c2, c3, c4, c5, c6, fun k hk => ?_, fun c' h3 h4 h5 => ?_⟩
      · rw [ewy, if_neg (fun q => e q.1)]
        exact c7 k hk
      · obtain ⟨k, k1, k2⟩ := c8 c' h3 h4 h5
        exact Exists.intro k ⟨k1, by rw [ewy, if_neg (fun q => e q.1)]; exact k2⟩
  · show up2z (bN s) n 2 1 a 0 ≠ up2z (bN s) n 2 1 b 0
    rw [up2z_ne (by omega), up2z_ne (by omega)]
    exact gun a b hab hb2
  · have et : bTr (bWay s n c) n = fun d => (False ∨ d = c) := funext (fun d => propext ⟨fun q => by
      obtain ⟨k, k1, k2⟩ := q
      rw [ewl, if_pos rfl] at k1
      rw [ewy, if_pos ⟨rfl, by omega⟩] at k2
      exact Or.inr k2.symm, fun q => by
      rcases q with q | q
      · exact q.elim
      · exact Exists.intro 0 ⟨by rw [ewl, if_pos rfl]; omega, by rw [ewy, if_pos ⟨rfl, rfl⟩]; exact q.symm⟩⟩)
    have ez : ∀ k, zct (fun _ => False) k = 0 := by
      intro k
      induction k with
      | zero => rfl
      | succ k ih =>
        show zct (fun _ => False) k + zite False 1 0 = 0
        rw [ih, zite_f (fun q => q)]
    rw [ewl, if_pos rfl, et, zct_eq (P := fun _ => False) (c := c) (fun q => q) (k := bK (bWay s n c)) hcK, ez]
/-- one more pad -/
theorem bNx_li {s : BdS} {n hb rb : Nat} (h : bLi s n hb rb) : bLi (bNx s n).1 n hb (rb + 1) := by
  have up : ∀ {t : BdS}, bLi t n hb rb → bLi t n hb (rb + 1) := fun h => ⟨h.1, h.2.1, h.2.2.1, fun m hm => by have := h.2.2.2.1 m hm; omega, h.2.2.2.2⟩
  have gB9 : bK s ≤ 1024 := h.1.1.2.2.2
  have hnn : bnn s ≤ 12 := h.1.2.1.2
  have hM := bMc_b (n := n) gB9 (fun c hc => by have := bLi_h h c hc; omega) (bK s)
  have h5 : bLi (bM5 s n) n hb rb := bLi_5 h hM
  by_cases e : bPk s n 0 (bTn s n) = -1
  · by_cases e2 : bPk (bM5 s n) n 1 (bTn s n) = -1
    · rw [bNx_b rfl e rfl e2]
      exact up h5
    · rw [bNx_c rfl e rfl e2]
      exact bJn_li h5 (bPk_p (s := bM5 s n) rfl e2).2.2.1
  · rw [bNx_a rfl e]
    exact bJn_li h (bPk_p rfl e).2.2.1
theorem bLs_tr {s : BdS} {n : Nat} (h : bwl s n = 0) (j : Nat) : bTn (bLs s n) n j = if j = (bFp s n).toNat then 1 else 0 := by
  have e1 : bwl (bLs s n) n = 1 := by
    show upF (bwl s) n (bwl s n + 1) n = 1
    rw [upF_at, h]
  have e2 : bwy (bLs s n) n 0 = (bFp s n).toNat := by
    show up2 (bwy s) n (bwl s n) (bFp s n).toNat n 0 = _
    unfold up2
    rw [if_pos ⟨rfl, h.symm⟩]
  unfold bTn
  by_cases e : j = (bFp s n).toNat
  · rw [if_pos e]
    exact zite_t (Exists.intro 0 ⟨by rw [e1]; omega, by rw [e2, e]⟩)
  · rw [if_neg e]
    refine zite_f (fun q => ?_)
    obtain ⟨k, k1, k2⟩ := q
    rw [e1] at k1
    rw [show k = 0 by omega, e2] at k2
    exact e k2.symm
