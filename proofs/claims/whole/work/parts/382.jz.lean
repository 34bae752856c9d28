/-- what holds while a net is led -/
def bLi (s : BdS) (n hb rb : Nat) : Prop := bGd (bs_N s (up2z (bN s) n 2 1)) ∧ n < bnn s ∧ (∀ c, c < 1024 → bhi s c ≤ hb + zite (bTr s n c) 1 0) ∧ (∀ m, m < bnn s → 0 ≤ bN s m 4 ∧ bN s m 4 ≤ rb) ∧ bwl s n = zct (bTr s n) (bK s)
theorem bJ2_li {s : BdS} {n hb rb L : Nat} {f : Nat → Nat} (h : bLi s n hb rb) (H1 : ∀ j, j < L → f j < bK s) (H2 : ∀ i j, i < j → j < L → f i ≠ f j) (H3 : ∀ k, k ≤ L → zct (bTp s n f k) (bK s) = zct (bTr s n) (bK s) + k) (H4 : ∀ j, j < L → bba s (f j) = 0 ∧ (bHl s n (f j) → bpa s (f j) = -1)) (H5 : ∀ j, j < L → ¬ bTr s n (f j)) : bLi (bJ2 s n f L L) n hb (rb + 1) := by
  obtain ⟨hg, hn, hhi, hrp, hct⟩ := h
  obtain ⟨g1, ⟨gnp, gnn⟩, gc, gp, gn, gco, gnd, gun⟩ := hg
  have gB9 : bK s ≤ 1024 := g1.2.2.2
  have gnn' : bnn s ≤ 12 := gnn
  have q := bWx_p s n f L
  have w := bWx_w s n f L
  have hho : ∀ c, c < 1024 → -1 ≤ bho s c ∧ bho s c < bnn s := fun c hc => ⟨(gc c hc).2.2.1, (gc c hc).2.2.2.1⟩
  have hf : ∀ j, j < L → f j < 1024 := fun j hj => Nat.lt_of_lt_of_le (H1 j hj) gB9
  have hj := bJ1_p (s := s) (n := n) (f := f) (k := L) gnn hn hho hf
  obtain ⟨X, hX⟩ : ∃ X, X = bs_hi (bWx s n f L) (bHx (bWx s n f L) n f L) := ⟨_, rfl⟩
  obtain ⟨v, hv⟩ : ∃ v, v = bRm (bWx s n f L) n f L := ⟨_, rfl⟩
  have hJ : bJ1 s n f L = bRp X v 12 := by rw [hX, hv]; rfl
  have xho : bho X = bho s := by rw [hX]; exact q.2.2.1
  have xpa : bpa X = bpa s := by rw [hX]; exact q.2.2.2.2.2.1
  have xba : bba X = bba s := by rw [hX]; exact q.2.2.2.1
  have xN : bN X = bN s := by rw [hX]; exact q.2.2.2.2.2.2.2.2.2.1
  have xnd : bnd X = bnd s := by rw [hX]; exact q.2.2.2.2.2.2.2.2.2.2.2
  have xw : ∀ m, m ≠ n → bwl X m = bwl s m ∧ ∀ a, bwy X m a = bwy s m a := by rw [hX]; exact w.2.2.2
  have p := bRp_p X v 12
  have hl : ∀ c, bHl (bWx s n f L) n c = bHl s n c := fun c => by
    unfold bHl
    rw [q.2.2.1]
  have hho2 : ∀ c, c < 1024 → -1 ≤ bho (bWx s n f L) c ∧ bho (bWx s n f L) c < bnn s := by
    rw [q.2.2.1]; exact hho
  have rb1 : ∀ m : Nat, m < 12 → bBit v m → zex (fun j => j < L ∧ bHl s n (f j) ∧ bho s (f j) = m) := fun m hm hb2 => by
    rw [hv] at hb2
    obtain ⟨j, j1, j2, j3⟩ := (bRm_b (s := bWx s n f L) (n := n) (f := f) gnn' hho2 L hf).2 m hm hb2
    rw [hl] at j2
    rw [q.2.2.1] at j3
    exact Exists.intro j ⟨j1, j2, j3⟩
  have rb2 : ∀ m j : Nat, m < 12 → j < L → bHl s n (f j) → bho s (f j) = m → bBit v m := fun m j hm hjL h1 h2 => by
    rw [hv]
    exact bRm_bit (s := bWx s n f L) (fun c hc => by have := hho2 c hc; omega) L hf m j hm hjL (by rw [hl]; exact h1) (by rw [q.2.2.1]; exact h2)
  have nb : ¬ bBit v n := fun k => by
    obtain ⟨j, j1, j2, j3⟩ := rb1 n (by omega) k
    exact j2.2 j3
  have ho : ∀ c, bho (bJ2 s n f L L) c = zite (zex (fun j => j < L ∧ f j = c)) (n : Int) (bho (bRp X v 12) c) := fun c => by
    rw [← hJ]; rfl
  have hp1 : ∀ c, zex (fun j => j < L ∧ f j = c) → bho (bJ2 s n f L L) c = n := fun c k => by rw [ho, zite_t k]
  have hp2 : ∀ c, ¬ zex (fun j => j < L ∧ f j = c) → bho (bJ2 s n f L L) c = bho (bRp X v 12) c := fun c k => by rw [ho, zite_f k]
  have rh : ∀ c, bho (bRp X v 12) c = bho s c ∨ (bho (bRp X v 12) c = -1 ∧ bpa s c = -1 ∧ ∃ m : Nat, m < 12 ∧ bBit v m ∧ bho s c = m) := fun c => by
    have k := (bRp_h X v c 12).1
    rw [xho, xpa] at k
    exact k
  have rh2 : ∀ c m : Nat, m < 12 → bBit v m → bpa s c = -1 → bho (bRp X v 12) c ≠ m := fun c m h1 h2 h3 => (bRp_h X v c 12).2 m h1 h2 (by rw [xpa]; exact h3)
  have eS : (bJ2 s n f L L).1 = s.1 := hj.1
  have eK : bK (bJ2 s n f L L) = bK s := by
    show (bJ2 s n f L L).1.1 * (bJ2 s n f L L).1.2.1 * (bJ2 s n f L L).1.2.2 = s.1.1 * s.1.2.1 * s.1.2.2
    rw [eS]
  have enn : bnn (bJ2 s n f L L) = bnn s := hj.2.1
  have enp : bnp (bJ2 s n f L L) = bnp s := hj.2.2.2.1
  have eP : bP (bJ2 s n f L L) = bP s := hj.2.2.2.2.1
  have epa : bpa (bJ2 s n f L L) = bpa s := hj.2.2.2.2.2.1
  have eco : bco (bJ2 s n f L L) = bco s := hj.2.2.1
  have eba : bba (bJ2 s n f L L) = bba s := by
    show bba (bJ1 s n f L) = _
    rw [hJ, p.2.2.1, xba]
  have ehi : bhi (bJ2 s n f L L) = bHx (bWx s n f L) n f L := by
    show bhi (bJ1 s n f L) = _
    rw [hJ, p.2.2.2.1, hX]
  have end_ : bnd (bJ2 s n f L L) = bnd s := by
    show bnd (bJ1 s n f L) = _
    rw [hJ, p.2.2.2.2.2.2.2.2.2.2, xnd]
  have eN : ∀ m, (bN s m 4 ≤ bN (bJ2 s n f L L) m 4 ∧ bN (bJ2 s n f L L) m 4 ≤ bN s m 4 + 1) ∧ ∀ y, y ≠ 2 → y ≠ 4 → bN (bJ2 s n f L L) m y = bN s m y := fun m => by
    have k := bRp_N4 X v m 12
    rw [xN] at k
    show (bN s m 4 ≤ bN (bJ1 s n f L) m 4 ∧ bN (bJ1 s n f L) m 4 ≤ bN s m 4 + 1) ∧ ∀ y, y ≠ 2 → y ≠ 4 → bN (bJ1 s n f L) m y = bN s m y
    rw [hJ]
    refine ⟨⟨k.1.1, Int.le_trans k.1.2 ?_⟩, k.2⟩
    split <;> omega
  have e2 : ∀ m, m < 12 → m ≠ n → (bBit v m → bN (bJ2 s n f L L) m 2 = 0 ∧ bwl (bJ2 s n f L L) m = 0) ∧ (¬ bBit v m → bN (bJ2 s n f L L) m 2 = bN s m 2 ∧ bwl (bJ2 s n f L L) m = bwl s m) := fun m hm hmn => by
    have k := bRp_2 X v m 12
    show (bBit v m → bN (bJ1 s n f L) m 2 = 0 ∧ bwl (bJ1 s n f L) m = 0) ∧ (¬ bBit v m → bN (bJ1 s n f L) m 2 = bN s m 2 ∧ bwl (bJ1 s n f L) m = bwl s m)
    rw [hJ]
    refine ⟨fun a => k.1 ⟨a, hm⟩, fun a => ?_⟩
    have k2 := k.2 (fun b => a b.1)
    rw [xN, (xw m hmn).1] at k2
    exact k2
  have ewy : ∀ m, m ≠ n → ∀ a, bwy (bJ2 s n f L L) m a = bwy s m a := fun m hmn a => by
    show bwy (bJ1 s n f L) m a = _
    rw [hJ, p.2.2.2.2.2.2.2.2.1, (xw m hmn).2]
  have ewn : bwl (bJ2 s n f L L) n = bwl s n + L := hj.2.2.2.2.2.2.1
  have etr : bTr (bJ2 s n f L L) n = bTp s n f L := hj.2.2.2.2.2.2.2.2.2
  refine ⟨⟨?_, ?_, fun c hc => ?_, fun a ha => ?_, fun m hm => ?_, ?_, ?_, fun a b hab hb2 => ?_⟩, by rw [enn]; exact hn, fun c hc => ?_, fun m hm => ?_, ?_⟩
  · show (1 ≤ (bJ2 s n f L L).1.1 ∧ (bJ2 s n f L L).1.1 ≤ 16) ∧ (1 ≤ (bJ2 s n f L L).1.2.1 ∧ (bJ2 s n f L L).1.2.1 ≤ 16) ∧ (1 ≤ (bJ2 s n f L L).1.2.2 ∧ (bJ2 s n f L L).1.2.2 ≤ 4) ∧ (bJ2 s n f L L).1.1 * (bJ2 s n f L L).1.2.1 * (bJ2 s n f L L).1.2.2 ≤ 1024
    rw [eS]
    exact g1
  · show bnp (bJ2 s n f L L) ≤ 40 ∧ bnn (bJ2 s n f L L) ≤ 12
    rw [enp, enn]
    exact ⟨gnp, gnn⟩
  · obtain ⟨a1, a2, a3, a4, a5, a6, a7, a8⟩ := gc c hc
    show bba (bJ2 s n f L L) c ≤ 1 ∧ (bba (bJ2 s n f L L) c = 1 → bho (bJ2 s n f L L) c = -1) ∧ -1 ≤ bho (bJ2 s n f L L) c ∧ bho (bJ2 s n f L L) c < bnn (bJ2 s n f L L) ∧ -1 ≤ bpa (bJ2 s n f L L) c ∧ bpa (bJ2 s n f L L) c < bnp (bJ2 s n f L L) ∧ (bpa (bJ2 s n f L L) c ≠ -1 → bP (bJ2 s n f L L) (bpa (bJ2 s n f L L) c).toNat 2 = c) ∧ (bK (bJ2 s n f L L) ≤ c → bho (bJ2 s n f L L) c = -1)
    rw [eba, enn, epa, enp, eP, eK]
    by_cases k : zex (fun j => j < L ∧ f j = c)
    · rw [hp1 c k]
      obtain ⟨j, j1, j2⟩ := k
      have h4 := H4 j j1
      have h1 := H1 j j1
      rw [j2] at h4 h1
      exact ⟨a1, fun k2 => absurd h4.1 (by omega), by omega, by omega, a5, a6, a7, fun k2 => by omega⟩
    · rw [hp2 c k]
      rcases rh c with e | e
      · rw [e]
        exact ⟨a1, a2, a3, a4, a5, a6, a7, a8⟩
      · rw [e.1]
        exact ⟨a1, fun _ => rfl, by omega, by omega, a5, a6, a7, fun _ => rfl⟩
  · have ha' : a < bnp s := by rw [← enp]; exact ha
    obtain ⟨b1, b2, b3, b4, b5, b6⟩ := gp a ha'
    show (0 ≤ bP (bJ2 s n f L L) a 0 ∧ bP (bJ2 s n f L L) a 0 < 60) ∧ (0 ≤ bP (bJ2 s n f L L) a 1 ∧ bP (bJ2 s n f L L) a 1 < 16) ∧ (0 ≤ bP (bJ2 s n f L L) a 2 ∧ bP (bJ2 s n f L L) a 2 < (bK (bJ2 s n f L L) : Nat)) ∧ (0 ≤ bP (bJ2 s n f L L) a 3 ∧ bP (bJ2 s n f L L) a 3 < bnn (bJ2 s n f L L)) ∧ bpa (bJ2 s n f L L) (bP (bJ2 s n f L L) a 2).toNat = a ∧ bho (bJ2 s n f L L) (bP (bJ2 s n f L L) a 2).toNat = bP (bJ2 s n f L L) a 3
    rw [eP, enn, epa, eK]
    refine ⟨b1, b2, b3, b4, b5, ?_⟩
    have b5' : bpa s (bP s a 2).toNat = a := b5
    have b6' : bho s (bP s a 2).toNat = bP s a 3 := b6
    have b4' : 0 ≤ bP s a 3 := b4.1
    by_cases k : zex (fun j => j < L ∧ f j = (bP s a 2).toNat)
    · rw [hp1 _ k]
      obtain ⟨j, j1, j2⟩ := k
      have h4 := (H4 j j1).2
      rw [j2] at h4
      have h5 : ¬ bHl s n (bP s a 2).toNat := fun k2 => by
        have := h4 k2
        omega
      exact Classical.byContradiction (fun k2 => h5 (And.intro (by omega) (by omega)))
    · rw [hp2 _ k]
      rcases rh (bP s a 2).toNat with e | e
      · rw [e]; exact b6'
      · have := e.2.1
        omega
  · have hm' : m < bnn s := by rw [← enn]; exact hm
    have hm12 : m < 12 := by omega
    obtain ⟨c1, c2, c3, c4, c5, c6, c7, c8⟩ := gn m hm'
    have c1' : bN s m 1 = bcn (bP s) m (bnp s) := by
      have k : up2z (bN s) n 2 1 m 1 = bcn (bP s) m (bnp s) := c1
      rw [up2z_ne (by omega)] at k
      exact k
    have c3' : up2z (bN s) n 2 1 m 2 = 0 ∨ up2z (bN s) n 2 1 m 2 = 1 := c3
    have c4' : 0 ≤ bN s m 5 ∧ bN s m 5 < 4096 := by
      have k : 0 ≤ up2z (bN s) n 2 1 m 5 ∧ up2z (bN s) n 2 1 m 5 < 4096 := c4
      rw [up2z_ne (by omega)] at k
      exact k
    have c6' : up2z (bN s) n 2 1 m 2 = 0 → bwl s m = 0 := c6
    have c7' : ∀ k, k < bwl s m → bwy s m k < bK s ∧ bho s (bwy s m k) = m := c7
    have c8' : ∀ c, c < 1024 → bho s c = m → bpa s c = -1 → zex (fun k => k < bwl s m ∧ bwy s m k = c) := c8
    show up2z (bN (bJ2 s n f L L)) n 2 1 m 1 = bcn (bP (bJ2 s n f L L)) m (bnp (bJ2 s n f L L)) ∧ bcn (bP (bJ2 s n f L L)) m (bnp (bJ2 s n f L L)) ≤ 5 ∧ (up2z (bN (bJ2 s n f L L)) n 2 1 m 2 = 0 ∨ up2z (bN (bJ2 s n f L L)) n 2 1 m 2 = 1) ∧ (0 ≤ up2z (bN (bJ2 s n f L L)) n 2 1 m 5 ∧ up2z (bN (bJ2 s n f L L)) n 2 1 m 5 < 4096) ∧ bwl (bJ2 s n f L L) m ≤ 1024 ∧ (up2z (bN (bJ2 s n f L L)) n 2 1 m 2 = 0 → bwl (bJ2 s n f L L) m = 0) ∧
      (∀ k, k < bwl (bJ2 s n f L L) m → bwy (bJ2 s n f L L) m k < bK (bJ2 s n f L L) ∧ bho (bJ2 s n f L L) (bwy (bJ2 s n f L L) m k) = m) ∧ ∀ c, c < 1024 → bho (bJ2 s n f L L) c = m → bpa (bJ2 s n f L L) c = -1 → zex (fun k => k < bwl (bJ2 s n f L L) m ∧ bwy (bJ2 s n f L L) m k = c)
    rw [up2z_ne (show ¬ (m = n ∧ 1 = 2) by omega), up2z_ne (show ¬ (m = n ∧ 5 = 2) by omega), (eN m).2 1 (by omega) (by omega), (eN m).2 5 (by omega) (by omega), eP, enp, epa, eK]
    by_cases hmn : m = n
    · subst hmn
      rw [up2z_at, ewn]
      have hcount := H3 L (Nat.le_refl L)
      have hcle := zct_le (bTp s m f L) (bK s)
      refine ⟨c1', c2, Or.inr rfl, c4', by omega, fun k => absurd k (by decide), fun k hk => ?_, fun c hc k1 k2 => ?_⟩
      · have e3 : bTp s m f L (bwy (bJ2 s m f L L) m k) := by
          rw [← etr]
          exact Exists.intro k ⟨by rw [ewn]; exact hk, rfl⟩
        rcases e3 with e3 | e3
        · obtain ⟨i, i1, i2⟩ := e3
          have c7i := c7' i i1
          rw [i2] at c7i
          refine ⟨c7i.1, ?_⟩
          by_cases k3 : zex (fun j => j < L ∧ f j = bwy (bJ2 s m f L L) m k)
          · exact hp1 _ k3
          · rw [hp2 _ k3]
            rcases rh (bwy (bJ2 s m f L L) m k) with e | ⟨-, -, m', m1, m2, m3⟩
            · rw [e]; exact c7i.2
            · exfalso
              have : m' = m := by have := c7i.2; omega
              rw [this] at m2
              exact nb m2
        · refine ⟨?_, hp1 _ e3⟩
          obtain ⟨j, j1, j2⟩ := e3
          rw [← j2]
          exact H1 j j1
      · have e3 : bTp s m f L c := by
          by_cases k3 : zex (fun j => j < L ∧ f j = c)
          · exact Or.inr k3
          · rw [hp2 _ k3] at k1
            rcases rh c with e | e
            · rw [e] at k1
              exact Or.inl (c8' c hc k1 k2)
            · have := e.1
              omega
        rw [← etr] at e3
        obtain ⟨i, i1, i2⟩ := e3
        exact Exists.intro i ⟨by rw [← ewn]; exact i1, i2⟩
    · rw [up2z_ne (by omega)]
      rw [up2z_ne (by omega)] at c3' c6'
      have e3 := e2 m hm12 hmn
      by_cases kb : bBit v m
      · obtain ⟨e4, e5⟩ := e3.1 kb
        rw [e4, e5]
        refine ⟨c1', c2, Or.inl rfl, c4', by omega, fun _ => rfl, fun k hk => absurd hk (Nat.not_lt_zero k), fun c hc k1 k2 => ?_⟩
        exfalso
        by_cases k3 : zex (fun j => j < L ∧ f j = c)
        · rw [hp1 c k3] at k1
          omega
        · rw [hp2 c k3] at k1
          exact rh2 c m hm12 kb k2 k1
      · obtain ⟨e4, e5⟩ := e3.2 kb
        rw [e4, e5]
        refine ⟨c1', c2, c3', c4', c5, c6', fun k hk => ?_, fun c hc k1 k2 => ?_⟩
        · rw [ewy m hmn]
          have c7k := c7' k hk
          refine ⟨c7k.1, ?_⟩
          by_cases k3 : zex (fun j => j < L ∧ f j = bwy s m k)
          · exfalso
            obtain ⟨j, j1, j2⟩ := k3
            have k4 := c7k.2
            rw [← j2] at k4
            exact kb (rb2 m j hm12 j1 (And.intro (by omega) (by omega)) k4)
          · rw [hp2 _ k3]
            rcases rh (bwy s m k) with e | ⟨-, -, m', m1, m2, m3⟩
            · rw [e]; exact c7k.2
            · exfalso
              have : m' = m := by have := c7k.2; omega
              rw [this] at m2
              exact kb m2
        · have k4 : bho s c = m := by
            by_cases k3 : zex (fun j => j < L ∧ f j = c)
            · rw [hp1 c k3] at k1
              omega
            · rw [hp2 c k3] at k1
              rcases rh c with e | e
              · rw [e] at k1; exact k1
              · have := e.1
                omega
          obtain ⟨i, i1, i2⟩ := c8' c hc k4 k2
          exact Exists.intro i ⟨i1, by rw [ewy m hmn]; exact i2⟩
  · show ∀ k l, k < 3 → l < 4 → bco (bJ2 s n f L L) k l ≤ 50
    rw [eco]; exact gco
  · show ∀ x, x < 960 → -1 ≤ bnd (bJ2 s n f L L) x ∧ bnd (bJ2 s n f L L) x < 960
    rw [end_]; exact gnd
  · have hb3 : b < bnn s := by rw [← enn]; exact hb2
    have k := gun a b hab hb3
    show up2z (bN (bJ2 s n f L L)) n 2 1 a 0 ≠ up2z (bN (bJ2 s n f L L)) n 2 1 b 0
    have k' : up2z (bN s) n 2 1 a 0 ≠ up2z (bN s) n 2 1 b 0 := k
    rw [up2z_ne (by omega), up2z_ne (by omega)] at k' ⊢
    rw [(eN a).2 0 (by omega) (by omega), (eN b).2 0 (by omega) (by omega)]
    exact k'
  · rw [ehi, etr]
    have k := bHx_1 (s := bWx s n f L) (n := n) (f := f) L H2 c
    rw [q.2.2.2.2.1] at k
    have k0 := hhi c hc
    by_cases e : zex (fun j => j < L ∧ f j = c)
    · rw [zite_t (show bTp s n f L c from Or.inr e)]
      obtain ⟨j, j1, j2⟩ := e
      rw [zite_f (by rw [← j2]; exact H5 j j1)] at k0
      omega
    · have k1 := k.2 (fun j hj h => e (Exists.intro j ⟨hj, h⟩))
      rw [k1]
      by_cases e2 : bTr s n c
      · rw [zite_t (show bTp s n f L c from Or.inl e2)]
        rw [zite_t e2] at k0
        exact k0
      · rw [zite_f e2] at k0
        omega
  · have k := (eN m).1
    have k2 := hrp m (by rw [← enn]; exact hm)
    omega
  · rw [ewn, etr, eK, H3 L (Nat.le_refl L), hct]
