/-! bd3 -/
def T_A_letGo : ZT := fun args I L R S Q => ∃ (b : Nat) (s : BdS) (n : Nat) (x : Int), args = [zvr 82, zvi x] ∧ (zSh S) ∧ (zRs R) ∧ (zBA b s I L) ∧ (x = n ∧ n < bnn s) ∧ (bWok s n) ∧ ∀ (I' : ZI), (zBA b (bLet s n) I' L) → (∀ c j : Nat, ¬ c = 86 → ¬ c = 91 → ¬ c = 93 → I' c j = I c j) → Q none I' L R S
theorem sn_A_letGo : ZSnd 2 0 15 T_A_letGo := ZSnd.loops (zT0_15 1) (by
  rintro args I L R S Q hz ⟨b, s, n, x, rfl, hS, hR, hBA, hx, hW, hQ⟩
  obtain ⟨⟨hb0, hbw, hbh, hbd, hbs⟩, hnb, hcl, hPT, hNT, hwy, hco, hnd⟩ := id hBA
  obtain ⟨hP1, hP2, hP3, hP4⟩ := id hPT
  obtain ⟨hN1, hN2, hN3, hN4⟩ := id hNT
  obtain ⟨hW1, hW2, hW3⟩ := id hW
  refine ⟨[18], fun nM tM lsM stM I1 L1 R1 S1 => match tM with
      | 18 => ∃ (k : Nat), nM = ((1025 - k), 0, 0) ∧ lsM = [some (zvr (82)), some (zvi (n)), some (zvi (k)), none] ∧ stM = [] ∧ L1 = L ∧ R1 = R ∧ S1 = S ∧ (k ≤ bwl s n) ∧ (∀ c : Nat, c < 1024 → I1 86 c = zite (zex (fun q => q < k ∧ bwy s n q = c) ∧ bpa s c = -1) (-1) (bho s c)) ∧ (∀ c j : Nat, ¬ c = 86 → I1 c j = I c j)
      | _ => False, rfl, ?_, ⟨?_, True.intro⟩⟩
  · refine And.intro (by omega) ⟨(fun h1 => False.elim (by omega)), fun h1 => ?_⟩
    refine And.intro (zA_82 hS) (zrdR (v := some 90) (zR_82_11 hR) ?_)
    refine And.intro (zA_90 hS) (zrd (v := (bnn s)) hN2 ?_)
    refine And.intro ⟨(by omega), (by omega)⟩ ⟨fun h12 => ?_, (fun h12 => False.elim (by omega))⟩
    refine ⟨((1025 - (0 : Nat)), 0, 0), [some (zvr (82)), some (zvi (n)), some (zvi ((0 : Nat))), none], ⟨rfl, (congrArg (fun z => some (zvi z)) (by omega)), rfl, rfl⟩, 0, rfl, rfl, rfl, rfl, rfl, rfl, (by omega), (fun c hc => (hcl c hc).2.2.1.trans (zite_f (fun q => by obtain ⟨w, hw⟩ := q.1; exact absurd hw.1 (Nat.not_lt_zero w))).symm), (fun c j h0 => rfl)⟩
  · rintro nM lsM stM I1 L1 R1 S1 hz1 ⟨k, rfl, rfl, rfl, rfl, rfl, rfl, hk, hho, fr⟩
    refine And.intro (zA_82 hS) (zrdR (v := some 93) (zR_82_13 hR) ?_)
    refine And.intro (zP_93 hS (by omega) (by omega)) (fun v24 e24 r24 => ?_)
    have f24 : v24 = bwl s n := (e24.trans ((congrArg (I1 93) (by omega)).trans ((fr 93 n (by omega)).trans (hwy n (by omega)).1)))
    refine And.intro ⟨(by omega), r24⟩ ⟨fun h25 => ?_, fun h25 => ?_⟩
    · refine And.intro (zA_82 hS) (zrdR (v := some 93) (zR_82_13 hR) ?_)
      refine And.intro ⟨(zx0 rfl), (zP_93 hS (by omega) (by omega))⟩ ⟨_, (zWi (zRb rfl)), ?_⟩
      refine And.intro (zA_82 hS) (zrdR (v := some 90) (zR_82_11 hR) ?_)
      refine And.intro (zA_90 hS) ⟨_, sn_A_set.up (by decide), ?_⟩
      refine ⟨_, _, _, _, n, 2, (n : Int), (2 : Int), (0 : Int), rfl, hS, hR, (zRw_90 hR hS), (zRT_fr hNT (fun c j q => zxcj (by omega) (fr c j (by omega)))), (by omega), (by omega), (zRb rfl), ?_⟩
      intro I78o p78hT2 p78bfr
      refine hQ _ ?_ (fun c j h0 h1 h2 => ((p78bfr c j (by omega)).trans (zxu h2 ((fr c j (by omega)).trans rfl))))
      · obtain rfl : k = bwl s n := by omega
        have hB1 : zBA b (bs_wl (bs_ho s (fun c => if bho s c = n ∧ bpa s c = -1 then -1 else bho s c)) (upF (bwl s) n 0)) (xu I1 93 (n : Int).toNat 0) L1 := by
          refine ⟨⟨(fr 82 0 (by omega)).trans hb0, (fr 82 1 (by omega)).trans hbw, (fr 82 2 (by omega)).trans hbh, (fr 82 3 (by omega)).trans hbd, hbs⟩, fun c x h1 h2 => (fr 83 _ (by omega)).trans (hnb c x h1 h2), fun c hc => ⟨(fr 84 c (by omega)).trans (hcl c hc).1, (fr 85 c (by omega)).trans (hcl c hc).2.1, (show _ = I1 86 c from rfl).trans ((hho c hc).trans ?_), (fr 87 c (by omega)).trans (hcl c hc).2.2.2⟩, zRT_fr hPT (fun c j q => zxcj (by omega) (fr c j (by omega))), zRT_fr hNT (fun c j q => zxcj (by omega) (fr c j (by omega))), fun m hm => ?_, fun l hl => ⟨(fr 94 l (by omega)).trans (hco l hl).1, (fr 95 l (by omega)).trans (hco l hl).2.1, (fr 96 l (by omega)).trans (hco l hl).2.2⟩, fun x hx => (fr 97 x (by omega)).trans (hnd x hx)⟩
          · show _ = if bho s c = n ∧ bpa s c = -1 then -1 else bho s c
            by_cases e : bho s c = n ∧ bpa s c = -1
            · rw [if_pos e, zite_t ⟨hW3 c hc e.1 e.2, e.2⟩]
            · rw [if_neg e, zite_f (fun q => by
                obtain ⟨⟨a, ha, ha2⟩, q2⟩ := q
                have := (hW2 a ha).2
                rw [ha2] at this
                exact e ⟨this, q2⟩)]
          · show _ = ((upF (bwl s) n 0 m : Nat) : Int) ∧ ∀ k : Nat, k < upF (bwl s) n 0 m → _ = _
            by_cases e : m = n
            · subst e
              rw [upF_at]
              exact ⟨zxe, fun k hk => absurd hk (Nat.not_lt_zero k)⟩
            · rw [upF_ne e]
              exact ⟨zxs (by omega) ((fr 93 m (by omega)).trans (hwy m hm).1), fun k hk => (fr 92 _ (by omega)).trans ((hwy m hm).2 k hk)⟩
        exact zBA_N hB1 p78hT2 (fun c j q => p78bfr c j (by omega)) (fun c j _ => rfl)
    · refine And.intro (zA_82 hS) (zrdR (v := some 92) (zR_82_12 hR) ?_)
      refine And.intro (zP_92 hS (by omega) (by omega)) (fun v39 e39 r39 => ?_)
      have f39 : v39 = bwy s n k := (e39.trans ((congrArg (I1 92) (by omega)).trans ((fr 92 (1024 * n + k) (by omega)).trans ((hwy n (by omega)).2 k (by omega)))))
      have f39b : v39 ≤ 1023 := (by have := (hW2 k (by omega)).1; omega)
      refine And.intro (zA_82 hS) (zrdR (v := some 87) (zR_82_9 hR) ?_)
      refine And.intro (zP_87 hS (by omega) (by omega)) (fun v46 e46 r46 => ?_)
      have f46 : v46 = bpa s (bwy s n k) := (e46.trans ((congrArg (I1 87) (by omega)).trans ((fr 87 (bwy s n k) (by omega)).trans (hcl (bwy s n k) (hW2 k (by omega)).1).2.2.2)))
      refine And.intro ⟨r46, (zRb rfl)⟩ ⟨fun h48 => ?_, fun h48 => ?_⟩
      · refine ⟨((1025 - (k + 1)), 0, 0), zlt6 (by omega), [some (zvr (82)), some (zvi (n)), some (zvi ((k + 1))), none], ⟨rfl, rfl, rfl, rfl⟩, (k + 1), rfl, rfl, rfl, rfl, rfl, rfl, (by omega), ?_, (fun c j h0 => ((fr c j (by omega)).trans rfl))⟩
        · intro c hc
          have w := hho c hc
          by_cases e : bwy s n k = c
          · by_cases e2 : bpa s c = -1
            · rw [zite_t ⟨Exists.intro k ⟨Nat.lt_succ_self k, e⟩, e2⟩]
              first
              | (rw [show c = v39.toNat by omega]; exact zxe)
              | (exfalso; rw [e] at f46; omega)
            · rw [zite_f (fun q => e2 q.2)]
              rw [zite_f (fun q => e2 q.2)] at w
              first
              | exact w
              | (exfalso; rw [e] at f46; omega)
          · have e3 : (zex (fun q => q < k + 1 ∧ bwy s n q = c) ∧ bpa s c = -1) ↔ (zex (fun q => q < k ∧ bwy s n q = c) ∧ bpa s c = -1) := by
              refine ⟨fun q => ?_, fun q => ?_⟩
              · obtain ⟨⟨a, ha, ha2⟩, q2⟩ := q
                exact ⟨Exists.intro a ⟨by have : a ≠ k := fun h => e (by rw [← h]; exact ha2)
                                          omega, ha2⟩, q2⟩
              · obtain ⟨⟨a, ha, ha2⟩, q2⟩ := q
                exact ⟨Exists.intro a ⟨by omega, ha2⟩, q2⟩
            by_cases e4 : zex (fun q => q < k ∧ bwy s n q = c) ∧ bpa s c = -1
            · rw [zite_t (e3.mpr e4)]
              rw [zite_t e4] at w
              first
              | exact w
              | exact zxs (by omega) w
            · rw [zite_f (fun q => e4 (e3.mp q))]
              rw [zite_f e4] at w
              first
              | exact w
              | exact zxs (by omega) w
      · refine And.intro (zA_82 hS) (zrdR (v := some 86) (zR_82_8 hR) ?_)
        refine And.intro ⟨(zx0 rfl), (zP_86 hS (by omega) (by omega))⟩ ⟨_, (zWi (zRb rfl)), ?_⟩
        refine ⟨((1025 - (k + 1)), 0, 0), zlt6 (by omega), [some (zvr (82)), some (zvi (n)), some (zvi ((k + 1))), none], ⟨rfl, rfl, rfl, rfl⟩, (k + 1), rfl, rfl, rfl, rfl, rfl, rfl, (by omega), ?_, (fun c j h0 => (zxu h0 ((fr c j (by omega)).trans rfl)))⟩
        · intro c hc
          have w := hho c hc
          by_cases e : bwy s n k = c
          · by_cases e2 : bpa s c = -1
            · rw [zite_t ⟨Exists.intro k ⟨Nat.lt_succ_self k, e⟩, e2⟩]
              first
              | (rw [show c = v39.toNat by omega]; exact zxe)
              | (exfalso; rw [e] at f46; omega)
            · rw [zite_f (fun q => e2 q.2)]
              rw [zite_f (fun q => e2 q.2)] at w
              first
              | exact w
              | (exfalso; rw [e] at f46; omega)
          · have e3 : (zex (fun q => q < k + 1 ∧ bwy s n q = c) ∧ bpa s c = -1) ↔ (zex (fun q => q < k ∧ bwy s n q = c) ∧ bpa s c = -1) := by
              refine ⟨fun q => ?_, fun q => ?_⟩
              · obtain ⟨⟨a, ha, ha2⟩, q2⟩ := q
                exact ⟨Exists.intro a ⟨by have : a ≠ k := fun h => e (by rw [← h]; exact ha2)
                                          omega, ha2⟩, q2⟩
              · obtain ⟨⟨a, ha, ha2⟩, q2⟩ := q
                exact ⟨Exists.intro a ⟨by omega, ha2⟩, q2⟩
            by_cases e4 : zex (fun q => q < k ∧ bwy s n q = c) ∧ bpa s c = -1
            · rw [zite_t (e3.mpr e4)]
              rw [zite_t e4] at w
              first
              | exact w
              | exact zxs (by omega) w
            · rw [zite_f (fun q => e4 (e3.mp q))]
              rw [zite_f e4] at w
              first
              | exact w
              | exact zxs (by omega) w)
def T_A_addW : ZT := fun args I L R S Q => ∃ (b : Nat) (s : BdS) (n : Nat) (x : Int) (c : Nat) (y : Int), args = [zvr 82, zvi x, zvi y] ∧ (zSh S) ∧ (zRs R) ∧ (zBA b s I L) ∧ (x = n ∧ n < bnn s) ∧ (y = c ∧ c < 1024) ∧ (bwl s n < 1024) ∧ (∀ m, m < bnn s → bwl s m ≤ 1024) ∧ ∀ (I' : ZI), (zBA b (bWay s n c) I' L) → (∀ c j : Nat, ¬ c = 92 → ¬ c = 93 → I' c j = I c j) → Q none I' L R S
theorem sn_A_addW : ZSnd 1 0 1 T_A_addW := ZSnd.of (zT0_1 0) (by
  rintro args I L R S Q hz ⟨b, s, n, x, c, y, rfl, hS, hR, hBA, hx, hy, hl, hWL, hQ⟩
  obtain ⟨⟨hb0, hbw, hbh, hbd, hbs⟩, hnb, hcl, hPT, hNT, hwy, hco, hnd⟩ := id hBA
  obtain ⟨hP1, hP2, hP3, hP4⟩ := id hPT
  obtain ⟨hN1, hN2, hN3, hN4⟩ := id hNT
  refine And.intro rfl ?_
  refine And.intro (by omega) ⟨(fun h1 => False.elim (by omega)), fun h1 => ?_⟩
  refine And.intro ⟨(by omega), (zRb rfl)⟩ ⟨(fun h7 => False.elim (by omega)), fun h7 => ?_⟩
  refine And.intro (zA_82 hS) (zrdR (v := some 93) (zR_82_13 hR) ?_)
  refine And.intro (zP_93 hS (by omega) (by omega)) (fun v15 e15 r15 => ?_)
  have f15 : v15 = bwl s n := (e15.trans ((congrArg (I 93) (by omega)).trans (hwy n (by omega)).1))
  refine And.intro ⟨r15, (zRb rfl)⟩ ⟨(fun h19 => False.elim (by omega)), fun h19 => ?_⟩
  refine And.intro (zA_82 hS) (zrdR (v := some 92) (zR_82_12 hR) ?_)
  refine And.intro (zA_82 hS) (zrdR (v := some 93) (zR_82_13 hR) ?_)
  refine And.intro (zP_93 hS (by omega) (by omega)) (fun v36 e36 r36 => ?_)
  have f36 : v36 = bwl s n := (e36.trans ((congrArg (I 93) (by omega)).trans (hwy n (by omega)).1))
  refine And.intro ⟨(zx0 rfl), (zP_92 hS (by omega) (by omega))⟩ ⟨_, (zWi (by omega)), ?_⟩
  refine And.intro (zA_82 hS) (zrdR (v := some 93) (zR_82_13 hR) ?_)
  refine And.intro (zP_93 hS (by omega) (by omega)) (fun v46 e46 r46 => ?_)
  have f46 : v46 = bwl s n := (e46.trans ((congrArg (I 93) (by omega)).trans (hwy n (by omega)).1))
  refine And.intro ⟨(zx0 rfl), (zP_93 hS (by omega) (by omega))⟩ ⟨_, (zWi (by omega)), ?_⟩
  refine hQ _ ?_ (fun c j h0 h1 => (zxu h1 (zxu h0 rfl)))
  · refine ⟨⟨hb0, hbw, hbh, hbd, hbs⟩, hnb, hcl, hPT, hNT, fun m hm => ?_, hco, hnd⟩
    show _ = ((upF (bwl s) n (bwl s n + 1) m : Nat) : Int) ∧ ∀ k : Nat, k < upF (bwl s) n (bwl s n + 1) m → _ = ((up2 (bwy s) n (bwl s n) c m k : Nat) : Int)
    have w := hwy m hm
    by_cases e : m = n
    · subst e
      rw [upF_at]
      refine ⟨?_, fun k hk => ?_⟩
      · rw [show m = x.toNat by omega]
        exact zxe.trans (by rw [show x.toNat = m by omega]; omega)
      · refine zxu (by decide) ?_
        unfold up2
        by_cases e2 : k = bwl s m
        · rw [if_pos ⟨rfl, e2⟩, e2, show 1024 * m + bwl s m = (x * 1024 + v36).toNat by omega]
          exact zxe.trans (by omega)
        · rw [if_neg (fun q => e2 q.2)]
          exact zxs (by omega) (w.2 k (by omega))
    · rw [upF_ne e]
      refine ⟨zxs (by omega) w.1, fun k hk => zxu (by decide) ?_⟩
      unfold up2
      rw [if_neg (fun q => e q.1)]
      by_cases e3 : k < 1024
      · exact zxs (by omega) (w.2 k hk)
      · exact absurd (hWL m hm) (by omega))
