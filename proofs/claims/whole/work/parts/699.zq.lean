/-! zq -/
def T_A_radd : ZT := fun args I L R S Q => ∃ (k : Nat) (w : List CuR) (pc : Nat) (nr : Nat) (rf : Nat → Nat → Int) (bn : Int) (al : Int) (du : Int) (cn : Nat) (t : Nat → Nat → Int) (n : Nat → Nat), args = [zvr 154, zvr k, zvi du] ∧ (zSh S) ∧ (zRs R) ∧ (zSt I L) ∧ (zDy zT1 zF1 k R S) ∧ (k = 106 ∨ k = 118) ∧ (zUC k w pc nr rf bn al I) ∧ (du = 0 ∨ du = 1) ∧ (zRA cn t n I) ∧ ∀ (v : Int) (I' : ZI), (v = (rlV cn (dTx w 0).length du)) → (if 0 ≤ (rlV cn (dTx w 0).length du) then zRA (cn + 1) (upF t cn (wAt (dTx w 0))) (upF n cn (dTx w 0).length) I' ∧ (∀ p : Nat, p < 16 → I' 158 (16 * cn + p) = -1) ∧ I' 159 cn = 0 else zRA cn t n I' ∧ I' 154 0 = cn ∧ (∀ c j : Nat, 155 ≤ c ∧ c ≤ 159 → I' c j = I c j)) → (∀ c j : Nat, ¬ (c = k ∧ j = 17) → ¬ c = k + 11 → ¬ (c = 154 ∧ j = 0) → ¬ (c = 155 ∧ 512 * cn ≤ j) → ¬ (c = 156 ∧ j = cn) → ¬ (c = 157 ∧ 480 * cn ≤ j) → ¬ (c = 158 ∧ 16 * cn ≤ j) → ¬ (c = 159 ∧ j = cn) → ¬ c = 160 → ¬ c = 161 → ¬ c = 162 → ¬ c = 163 → ¬ (c = 154 ∧ j = 8) → I' c j = I c j) → Q (some (zvi (v))) I' L R S
theorem sn_A_radd : ZSnd 6 5 0 T_A_radd := ZSnd.loops (zT5_0 5) (by
  rintro args I L R S Q hz ⟨k, w, pc, nr, rf, bn, al, du, cn, t, n, rfl, hS, hR, hT, hD, hk, hUC, hdu, hRA, hQ⟩
  have hk106 : 106 ≤ k := by omega
  have hk118 : k ≤ 118 := by omega
  obtain ⟨⟨⟨u0, u3, u4⟩, ul, uG, uq, uh, ua⟩, uw, up, uaa, u9, ⟨uf, ust, u11⟩, uhh, uo⟩ := id hUC
  have hc := hRA.1
  have hcn := hRA.2.1
  have h800 := dTx_8 (w := w) (l := 0) uh
  have h1d := dTx_1 (w := w) (l := 0)
  refine ⟨[61, 99], fun nM tM lsM stM I1 L1 R1 S1 => match tM with
      | 61 => ∃ (i : Nat), nM = (3, (900 - i), 0) ∧ lsM = [some (zvr (154)), some (zvr (k)), some (zvi (du)), some (zvi (cn)), some (zvi (i))] ∧ stM = [] ∧ L1 = L ∧ R1 = R ∧ S1 = S ∧ (i ≤ (dTx w 0).length) ∧ (¬ (cn = 10 ∨ 512 < (dTx w 0).length) ∧ ¬ du = 0) ∧ (zUd k (dTx w 0) I1) ∧ (I1 154 0 = cn + 1) ∧ (I1 156 cn = (dTx w 0).length) ∧ (∀ j : Nat, j < i → I1 155 (512 * cn + j) = wAt (dTx w 0) j) ∧ (∀ c j : Nat, ¬ (c = k ∧ j = 17) → ¬ c = k + 11 → ¬ (c = 154 ∧ j = 0) → ¬ (c = 155 ∧ 512 * cn ≤ j) → ¬ (c = 156 ∧ j = cn) → ¬ (c = 157 ∧ 480 * cn ≤ j) → ¬ (c = 158 ∧ 16 * cn ≤ j) → ¬ (c = 159 ∧ j = cn) → ¬ c = 160 → ¬ c = 161 → ¬ c = 162 → ¬ c = 163 → ¬ (c = 154 ∧ j = 8) → I1 c j = I c j)
      | 99 => ∃ (p : Nat), nM = (2, (20 - p), 0) ∧ lsM = [some (zvr (154)), some (zvr (k)), some (zvi (du)), some (zvi (cn)), some (zvi (p))] ∧ stM = [] ∧ L1 = L ∧ R1 = R ∧ S1 = S ∧ (p ≤ 16) ∧ (¬ (cn = 10 ∨ 512 < (dTx w 0).length) ∧ ¬ du = 0) ∧ (I1 154 0 = cn + 1) ∧ (I1 156 cn = (dTx w 0).length) ∧ (∀ j : Nat, j < (dTx w 0).length → I1 155 (512 * cn + j) = wAt (dTx w 0) j) ∧ (∀ y : Nat, y < p → I1 158 (16 * cn + y) = -1) ∧ (∀ c j : Nat, ¬ (c = k ∧ j = 17) → ¬ c = k + 11 → ¬ (c = 154 ∧ j = 0) → ¬ (c = 155 ∧ 512 * cn ≤ j) → ¬ (c = 156 ∧ j = cn) → ¬ (c = 157 ∧ 480 * cn ≤ j) → ¬ (c = 158 ∧ 16 * cn ≤ j) → ¬ (c = 159 ∧ j = cn) → ¬ c = 160 → ¬ c = 161 → ¬ c = 162 → ¬ c = 163 → ¬ (c = 154 ∧ j = 8) → I1 c j = I c j)
      | _ => False, rfl, ?_, ⟨?_, ?_, True.intro⟩⟩
  · refine And.intro (zDX hD 0 rfl) ⟨_, sn_U_wdr.up (by decide), ?_⟩
    refine ⟨k, w, (0 : Int), rfl, hS, hR, hD, (by first | exact hk | (clear hQ; grind [xu])), ul, uG, uhh, uo, (by omega), uh, ?_⟩
    intro I2o p2hP2 p2bfr
    have g2 : I2o k 17 = (dTx w 0).length := p2hP2.1
    refine And.intro (zA_154 hS) (zrd (v := cn) ((p2bfr 154 0 (by omega) (by omega)).trans hc) ?_)
    refine And.intro ⟨(by omega), (zRb rfl)⟩ ⟨fun h11 => ?_, fun h11 => ?_⟩
    · refine hQ _ _ ?_ ?_ (fun c j h0 h1 h2 h3 h4 h5 h6 h7 h8 h9 h10 h11 h12 => ((p2bfr c j h0 h1).trans rfl))
      · first
        | exact (rlV_1 (by omega)).symm
        | exact (rlV_5 (by omega) (by omega)).symm
        | exact (rlV_y hok.1 hok.2).symm
      · first
        | (rw [if_neg (by rw [rlV_1 (by omega)]; decide)]
           exact ⟨zRA_fr hRA (fun c j h => p2bfr c j (by omega) (by omega)), (p2bfr 154 0 (by omega) (by omega)).trans hc, fun c j h => p2bfr c j (by omega) (by omega)⟩)
        | (rw [if_neg (by rw [rlV_5 (by omega) (by omega)]; decide)]
           exact ⟨zRA_fr hRA (fun c j h => p2bfr c j (by omega) (by omega)), (p2bfr 154 0 (by omega) (by omega)).trans hc, fun c j h => p2bfr c j (by omega) (by omega)⟩)
        | (rw [if_pos (by rw [rlV_y hok.1 hok.2]; exact Int.natCast_nonneg _)]
           refine ⟨zRA_add hRA (by omega) ?_ ⟨h1d, by omega⟩ ?_ ?_ ?_ ?_ ?_, ?_, ?_⟩
           · exact (p134bfr 154 0 (by omega) (by omega) (by omega) (by omega) (by omega) (by omega) ).trans ((zxu (by decide) rfl).trans h0)
           · exact (p134bfr 156 cn (by omega) (by omega) (by omega) (by omega) (by omega) (by omega) ).trans ((zxu (by decide) rfl).trans h156)
           · exact fun j9 hj9 => (p134bfr 155 _ (by omega) (by omega) (by omega) (by omega) (by omega) (by omega) ).trans ((zxu (by decide) rfl).trans (h155 j9 hj9))
           · exact fun j9 hj9 => dTx_by hj9
           · exact p134hd
           · exact fun c9 j9 h9 => (p134bfr c9 j9 (by omega) (by omega) (by omega) (by omega) (by omega) (by omega) ).trans ((zxu (by omega) rfl).trans (fr c9 j9 (by omega) (by omega) (by omega) (by omega) (by omega) (by omega) (by omega) (by omega) (by omega) (by omega) (by omega) (by omega) (by omega) ))
           · exact fun y hy => (p134bfr 158 _ (by omega) (by omega) (by omega) (by omega) (by omega) (by omega) ).trans ((zxu (by decide) rfl).trans (h158 y (by omega)))
           · exact (p134bfr 159 cn (by omega) (by omega) (by omega) (by omega) (by omega) (by omega) ).trans zxe)
    · refine And.intro (zDX hD 0 rfl) (fun v15 e15 r15 => ?_)
      refine And.intro ⟨r15, (zRb rfl)⟩ ⟨fun h21 => ?_, fun h21 => ?_⟩
      · refine And.intro (by omega) ⟨fun h27 => ?_, fun h27 => ?_⟩
        · refine And.intro (zA_154 hS) (zrd (v := cn) ((p2bfr 154 0 (by omega) (by omega)).trans hc) ?_)
          refine And.intro (zA_154 hS) (zrd (v := cn) ((p2bfr 154 0 (by omega) (by omega)).trans hc) ?_)
          refine And.intro (zA_154 hS) ⟨_, (zWi (by omega)), ?_⟩
          refine And.intro (zA_154 hS) (zrdR (v := some 156) (zR_154_2 hR) ?_)
          refine And.intro (zDX hD 0 rfl) (fun v54 e54 r54 => ?_)
          refine And.intro ⟨(zx0 rfl), (zP_156 hS (by omega) (by omega))⟩ ⟨_, (zWi r54), ?_⟩
          refine ⟨(3, (900 - (0 : Nat)), 0), [some (zvr (154)), some (zvr (k)), some (zvi (du)), some (zvi (cn)), some (zvi ((0 : Nat)))], ⟨rfl, rfl, rfl, rfl, rfl, rfl⟩, 0, rfl, rfl, rfl, rfl, rfl, rfl, (by clear hQ; grind [xu]), (by clear hQ; grind [xu]), (zUd_fr p2hP2 (fun c9 j9 h9 => zxcj (by omega) (zxcj (by omega) rfl))), (Eq.trans (b := ((cn + 1) : Int)) rfl (by omega)), (by clear hQ; grind [xu]), (fun j hj => absurd hj (Nat.not_lt_zero j)), (fun c j h0 h1 h2 h3 h4 h5 h6 h7 h8 h9 h10 h11 h12 => (zxcj (by omega) (zxcj h2 ((p2bfr c j h0 h1).trans rfl))))⟩
        · refine hQ _ _ ?_ ?_ (fun c j h0 h1 h2 h3 h4 h5 h6 h7 h8 h9 h10 h11 h12 => ((p2bfr c j h0 h1).trans rfl))
          · first
            | exact (rlV_1 (by omega)).symm
            | exact (rlV_5 (by omega) (by omega)).symm
            | exact (rlV_y hok.1 hok.2).symm
          · first
            | (rw [if_neg (by rw [rlV_1 (by omega)]; decide)]
               exact ⟨zRA_fr hRA (fun c j h => p2bfr c j (by omega) (by omega)), (p2bfr 154 0 (by omega) (by omega)).trans hc, fun c j h => p2bfr c j (by omega) (by omega)⟩)
            | (rw [if_neg (by rw [rlV_5 (by omega) (by omega)]; decide)]
               exact ⟨zRA_fr hRA (fun c j h => p2bfr c j (by omega) (by omega)), (p2bfr 154 0 (by omega) (by omega)).trans hc, fun c j h => p2bfr c j (by omega) (by omega)⟩)
            | (rw [if_pos (by rw [rlV_y hok.1 hok.2]; exact Int.natCast_nonneg _)]
               refine ⟨zRA_add hRA (by omega) ?_ ⟨h1d, by omega⟩ ?_ ?_ ?_ ?_ ?_, ?_, ?_⟩
               · exact (p134bfr 154 0 (by omega) (by omega) (by omega) (by omega) (by omega) (by omega) ).trans ((zxu (by decide) rfl).trans h0)
               · exact (p134bfr 156 cn (by omega) (by omega) (by omega) (by omega) (by omega) (by omega) ).trans ((zxu (by decide) rfl).trans h156)
               · exact fun j9 hj9 => (p134bfr 155 _ (by omega) (by omega) (by omega) (by omega) (by omega) (by omega) ).trans ((zxu (by decide) rfl).trans (h155 j9 hj9))
               · exact fun j9 hj9 => dTx_by hj9
               · exact p134hd
               · exact fun c9 j9 h9 => (p134bfr c9 j9 (by omega) (by omega) (by omega) (by omega) (by omega) (by omega) ).trans ((zxu (by omega) rfl).trans (fr c9 j9 (by omega) (by omega) (by omega) (by omega) (by omega) (by omega) (by omega) (by omega) (by omega) (by omega) (by omega) (by omega) (by omega) ))
               · exact fun y hy => (p134bfr 158 _ (by omega) (by omega) (by omega) (by omega) (by omega) (by omega) ).trans ((zxu (by decide) rfl).trans (h158 y (by omega)))
               · exact (p134bfr 159 cn (by omega) (by omega) (by omega) (by omega) (by omega) (by omega) ).trans zxe)
      · refine hQ _ _ ?_ ?_ (fun c j h0 h1 h2 h3 h4 h5 h6 h7 h8 h9 h10 h11 h12 => ((p2bfr c j h0 h1).trans rfl))
        · first
          | exact (rlV_1 (by omega)).symm
          | exact (rlV_5 (by omega) (by omega)).symm
          | exact (rlV_y hok.1 hok.2).symm
        · first
          | (rw [if_neg (by rw [rlV_1 (by omega)]; decide)]
             exact ⟨zRA_fr hRA (fun c j h => p2bfr c j (by omega) (by omega)), (p2bfr 154 0 (by omega) (by omega)).trans hc, fun c j h => p2bfr c j (by omega) (by omega)⟩)
          | (rw [if_neg (by rw [rlV_5 (by omega) (by omega)]; decide)]
             exact ⟨zRA_fr hRA (fun c j h => p2bfr c j (by omega) (by omega)), (p2bfr 154 0 (by omega) (by omega)).trans hc, fun c j h => p2bfr c j (by omega) (by omega)⟩)
          | (rw [if_pos (by rw [rlV_y hok.1 hok.2]; exact Int.natCast_nonneg _)]
             refine ⟨zRA_add hRA (by omega) ?_ ⟨h1d, by omega⟩ ?_ ?_ ?_ ?_ ?_, ?_, ?_⟩
             · exact (p134bfr 154 0 (by omega) (by omega) (by omega) (by omega) (by omega) (by omega) ).trans ((zxu (by decide) rfl).trans h0)
             · exact (p134bfr 156 cn (by omega) (by omega) (by omega) (by omega) (by omega) (by omega) ).trans ((zxu (by decide) rfl).trans h156)
             · exact fun j9 hj9 => (p134bfr 155 _ (by omega) (by omega) (by omega) (by omega) (by omega) (by omega) ).trans ((zxu (by decide) rfl).trans (h155 j9 hj9))
             · exact fun j9 hj9 => dTx_by hj9
             · exact p134hd
             · exact fun c9 j9 h9 => (p134bfr c9 j9 (by omega) (by omega) (by omega) (by omega) (by omega) (by omega) ).trans ((zxu (by omega) rfl).trans (fr c9 j9 (by omega) (by omega) (by omega) (by omega) (by omega) (by omega) (by omega) (by omega) (by omega) (by omega) (by omega) (by omega) (by omega) ))
             · exact fun y hy => (p134bfr 158 _ (by omega) (by omega) (by omega) (by omega) (by omega) (by omega) ).trans ((zxu (by decide) rfl).trans (h158 y (by omega)))
             · exact (p134bfr 159 cn (by omega) (by omega) (by omega) (by omega) (by omega) (by omega) ).trans zxe)
  · rintro nM lsM stM I1 L1 R1 S1 hz1 ⟨i, rfl, rfl, rfl, rfl, rfl, rfl, hi, hok, hUd, h0, h156, h155, fr⟩
    have h17 := hUd.1
    refine And.intro (zDX hD 0 rfl) (zrd (v := ((dTx w 0).length)) h17 ?_)
    refine And.intro ⟨(by omega), (by omega)⟩ ⟨fun h67 => ?_, fun h67 => ?_⟩
    · refine ⟨(2, (20 - (0 : Nat)), 0), zlt6 (by omega), [some (zvr (154)), some (zvr (k)), some (zvi (du)), some (zvi (cn)), some (zvi ((0 : Nat)))], ⟨rfl, rfl, rfl, rfl, rfl, rfl⟩, 0, rfl, rfl, rfl, rfl, rfl, rfl, (by omega), (by first | exact hok | (clear hQ; grind [xu])), (Eq.trans (b := ((cn + 1) : Int)) h0 (by omega)), (by first | exact h156 | (clear hQ; grind [xu])), (fun j hj => h155 j (by omega)), (fun j hj => absurd hj (Nat.not_lt_zero j)), (fun c j h0 h1 h2 h3 h4 h5 h6 h7 h8 h9 h10 h11 h12 => ((fr c j h0 h1 h2 (by omega) (by omega) (by omega) (by omega) (by omega) h8 h9 h10 h11 h12).trans rfl))⟩
    · refine And.intro (zA_154 hS) (zrdR (v := some 155) (zR_154_1 hR) ?_)
      refine And.intro (zDX hD 0 rfl) (zrdR (v := some (k + 11)) (zDR hD 8 rfl) ?_)
      refine And.intro (zDP hD 11 rfl rfl (by omega) (by omega)) (fun v88 e88 r88 => ?_)
      have f88 : v88 = wAt (dTx w 0) i := (e88.trans ((rfl).trans ((congrArg (I1 (k + 11)) (by omega)).trans (hUd.2 i (by omega)))))
      have f88b : 0 ≤ v88 ∧ v88 ≤ 255 := (by have z9 := dTx_by (w := w) (l := 0) (i := i) (by omega); omega)
      refine And.intro ⟨(zx0 rfl), (zP_155 hS (by omega) (by omega)), (by omega), (by omega)⟩ ?_
      refine ⟨(3, (900 - (i + 1)), 0), zlt6 (by omega), [some (zvr (154)), some (zvr (k)), some (zvi (du)), some (zvi (cn)), some (zvi ((i + 1)))], ⟨rfl, rfl, rfl, rfl, rfl, rfl⟩, (i + 1), rfl, rfl, rfl, rfl, rfl, rfl, (by first | exact hi | (clear hQ; grind [xu])), (by first | exact hok | (clear hQ; grind [xu])), (by first | exact (zUd_fr hUd (fun c j h => (zxcj (by omega) rfl))) | (clear hQ; grind [xu])), (Eq.trans (b := ((cn + 1) : Int)) h0 (by omega)), (by first | exact h156 | (clear hQ; grind [xu])), ?_, (fun c j h0 h1 h2 h3 h4 h5 h6 h7 h8 h9 h10 h11 h12 => (zxcj (by omega) ((fr c j h0 h1 h2 (by omega) (by omega) (by omega) (by omega) (by omega) h8 h9 h10 h11 h12).trans rfl)))⟩
      · intro j hj
        by_cases e : j = i
        · subst e
          exact (zxe' (by omega)).trans f88
        · exact (zxs (by omega) (h155 j (by omega)))
  · rintro nM lsM stM I1 L1 R1 S1 hz1 ⟨p, rfl, rfl, rfl, rfl, rfl, rfl, hp, hok, h0, h156, h155, h158, fr⟩
    refine And.intro ⟨(by omega), (zRb rfl)⟩ ⟨fun h103 => ?_, fun h103 => ?_⟩
    · refine And.intro (zA_154 hS) (zrdR (v := some 159) (zR_154_5 hR) ?_)
      refine And.intro ⟨(zx0 rfl), Or.inr ⟨(zP_159 hS (by omega) (by omega)), (Or.inl rfl)⟩⟩ ?_
      refine And.intro (zA_154 hS) ⟨_, sn_A_grow.up (by decide), ?_⟩
      refine ⟨cn, ((dTx w 0).length), (wAt (dTx w 0)), rfl, hS, hR, (zStf hT (fun c j h1 h2 => ⟨(zxu (by omega) ((fr c j (by omega) (by omega) (by omega) (by omega) (by omega) (by omega) (by omega) (by omega) (by omega) (by omega) (by omega) (by omega) (by omega)).trans rfl)), rfl⟩)), (Eq.trans (b := ((cn + 1) : Int)) h0 (by omega)), (by omega), (by omega), (by clear hQ; grind [xu]), (fun j hj => ⟨(zxu (by decide) (h155 j hj)), dTx_by hj⟩), ?_⟩
      intro I134o p134hd p134bfr
      refine hQ _ _ ?_ ?_ (fun c j h0 h1 h2 h3 h4 h5 h6 h7 h8 h9 h10 h11 h12 => ((p134bfr c j h8 h9 h10 h11 h12 (by omega)).trans (zxcj (by omega) ((fr c j h0 h1 h2 (by omega) (by omega) (by omega) (by omega) (by omega) h8 h9 h10 h11 h12).trans rfl))))
      · first
        | exact (rlV_1 (by omega)).symm
        | exact (rlV_5 (by omega) (by omega)).symm
        | exact (rlV_y hok.1 hok.2).symm
      · first
        | (rw [if_neg (by rw [rlV_1 (by omega)]; decide)]
           exact ⟨zRA_fr hRA (fun c j h => p2bfr c j (by omega) (by omega)), (p2bfr 154 0 (by omega) (by omega)).trans hc, fun c j h => p2bfr c j (by omega) (by omega)⟩)
        | (rw [if_neg (by rw [rlV_5 (by omega) (by omega)]; decide)]
           exact ⟨zRA_fr hRA (fun c j h => p2bfr c j (by omega) (by omega)), (p2bfr 154 0 (by omega) (by omega)).trans hc, fun c j h => p2bfr c j (by omega) (by omega)⟩)
        | (rw [if_pos (by rw [rlV_y hok.1 hok.2]; exact Int.natCast_nonneg _)]
           refine ⟨zRA_add hRA (by omega) ?_ ⟨h1d, by omega⟩ ?_ ?_ ?_ ?_ ?_, ?_, ?_⟩
           · exact (p134bfr 154 0 (by omega) (by omega) (by omega) (by omega) (by omega) (by omega) ).trans ((zxu (by decide) rfl).trans h0)
           · exact (p134bfr 156 cn (by omega) (by omega) (by omega) (by omega) (by omega) (by omega) ).trans ((zxu (by decide) rfl).trans h156)
           · exact fun j9 hj9 => (p134bfr 155 _ (by omega) (by omega) (by omega) (by omega) (by omega) (by omega) ).trans ((zxu (by decide) rfl).trans (h155 j9 hj9))
           · exact fun j9 hj9 => dTx_by hj9
           · exact p134hd
           · exact fun c9 j9 h9 => (p134bfr c9 j9 (by omega) (by omega) (by omega) (by omega) (by omega) (by omega) ).trans ((zxu (by omega) rfl).trans (fr c9 j9 (by omega) (by omega) (by omega) (by omega) (by omega) (by omega) (by omega) (by omega) (by omega) (by omega) (by omega) (by omega) (by omega) ))
           · exact fun y hy => (p134bfr 158 _ (by omega) (by omega) (by omega) (by omega) (by omega) (by omega) ).trans ((zxu (by decide) rfl).trans (h158 y (by omega)))
           · exact (p134bfr 159 cn (by omega) (by omega) (by omega) (by omega) (by omega) (by omega) ).trans zxe)
    · refine And.intro (zA_154 hS) (zrdR (v := some 158) (zR_154_4 hR) ?_)
      refine And.intro ⟨(zx0 rfl), (zP_158 hS (by omega) (by omega))⟩ ⟨_, (zWi (zRb rfl)), ?_⟩
      refine ⟨(2, (20 - (p + 1)), 0), zlt6 (by omega), [some (zvr (154)), some (zvr (k)), some (zvi (du)), some (zvi (cn)), some (zvi ((p + 1)))], ⟨rfl, rfl, rfl, rfl, rfl, rfl⟩, (p + 1), rfl, rfl, rfl, rfl, rfl, rfl, (by omega), (by first | exact hok | (clear hQ; grind [xu])), (Eq.trans (b := ((cn + 1) : Int)) h0 (by omega)), (by first | exact h156 | (clear hQ; grind [xu])), (by first | exact h155 | exact (fun j h1 => (zxu (by omega) rfl).trans (h155 j h1)) | (clear hQ; grind [xu])), ?_, (fun c j h0 h1 h2 h3 h4 h5 h6 h7 h8 h9 h10 h11 h12 => (zxcj (by omega) ((fr c j h0 h1 h2 (by omega) (by omega) (by omega) (by omega) (by omega) h8 h9 h10 h11 h12).trans rfl)))⟩
      · intro y hy
        by_cases e : y = p
        · subst e
          exact (zxe' (by omega))
        · exact (zxs (by omega) (h158 y (by omega))))
