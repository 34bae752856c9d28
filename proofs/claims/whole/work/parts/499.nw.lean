/-! nw -/
def T_V_vals : ZT := fun args I L R S Q => ∃ (k : Nat) (c : Nat → Int) (n : Nat) (a : Int) (a_ : Nat) (p : Int) (p_ : Nat) (b : Int) (b_ : Nat) (mk : Int) (fd : Nat) (x : Int), args = [zvr k, zvi a, zvi p, zvi b] ∧ (zDy zT20 zF20 k R S) ∧ (zRM k c n I) ∧ (tOk c n) ∧ (a = a_ ∧ 1 ≤ a_ ∧ a_ ≤ 8) ∧ (p = p_ ∧ p_ ≤ n) ∧ (b = b_ ∧ b_ ≤ 1) ∧ (I k 16 = x) ∧ (0 ≤ x ∧ x ≤ 9) ∧ (I k 15 = mk) ∧ (0 ≤ mk ∧ mk ≤ 1) ∧ (I k 17 = fd) ∧ (fd ≤ 199) ∧ (I k 21 = 0) ∧ (I k 20 = 0) ∧ (I k 18 = -1) ∧ ∀ (v : Int) (I' : ZI) (L' : ZI), (I' k 18 = tVz c n b_ a_ p_ (tFv a_ x)) → (tVz c n b_ a_ p_ (tFv a_ x) = -1 → v = tVp c n b_ a_ p_ (tFv a_ x) ∧ (mk = 1 → tVs c n b_ a_ p_ (tFv a_ x) k fd I' L')) → (∀ c j : Nat, ¬ (c = k ∧ j = 18) → ¬ (c = k ∧ j = 20) → ¬ (c = k ∧ j = 21) → ¬ (c = k + 5 ∧ (mk = 1 ∧ 2 * fd ≤ j ∧ j < 2 * fd + 2)) → ¬ (c = k + 6 ∧ (mk = 1 ∧ 80 * fd ≤ j ∧ j < 80 * fd + 80)) → I' c j = I c j) → (∀ c j : Nat, ¬ (c = k ∧ j = 28) → ¬ (c = k + 4 ∧ (mk = 1 ∧ 5 * fd ≤ j ∧ j < 5 * fd + oCi a_ 0 (tFv a_ x))) → L' c j = L c j) → Q (some (zvi (v))) I' L' R S
theorem sn_V_vals : ZSnd 5 20 54 T_V_vals := ZSnd.loops (zT20_54 4) (by
  rintro args I L R S Q hz ⟨k, c, n, a, a_, p, p_, b, b_, mk, fd, x, rfl, hD, hX, hc, ha, hp, hb, hx_, hxb, hmk, hmk2, hfd, hfd2, hw0, hd0, hf0, hQ⟩
  obtain ⟨x1, x2⟩ := id hX
  have hn4 := hc.1
  have hk40 := hD.1
  have hfn := (tFn_b a_ (by omega)).1
  have hfv_ : tFv a_ x ≤ tFn a_ := by unfold tFv; split <;> omega
  refine ⟨[16], fun nM tM lsM stM I1 L1 R1 S1 => match tM with
      | 16 => ∃ (i : Nat) (m : Nat) (q : Int) (f : Int), nM = ((6 - i), 0, 0) ∧ lsM = [some (zvr (k)), some (zvi (a_)), some (zvi (p_)), some (zvi (b_)), some (zvi (q)), some (zvi (m)), some (zvi (i))] ∧ stM = [] ∧ R1 = R ∧ S1 = S ∧ (m = tFv a_ x) ∧ (m ≤ 5) ∧ (i ≤ m) ∧ (-1 ≤ f ∧ f ≤ 9000) ∧ (I1 k 18 = f) ∧ ((f = -1 ∧ q = tVp c n b_ a_ p_ i ∧ ∀ j, j < i → tVf c n b_ a_ p_ j = -1) ∨ (f ≠ -1 ∧ f = tVz c n b_ a_ p_ m)) ∧ (f = -1 → I1 k 21 = oCi a_ 1 i ∧ I1 k 20 = oCi a_ 0 i) ∧ (f = -1 → mk = 1 → tVs c n b_ a_ p_ i k fd I1 L1) ∧ (∀ c j : Nat, ¬ (c = k ∧ j = 18) → ¬ (c = k ∧ j = 20) → ¬ (c = k ∧ j = 21) → ¬ (c = k + 5 ∧ (mk = 1 ∧ 2 * fd ≤ j ∧ j < 2 * fd + 2)) → ¬ (c = k + 6 ∧ (mk = 1 ∧ 80 * fd ≤ j ∧ j < 80 * fd + 80)) → I1 c j = I c j) ∧ (∀ c j : Nat, ¬ (c = k ∧ j = 28) → ¬ (c = k + 4 ∧ (mk = 1 ∧ 5 * fd ≤ j ∧ j < 5 * fd + oCi a_ 0 (tFv a_ x))) → L1 c j = L c j)
      | _ => False, rfl, ?_, ⟨?_, True.intro⟩⟩
  · refine And.intro (zDX hD 0 rfl) (zrd (v := x) hx_ ?_)
    refine ⟨_, sn_V_fin.up (by decide), ?_⟩
    refine ⟨(a : Int), a_, x, rfl, (by omega), (by omega), ?_⟩
    intro v8o p8hv p8bhv2
    refine ⟨((6 - (0 : Nat)), 0, 0), [some (zvr (k)), some (zvi (a_)), some (zvi (p_)), some (zvi (b_)), some (zvi (p)), some (zvi ((tFv a_ x))), some (zvi ((0 : Nat)))], ⟨rfl, (congrArg (fun z => some (zvi z)) (by omega)), (congrArg (fun z => some (zvi z)) (by omega)), (congrArg (fun z => some (zvi z)) (by omega)), rfl, (congrArg (fun z => some (zvi z)) (by omega)), rfl, rfl⟩, 0, (tFv a_ x), p, (-1), rfl, rfl, rfl, rfl, rfl, (by omega), (by omega), (by omega), (by omega), hf0, (Or.inl ⟨rfl, by show _ = ((p_ : Nat) : Int); omega, fun j h => absurd h (Nat.not_lt_zero j)⟩), (fun _ => ⟨hw0, hd0⟩), (fun _ _ => tVs_0), (fun c j h0 h1 h2 h3 h4 => rfl), (fun c j h0 h1 => rfl)⟩
  · rintro nM lsM stM I1 L1 R1 S1 hz1 ⟨i, m, q, f, rfl, rfl, rfl, rfl, rfl, hm, hm5, hi, hfb, hfv, hst, hwv, hvs, fr, frL⟩
    have hme : oCi a_ 0 (tFv a_ x) = oCi a_ 0 m := by rw [hm]
    have os : i < m → _ := fun h => oCi_s a_ (by omega) i (by omega)
    have om0 : i < m → _ := fun h => oCi_m0 a_ (by omega) m (by omega) i h
    have vl : f = -1 → tVp c n b_ a_ p_ i ≤ n := fun h => by rcases hst with z | z; exact (tVp_le hc (by omega) z.2.2).1; exfalso; omega
    refine And.intro ⟨(by omega), (by omega)⟩ ⟨fun h20 => ?_, fun h20 => ?_⟩
    · refine hQ _ _ _ ?_ ?_ (fun c j h0 h1 h2 h3 h4 => ((fr c j (by omega) (by omega) (by omega) (by omega) (by omega)).trans rfl)) (fun c j h0 h1 => ((frL c j (by omega) (by omega)).trans rfl))
      · rcases hst with z | z
        · rw [← hm, tVz_no (fun j hj => z.2.2 j (by omega))]
          exact hfv.trans z.1
        · rw [← hm]
          exact hfv.trans z.2
      · intro h9
        rw [← hm] at h9 ⊢
        rcases hst with z | z
        · obtain rfl : i = m := (by omega)
          exact ⟨z.2.1, fun h10 => hvs z.1 h10⟩
        · exfalso; omega
    · refine And.intro (zDX hD 0 rfl) (zrd (v := f) hfv ?_)
      refine And.intro ⟨(by omega), (zRb rfl)⟩ ⟨fun h28 => ?_, fun h28 => ?_⟩
      · refine hQ _ _ _ ?_ ?_ (fun c j h0 h1 h2 h3 h4 => ((fr c j (by omega) (by omega) (by omega) (by omega) (by omega)).trans rfl)) (fun c j h0 h1 => ((frL c j (by omega) (by omega)).trans rfl))
        · rcases hst with z | z
          · rw [← hm, tVz_no (fun j hj => z.2.2 j (by omega))]
            exact hfv.trans z.1
          · rw [← hm]
            exact hfv.trans z.2
        · intro h9
          rw [← hm] at h9 ⊢
          rcases hst with z | z
          · obtain rfl : i = m := (by omega)
            exact ⟨z.2.1, fun h10 => hvs z.1 h10⟩
          · exfalso; omega
      · refine And.intro (zDX hD 0 rfl) ⟨_, sn_V_spc.up (by decide), ?_⟩
        refine ⟨k, c, n, (q : Int), (tVp c n b_ a_ p_ i), (b_ : Int), b_, rfl, hD, (by first | exact (zRM_fr hX (fun c j h => ((fr c j (by omega) (by omega) (by omega) (by omega) (by omega)).trans rfl))) | (clear hQ; grind [xu])), (by first | exact hc | (clear hQ; grind [xu])), (by omega), (by omega), (Eq.trans (b := (f : Int)) hfv (by omega)), ?_⟩
        intro v35o I35o p35hg p35bhv p35bbfr
        rcases p35hg with w41 | w41
        · refine And.intro (zDX hD 0 rfl) (zrd (v := (-1)) w41.2.1 ?_)
          refine And.intro ⟨(zRb rfl), (zRb rfl)⟩ (zbf rfl ?_)
          refine And.intro (zDX hD 0 rfl) ⟨_, sn_V_rv.up (by decide), ?_⟩
          refine ⟨k, c, n, (a_ : Int), a_, (i : Int), i, (v35o : Int), (tGp c n b_ a_ p_ i), mk, fd, (oCi a_ 1 i), (oCi a_ 0 i), rfl, hD, (by first | exact (zRM_fr hX (fun c j h => ((p35bbfr c j (by omega)).trans ((fr c j (by omega) (by omega) (by omega) (by omega) (by omega)).trans rfl)))) | (clear hQ; grind [xu])), (by first | exact hc | (clear hQ; grind [xu])), (by omega), (by omega), ⟨w41.2.2, by have z := tGe_le hc w41.1; show tGe _ _ _ _ ≤ 5000; omega⟩, ((p35bbfr k 15 (by omega)).trans ((fr k 15 (by omega) (by omega) (by omega) (by omega) (by omega)).trans hmk)), (by omega), ((p35bbfr k 17 (by omega)).trans ((fr k 17 (by omega) (by omega) (by omega) (by omega) (by omega)).trans hfd)), (by omega), (((p35bbfr k _ (by omega)).trans rfl).trans (hwv (by omega)).1), (by omega), (((p35bbfr k _ (by omega)).trans rfl).trans (hwv (by omega)).2), (by omega), (Eq.trans (b := ((-1) : Int)) w41.2.1 (by omega)), ?_⟩
          intro v54o I54o L54o p54ht p54bhn p54bbfr p54bbbfrL
          refine ⟨((6 - (i + 1)), 0, 0), zlt6 (by omega), [some (zvr (k)), some (zvi (a_)), some (zvi (p_)), some (zvi (b_)), some (zvi (v54o)), some (zvi (m)), some (zvi ((i + 1)))], ⟨rfl, rfl, rfl, rfl, rfl, rfl, rfl, rfl⟩, (i + 1), m, v54o, (tVf c n b_ a_ p_ i), rfl, rfl, rfl, rfl, rfl, (by omega), (by omega), (by omega), (by first | (have z := tVf_b1 (i := i) (b := b_) (a := a_) (q := p_) hc (vl (by omega)); exact z) | (have z := vl (by omega); omega)), ?_, ?_, ?_, ?_, (fun c j h0 h1 h2 h3 h4 => ((p54bbfr c j (by omega) (by omega) (by omega) (by omega) (by omega)).trans ((p35bbfr c j (by omega)).trans ((fr c j (by omega) (by omega) (by omega) (by omega) (by omega)).trans rfl)))), (fun c j h0 h1 => ((p54bbbfrL c j (by omega) (by omega)).trans ((frL c j (by omega) (by omega)).trans rfl)))⟩
          · first
            | exact w41.2
            | (by_cases t : tFc a_ i = 84
               · exact (p54ht t).1.trans (tVf_t w41.1 t).symm
               · exact (p54bhn t).1.trans (tVf_n w41.1 t).symm)
          · rcases hst with z | z
            · first
              | exact Or.inr ⟨by omega, by rw [tVz_at (i := i) (by omega) z.2.2 (by rw [tVf_g w41.1]; omega), tVf_g w41.1]⟩
              | (by_cases e : tVf c n b_ a_ p_ i = -1
                 · refine Or.inl ⟨e, ?_, fun j hj => ?_⟩
                   · by_cases t : tFc a_ i = 84
                     · rw [tVp_t t]
                       exact ((p54ht t).2.2 ((tVf_t w41.1 t).symm.trans e)).1
                     · rw [tVp_n t]
                       exact ((p54bhn t).2.2 ((tVf_n w41.1 t).symm.trans e)).1
                   · by_cases e2 : j = i
                     · rw [e2]; exact e
                     · exact z.2.2 j (by omega)
                 · exact Or.inr ⟨e, (tVz_at (i := i) (by omega) z.2.2 e).symm⟩)
            · exfalso; omega
          · intro h9
            first
            | (exfalso; omega)
            | (have o := os (by omega)
               by_cases t : tFc a_ i = 84
               · have y := p54ht t
                 have y2 := (y.2.2 ((tVf_t w41.1 t).symm.trans h9)).2.1
                 exact ⟨by omega, by omega⟩
               · have y := p54bhn t
                 have y2 := (y.2.2 ((tVf_n w41.1 t).symm.trans h9)).2.1
                 exact ⟨by omega, by omega⟩)
          · intro h9 h10
            first
            | (exfalso; omega)
            | (have hx9 : ∀ j, j < i → tVf c n b_ a_ p_ j = -1 := by
                 rcases hst with z | z
                 · exact z.2.2
                 · exfalso; omega
               exact tVs_up hc (by omega) (by omega) (by omega) (by omega) (hvs (by omega) h10) hx9 (fun j hj => (p54bbfr (k + 5) j (by omega) (by omega) (by omega) (by omega) (by omega)).trans (p35bbfr (k + 5) j (by omega))) (fun j hj => (p54bbfr (k + 6) j (by omega) (by omega) (by omega) (by omega) (by omega)).trans (p35bbfr (k + 6) j (by omega))) (fun j hj => p54bbbfrL (k + 4) j (by omega) (by omega)) (fun t => ((p54ht t).2.2 ((tVf_t w41.1 t).symm.trans h9)).2.2 h10) (fun t => ((p54bhn t).2.2 ((tVf_n w41.1 t).symm.trans h9)).2.2 h10))
        · refine And.intro (zDX hD 0 rfl) (zrd (v := ((tVp c n b_ a_ p_ i))) w41.2 ?_)
          refine And.intro ⟨(by omega), (zRb rfl)⟩ ⟨fun h45 => ?_, (fun h45 => False.elim (by omega))⟩
          refine ⟨((6 - (i + 1)), 0, 0), zlt6 (by omega), [some (zvr (k)), some (zvi (a_)), some (zvi (p_)), some (zvi (b_)), some (zvi (v35o)), some (zvi (m)), some (zvi ((i + 1)))], ⟨rfl, rfl, rfl, rfl, rfl, rfl, rfl, rfl⟩, (i + 1), m, v35o, ((tVp c n b_ a_ p_ i) : Int), rfl, rfl, rfl, rfl, rfl, (by omega), (by omega), (by omega), (by first | (have z := tVf_b1 (i := i) (b := b_) (a := a_) (q := p_) hc (vl (by omega)); exact z) | (have z := vl (by omega); omega)), ?_, ?_, ?_, ?_, (fun c j h0 h1 h2 h3 h4 => ((p35bbfr c j (by omega)).trans ((fr c j (by omega) (by omega) (by omega) (by omega) (by omega)).trans rfl))), (fun c j h0 h1 => ((frL c j (by omega) (by omega)).trans rfl))⟩
          · first
            | exact w41.2
            | (by_cases t : tFc a_ i = 84
               · exact (p54ht t).1.trans (tVf_t w41.1 t).symm
               · exact (p54bhn t).1.trans (tVf_n w41.1 t).symm)
          · rcases hst with z | z
            · first
              | exact Or.inr ⟨by omega, by rw [tVz_at (i := i) (by omega) z.2.2 (by rw [tVf_g w41.1]; omega), tVf_g w41.1]⟩
              | (by_cases e : tVf c n b_ a_ p_ i = -1
                 · refine Or.inl ⟨e, ?_, fun j hj => ?_⟩
                   · by_cases t : tFc a_ i = 84
                     · rw [tVp_t t]
                       exact ((p54ht t).2.2 ((tVf_t w41.1 t).symm.trans e)).1
                     · rw [tVp_n t]
                       exact ((p54bhn t).2.2 ((tVf_n w41.1 t).symm.trans e)).1
                   · by_cases e2 : j = i
                     · rw [e2]; exact e
                     · exact z.2.2 j (by omega)
                 · exact Or.inr ⟨e, (tVz_at (i := i) (by omega) z.2.2 e).symm⟩)
            · exfalso; omega
          · intro h9
            first
            | (exfalso; omega)
            | (have o := os (by omega)
               by_cases t : tFc a_ i = 84
               · have y := p54ht t
                 have y2 := (y.2.2 ((tVf_t w41.1 t).symm.trans h9)).2.1
                 exact ⟨by omega, by omega⟩
               · have y := p54bhn t
                 have y2 := (y.2.2 ((tVf_n w41.1 t).symm.trans h9)).2.1
                 exact ⟨by omega, by omega⟩)
          · intro h9 h10
            first
            | (exfalso; omega)
            | (have hx9 : ∀ j, j < i → tVf c n b_ a_ p_ j = -1 := by
                 rcases hst with z | z
                 · exact z.2.2
                 · exfalso; omega
               exact tVs_up hc (by omega) (by omega) (by omega) (by omega) (hvs (by omega) h10) hx9 (fun j hj => (p54bbfr (k + 5) j (by omega) (by omega) (by omega) (by omega) (by omega)).trans (p35bbfr (k + 5) j (by omega))) (fun j hj => (p54bbfr (k + 6) j (by omega) (by omega) (by omega) (by omega) (by omega)).trans (p35bbfr (k + 6) j (by omega))) (fun j hj => p54bbbfrL (k + 4) j (by omega) (by omega)) (fun t => ((p54ht t).2.2 ((tVf_t w41.1 t).symm.trans h9)).2.2 h10) (fun t => ((p54bhn t).2.2 ((tVf_n w41.1 t).symm.trans h9)).2.2 h10)))
