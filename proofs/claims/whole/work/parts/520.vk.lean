/-! vk -/
def T_V_kep : ZT := fun args I L R S Q => ∃ (k : Nat) (c : Nat → Int) (n : Nat) (mk : Int) (fd : Nat) (p : Int) (p_ : Nat) (q : Int) (q_ : Nat) (ke : Nat) (lim : Nat) (sz : Nat), args = [zvr k, zvi p, zvi q] ∧ (zDy zT20 zF20 k R S) ∧ (zRM k c n I) ∧ (tOk c n) ∧ (I k 15 = mk) ∧ (0 ≤ mk ∧ mk ≤ 1) ∧ (I k 17 = fd) ∧ (fd ≤ 199) ∧ (p = p_ ∧ p_ ≤ q_) ∧ (q = q_ ∧ q_ ≤ n) ∧ (I k 22 = ke) ∧ (ke ≤ 2000) ∧ (lim + ke = p_ + 2000) ∧ (mk = 1 → I (k + 8) fd = sz) ∧ (sz ≤ 2000) ∧ (I k 18 = -1) ∧ ∀ (I' : ZI), ((q_ ≤ lim ∧ I' k 18 = -1 ∧ I' k 22 = ke + (q_ - p_ : Nat) ∧ (mk = 1 → I' (k + 8) fd = sz + (q_ - p_ : Nat) ∧ ∀ t, t < q_ - p_ → I' (k + 9) (ke + t) = c (p_ + t))) ∨ (lim < q_ ∧ I' k 18 = lim)) → (∀ c j : Nat, ¬ (c = k ∧ j = 18) → ¬ (c = k ∧ j = 22) → ¬ (c = k + 8 ∧ (mk = 1 ∧ j = fd)) → ¬ (c = k + 9 ∧ (mk = 1 ∧ ke ≤ j)) → I' c j = I c j) → Q none I' L R S
theorem sn_V_kep : ZSnd 2 20 19 T_V_kep := ZSnd.loops (zT20_19 1) (by
  rintro args I L R S Q hz ⟨k, c, n, mk, fd, p, p_, q, q_, ke, lim, sz, rfl, hD, hX, hc, hmk, hmk2, hfd, hfd2, hp, hq, hke, hke2, hlm, hsz, hsz2, hf0, hQ⟩
  obtain ⟨x1, x2⟩ := id hX
  have hn4 := hc.1
  have hk40 := hD.1
  refine ⟨[2], fun nM tM lsM stM I1 L1 R1 S1 => match tM with
      | 2 => ∃ (i : Nat) (f : Int) (w : Nat), nM = ((9000 - i), 0, 0) ∧ lsM = [some (zvr (k)), some (zvi (p_)), some (zvi (q_)), some (zvi (i))] ∧ stM = [] ∧ L1 = L ∧ R1 = R ∧ S1 = S ∧ (p_ ≤ i ∧ i ≤ q_ + 0) ∧ (I1 k 18 = f) ∧ (-1 ≤ f ∧ f ≤ 9000) ∧ (I1 k 22 = w) ∧ (w ≤ 2000) ∧ ((f = -1 ∧ i ≤ lim ∧ w + p_ = ke + i ∧ (mk = 1 → I1 (k + 8) fd = sz + (i - p_ : Nat) ∧ ∀ t, t < i - p_ → I1 (k + 9) (ke + t) = c (p_ + t))) ∨ (f ≠ -1 ∧ lim < q_ ∧ f = lim)) ∧ (f = -1 → i ≤ lim ∧ w + p_ = ke + i) ∧ (∀ c j : Nat, ¬ (c = k ∧ j = 18) → ¬ (c = k ∧ j = 22) → ¬ (c = k + 8 ∧ (mk = 1 ∧ j = fd)) → ¬ (c = k + 9 ∧ (mk = 1 ∧ ke ≤ j)) → I1 c j = I c j)
      | _ => False, rfl, ?_, ⟨?_, True.intro⟩⟩
  · refine ⟨((9000 - p_), 0, 0), [some (zvr (k)), some (zvi (p_)), some (zvi (q_)), some (zvi (p_))], ⟨rfl, (congrArg (fun z => some (zvi z)) (by omega)), (congrArg (fun z => some (zvi z)) (by omega)), (congrArg (fun z => some (zvi z)) (by omega)), rfl⟩, p_, (-1), ke, rfl, rfl, rfl, rfl, rfl, rfl, (by omega), hf0, (by omega), hke, (by omega), (Or.inl ⟨rfl, by omega, by omega, fun e => ⟨(hsz e).trans (by omega), fun t h => by omega⟩⟩), (fun _ => ⟨by omega, by omega⟩), (fun c j h0 h1 h2 h3 => rfl)⟩
  · rintro nM lsM stM I1 L1 R1 S1 hz1 ⟨i, f, w, rfl, rfl, rfl, rfl, rfl, rfl, hi, hfv, hfb, hwv, hw2, hst, hfl, fr⟩
    refine And.intro ⟨(by omega), (by omega)⟩ ⟨fun h4 => ?_, fun h4 => ?_⟩
    · refine hQ _ ?_ (fun c j h0 h1 h2 h3 => ((fr c j h0 h1 (by omega) (by omega)).trans rfl))
      · rcases hst with z | z
        · first
          | (have ei : i = q_ := by omega
             subst ei
             exact Or.inl ⟨z.2.1, hfv.trans z.1, hwv.trans (by omega), z.2.2.2⟩)
          | (exfalso; omega)
        · exact Or.inr ⟨z.2.1, hfv.trans z.2.2⟩
    · refine And.intro (zDX hD 0 rfl) (zrd (v := f) hfv ?_)
      refine And.intro ⟨(by omega), (zRb rfl)⟩ ⟨fun h12 => ?_, fun h12 => ?_⟩
      · refine hQ _ ?_ (fun c j h0 h1 h2 h3 => ((fr c j h0 h1 (by omega) (by omega)).trans rfl))
        · rcases hst with z | z
          · first
            | (have ei : i = q_ := by omega
               subst ei
               exact Or.inl ⟨z.2.1, hfv.trans z.1, hwv.trans (by omega), z.2.2.2⟩)
            | (exfalso; omega)
          · exact Or.inr ⟨z.2.1, hfv.trans z.2.2⟩
      · refine And.intro (zDX hD 0 rfl) (zrd (v := w) hwv ?_)
        refine And.intro ⟨(by omega), (zRb rfl)⟩ ⟨fun h22 => ?_, fun h22 => ?_⟩
        · refine And.intro (zDX hD 0 rfl) (zrd (v := mk) ((fr k 15 (by omega) (by omega) (by omega) (by omega)).trans hmk) ?_)
          refine And.intro (by omega) ⟨fun h37 => ?_, fun h37 => ?_⟩
          · refine And.intro (zDX hD 0 rfl) (zrd (v := w) hwv ?_)
            refine And.intro (zDX hD 0 rfl) ⟨_, (zWi (by omega)), ?_⟩
            refine ⟨((9000 - (i + 1)), 0, 0), zlt6 (by omega), [some (zvr (k)), some (zvi (p_)), some (zvi (q_)), some (zvi ((i + 1)))], ⟨rfl, rfl, rfl, rfl, rfl⟩, (i + 1), f, (w + 1), rfl, rfl, rfl, rfl, rfl, rfl, (by omega), (zxs (by decide) hfv), (by omega), zxe, (by omega), ?_, (fun h9 => by first | (exfalso; omega) | exact ⟨by omega, by omega⟩), (fun c j h0 h1 h2 h3 => (zxcj h1 ((fr c j h0 h1 (by omega) (by omega)).trans rfl)))⟩
            · rcases hst with z | z
              · first
                | exact Or.inr ⟨by omega, by omega, by omega⟩
                | (refine Or.inl ⟨z.1, by omega, by omega, fun e => ?_⟩
                   first
                   | (exfalso; omega)
                   | (have y := z.2.2.2 e
                      have e2 : i + 1 - p_ = i - p_ + 1 := by omega
                      refine ⟨?_, fun t ht => ?_⟩
                      · first
                        | exact zxu (by omega) ((zxe' (by omega)).trans (by omega))
                        | (have y2 := y.1; exact (by omega))
                      · by_cases e3 : t = i - p_
                        · first
                          | exact zxu (by omega) (zxu (by omega) ((zxe' (by omega)).trans (f53.trans (congrArg c (by omega)))))
                        · have y3 := y.2 t (by omega)
                          first
                          | exact zxu (by omega) (zxu (by omega) ((zxs (by omega)).trans y3))
                          | exact zxu (by omega) (zxu (by omega) (zxs (by omega) y3))))
              · exfalso; omega
          · refine And.intro (zDX hD 0 rfl) (zrdR (v := some (k + 9)) (zDR hD 8 rfl) ?_)
            refine And.intro (zDX hD 0 rfl) (zrd (v := w) hwv ?_)
            refine And.intro (zDX hD 0 rfl) (zrdR (v := some (k + 1)) (zDR hD 0 rfl) ?_)
            refine And.intro (zDP hD 1 rfl rfl (by omega) (by omega)) (fun v53 e53 r53 => ?_)
            have f53 : v53 = c i := (e53.trans ((congrArg (I1 (k + 1)) (by omega)).trans ((fr (k + 1) _ (by omega) (by omega) (by omega) (by omega)).trans (x2 i (by omega)))))
            refine And.intro ⟨(by show 40 ≤ _; omega), (zDP hD 9 rfl rfl (by omega) (by omega))⟩ ⟨_, (zWi r53), ?_⟩
            refine And.intro (zDX hD 0 rfl) (zrdR (v := some (k + 8)) (zDR hD 7 rfl) ?_)
            refine And.intro (zDX hD 0 rfl) (zrd (v := fd) (zxu (by omega) ((fr k 17 (by omega) (by omega) (by omega) (by omega)).trans hfd)) ?_)
            refine And.intro (zDP hD 8 rfl rfl (by omega) (by omega)) (fun v64 e64 r64 => ?_)
            have f64 : v64 = sz + (i - p_ : Nat) := (e64.trans (zxu (by omega) ((congrArg (I1 (k + 8)) (show _ = fd by omega)).trans (by rcases hst with z | z; exact (z.2.2.2 (by omega)).1; exfalso; omega))))
            refine And.intro ⟨(by show 40 ≤ _; omega), (zDP hD 8 rfl rfl (by omega) (by omega))⟩ ⟨_, (zWi (by omega)), ?_⟩
            refine And.intro (zDX hD 0 rfl) (zrd (v := w) (zxu (by omega) (zxu (by omega) hwv)) ?_)
            refine And.intro (zDX hD 0 rfl) ⟨_, (zWi (by omega)), ?_⟩
            refine ⟨((9000 - (i + 1)), 0, 0), zlt6 (by omega), [some (zvr (k)), some (zvi (p_)), some (zvi (q_)), some (zvi ((i + 1)))], ⟨rfl, rfl, rfl, rfl, rfl⟩, (i + 1), f, (w + 1), rfl, rfl, rfl, rfl, rfl, rfl, (by omega), (zxs (by decide) (zxu (by omega) (zxu (by omega) hfv))), (by omega), zxe, (by omega), ?_, (fun h9 => by first | (exfalso; omega) | exact ⟨by omega, by omega⟩), (fun c j h0 h1 h2 h3 => (zxcj h1 (zxcj (by omega) (zxcj (by omega) ((fr c j h0 h1 (by omega) (by omega)).trans rfl)))))⟩
            · rcases hst with z | z
              · first
                | exact Or.inr ⟨by omega, by omega, by omega⟩
                | (refine Or.inl ⟨z.1, by omega, by omega, fun e => ?_⟩
                   first
                   | (exfalso; omega)
                   | (have y := z.2.2.2 e
                      have e2 : i + 1 - p_ = i - p_ + 1 := by omega
                      refine ⟨?_, fun t ht => ?_⟩
                      · first
                        | exact zxu (by omega) ((zxe' (by omega)).trans (by omega))
                        | (have y2 := y.1; exact (by omega))
                      · by_cases e3 : t = i - p_
                        · first
                          | exact zxu (by omega) (zxu (by omega) ((zxe' (by omega)).trans (f53.trans (congrArg c (by omega)))))
                        · have y3 := y.2 t (by omega)
                          first
                          | exact zxu (by omega) (zxu (by omega) ((zxs (by omega)).trans y3))
                          | exact zxu (by omega) (zxu (by omega) (zxs (by omega) y3))))
              · exfalso; omega
        · refine And.intro (zDX hD 0 rfl) (Exists.intro _ (And.intro (zinl_ok (zT20_9 0)) (And.intro rfl ?_)))
          refine And.intro (zDX hD 0 rfl) (zrd (v := f) hfv ?_)
          refine And.intro ⟨(by omega), (zRb rfl)⟩ ⟨(fun h5_27 => False.elim (by omega)), fun h5_27 => ?_⟩
          refine And.intro (zDX hD 0 rfl) ⟨_, (zWi (by omega)), ?_⟩
          refine ⟨((9000 - (i + 1)), 0, 0), zlt6 (by omega), [some (zvr (k)), some (zvi (p_)), some (zvi (q_)), some (zvi ((i + 1)))], ⟨rfl, rfl, rfl, rfl, rfl⟩, (i + 1), i, w, rfl, rfl, rfl, rfl, rfl, rfl, (by omega), zxe, (by omega), (zxs (by decide) hwv), (by omega), ?_, (fun h9 => by first | (exfalso; omega) | exact ⟨by omega, by omega⟩), (fun c j h0 h1 h2 h3 => (zxcj h0 ((fr c j h0 h1 (by omega) (by omega)).trans rfl)))⟩
          · rcases hst with z | z
            · first
              | exact Or.inr ⟨by omega, by omega, by omega⟩
              | (refine Or.inl ⟨z.1, by omega, by omega, fun e => ?_⟩
                 first
                 | (exfalso; omega)
                 | (have y := z.2.2.2 e
                    have e2 : i + 1 - p_ = i - p_ + 1 := by omega
                    refine ⟨?_, fun t ht => ?_⟩
                    · first
                      | exact zxu (by omega) ((zxe' (by omega)).trans (by omega))
                      | (have y2 := y.1; exact (by omega))
                    · by_cases e3 : t = i - p_
                      · first
                        | exact zxu (by omega) (zxu (by omega) ((zxe' (by omega)).trans (f53.trans (congrArg c (by omega)))))
                      · have y3 := y.2 t (by omega)
                        first
                        | exact zxu (by omega) (zxu (by omega) ((zxs (by omega)).trans y3))
                        | exact zxu (by omega) (zxu (by omega) (zxs (by omega) y3))))
            · exfalso; omega)
def T_V_pst : ZT := fun args I L R S Q => ∃ (k : Nat) (c : Nat → Int) (n : Nat) (mk : Int) (fd : Nat) (lim : Nat) (ar : Nat) (q0 : Nat) (op : Nat) (kf : Nat) (i_ : Nat) (p : Int) (p_ : Nat), args = [zvr k, zvi p] ∧ (zDy zT20 zF20 k R S) ∧ (zRM k c n I) ∧ (tOk c n) ∧ (I k 15 = mk) ∧ (0 ≤ mk ∧ mk ≤ 1) ∧ (I k 17 = fd) ∧ (fd ≤ 199) ∧ (p = p_ ∧ p_ + 1 ≤ n) ∧ (lim + kf = op + 2000) ∧ (op ≤ p_) ∧ (kf ≤ 2000) ∧ (p_ + 1 ≤ lim) ∧ (zVK k c op kf (p_ + 1) mk fd I) ∧ (i_ ≠ 0) ∧ (tuV c n lim ar q0 i_ 1 (-1) ((p_ + 1 : Nat) : Int)) ∧ (I k 18 = -1) ∧ ∀ (v : Int) (I' : ZI) (fv : Int), (I' k 18 = fv) → (tuV c n lim ar q0 i_ 0 fv v) → (fv = -1 → zVK k c op kf v.toNat mk fd I') → (fv = -1 → p_ + 2 ≤ v ∧ v ≤ n ∧ v ≤ lim) → (0 ≤ v ∧ v ≤ 4100) → (∀ c j : Nat, ¬ (c = k ∧ j = 18) → ¬ (c = k ∧ j = 22) → ¬ (c = k + 8 ∧ (mk = 1 ∧ j = fd)) → ¬ (c = k + 9 ∧ (mk = 1 ∧ kf ≤ j)) → I' c j = I c j) → (-1 ≤ fv ∧ fv ≤ 9000) → Q (some (zvi (v))) I' L R S
theorem sn_V_pst : ZSnd 3 20 31 T_V_pst := ZSnd.loops (zT20_31 2) (by
  rintro args I L R S Q hz ⟨k, c, n, mk, fd, lim, ar, q0, op, kf, i_, p, p_, rfl, hD, hX, hc, hmk, hmk2, hfd, hfd2, hp, hlm, hop, hkf, hpl, hkv, hi, hv, hf0, hQ⟩
  obtain ⟨x1, x2⟩ := id hX
  have hn4 := hc.1
  have hk40 := hD.1
  refine ⟨[4], fun nM tM lsM stM I1 L1 R1 S1 => match tM with
      | 4 => ∃ (q : Nat) (f : Int), nM = ((5000 - q), 0, 0) ∧ lsM = [some (zvr (k)), some (zvi (p_)), some (zvi (q)), none] ∧ stM = [] ∧ L1 = L ∧ R1 = R ∧ S1 = S ∧ (q ≤ 4010) ∧ (-1 ≤ f ∧ f ≤ 9000) ∧ (I1 k 18 = f) ∧ (f = -1 → p_ + 1 ≤ q ∧ q ≤ n ∧ q ≤ lim) ∧ (tuV c n lim ar q0 i_ 1 f q) ∧ (f = -1 → zVK k c op kf q mk fd I1) ∧ (∀ c j : Nat, ¬ (c = k ∧ j = 18) → ¬ (c = k ∧ j = 22) → ¬ (c = k + 8 ∧ (mk = 1 ∧ j = fd)) → ¬ (c = k + 9 ∧ (mk = 1 ∧ kf ≤ j)) → I1 c j = I c j)
      | _ => False, rfl, ?_, ⟨?_, True.intro⟩⟩
  · refine ⟨((5000 - (p_ + 1)), 0, 0), [some (zvr (k)), some (zvi (p_)), some (zvi ((p_ + 1))), none], ⟨rfl, (congrArg (fun z => some (zvi z)) (by omega)), (congrArg (fun z => some (zvi z)) (by omega)), rfl⟩, (p_ + 1), (-1), rfl, rfl, rfl, rfl, rfl, rfl, (by omega), (by omega), hf0, (fun _ => ⟨by omega, by omega, by omega⟩), hv, (fun _ => hkv), (fun c j h0 h1 h2 h3 => rfl)⟩
  · rintro nM lsM stM I1 L1 R1 S1 hz1 ⟨q, f, rfl, rfl, rfl, rfl, rfl, rfl, hqb, hfb, hfv, hq, hst, hkv, fr⟩
    have cq := tOk_b (p := q) hc
    have cq1 := tOk_b (p := q + 1) hc
    refine And.intro (zDX hD 0 rfl) (zrd (v := f) hfv ?_)
    refine And.intro ⟨(by omega), (zRb rfl)⟩ ⟨fun h9 => ?_, fun h9 => ?_⟩
    · refine And.intro (zDX hD 0 rfl) (zrd (v := f) hfv ?_)
      refine And.intro ⟨(by omega), (zRb rfl)⟩ ⟨fun h140 => ?_, (fun h140 => False.elim (by omega))⟩
      refine hQ _ _ (f : Int) hfv ?_ ?_ (fun h9 => by first | (exfalso; omega) | exact ⟨by omega, by omega, by omega⟩) (by omega) (fun c j h0 h1 h2 h3 => ((fr c j h0 h1 (by omega) (by omega)).trans rfl)) (by omega)
      · first
        | (have hf : f ≠ -1 := by omega
           exact tuV_p hst hf)
        | (have hf : f = -1 := by omega
           subst hf
           first
           | exact tuV_tq hst rfl hi (by omega) (by omega) (by omega) (by omega)
           | exact tuV_f1 hst rfl hi (by omega) (by omega))
      · intro h9
        first
        | (exfalso; omega)
        | (have e : ((q : Int) + 1).toNat = q + 1 := by omega
           rw [e]
           exact zVK_k (hkv (by omega)) ⟨by omega, by omega⟩ w148.2.2.1 w148.2.2.2 (fun j hj => p148bfr (k + 9) j (by omega) (by omega) (by omega) (by omega)))
    · refine And.intro (zDX hD 0 rfl) ⟨_, sn_V_c.up (by decide), ?_⟩
      refine ⟨_, _, _, (q : Int), q, rfl, hD, (by first | exact (zRM_fr hX (fun c j h => ((fr c j (by omega) (by omega) (by omega) (by omega)).trans rfl))) | (clear hQ; grind [xu])), (by first | exact hc | (clear hQ; grind [xu])), (by omega), ?_⟩
      intro v14o p14hv p14bhv2
      refine And.intro ⟨(by omega), (zRb rfl)⟩ ⟨fun h19 => ?_, fun h19 => ?_⟩
      · refine And.intro (zDX hD 0 rfl) (zrd (v := f) hfv ?_)
        refine And.intro ⟨(by omega), (zRb rfl)⟩ ⟨(fun h140 => False.elim (by omega)), fun h140 => ?_⟩
        refine And.intro (zDX hD 0 rfl) ⟨_, sn_V_kep.up (by decide), ?_⟩
        refine ⟨k, c, n, mk, fd, (q : Int), q, ((q + 1) : Int), (q + 1), (kf + (q - op)), lim, (q - op), rfl, hD, (by first | exact (zRM_fr hX (fun c j h => ((fr c j (by omega) (by omega) (by omega) (by omega)).trans rfl))) | (clear hQ; grind [xu])), (by first | exact hc | (clear hQ; grind [xu])), ((fr k 15 (by omega) (by omega) (by omega) (by omega)).trans hmk), (by omega), ((fr k 17 (by omega) (by omega) (by omega) (by omega)).trans hfd), (by omega), (by omega), (by omega), ((hkv (by omega)).1.trans (by omega)), (by omega), (by omega), (fun e => ((hkv (by omega)).2 e).1), (by omega), (Eq.trans (b := (f : Int)) hfv (by omega)), ?_⟩
        intro I148o p148hg p148bfr
        rcases p148hg with w148 | w148
        · refine hQ _ _ ((-1) : Int) w148.2.1 ?_ ?_ (fun h9 => by first | (exfalso; omega) | exact ⟨by omega, by omega, by omega⟩) (by omega) (fun c j h0 h1 h2 h3 => ((p148bfr c j h0 h1 (by omega) (by omega)).trans ((fr c j h0 h1 (by omega) (by omega)).trans rfl))) (by omega)
          · first
            | (have hf : f ≠ -1 := by omega
               exact tuV_p hst hf)
            | (have hf : f = -1 := by omega
               subst hf
               first
               | exact tuV_tq hst rfl hi (by omega) (by omega) (by omega) (by omega)
               | exact tuV_f1 hst rfl hi (by omega) (by omega))
          · intro h9
            first
            | (exfalso; omega)
            | (have e : ((q : Int) + 1).toNat = q + 1 := by omega
               rw [e]
               exact zVK_k (hkv (by omega)) ⟨by omega, by omega⟩ w148.2.2.1 w148.2.2.2 (fun j hj => p148bfr (k + 9) j (by omega) (by omega) (by omega) (by omega)))
        · refine hQ _ _ (lim : Int) w148.2 ?_ ?_ (fun h9 => by first | (exfalso; omega) | exact ⟨by omega, by omega, by omega⟩) (by omega) (fun c j h0 h1 h2 h3 => ((p148bfr c j h0 h1 (by omega) (by omega)).trans ((fr c j h0 h1 (by omega) (by omega)).trans rfl))) (by omega)
          · first
            | (have hf : f ≠ -1 := by omega
               exact tuV_p hst hf)
            | (have hf : f = -1 := by omega
               subst hf
               first
               | exact tuV_tq hst rfl hi (by omega) (by omega) (by omega) (by omega)
               | exact tuV_f1 hst rfl hi (by omega) (by omega))
          · intro h9
            first
            | (exfalso; omega)
            | (have e : ((q : Int) + 1).toNat = q + 1 := by omega
               rw [e]
               exact zVK_k (hkv (by omega)) ⟨by omega, by omega⟩ w148.2.2.1 w148.2.2.2 (fun j hj => p148bfr (k + 9) j (by omega) (by omega) (by omega) (by omega)))
      · refine And.intro (zDX hD 0 rfl) ⟨_, sn_V_c.up (by decide), ?_⟩
        refine ⟨_, _, _, (q : Int), q, rfl, hD, (by first | exact (zRM_fr hX (fun c j h => ((fr c j (by omega) (by omega) (by omega) (by omega)).trans rfl))) | (clear hQ; grind [xu])), (by first | exact hc | (clear hQ; grind [xu])), (by omega), ?_⟩
        intro v24o p24hv p24bhv2
        refine And.intro ⟨(by omega), (zRb rfl)⟩ ⟨fun h29 => ?_, fun h29 => ?_⟩
        · refine And.intro (zDX hD 0 rfl) ⟨_, sn_V_c.up (by decide), ?_⟩
          refine ⟨_, _, _, (q : Int), q, rfl, hD, (by first | exact (zRM_fr hX (fun c j h => ((fr c j (by omega) (by omega) (by omega) (by omega)).trans rfl))) | (clear hQ; grind [xu])), (by first | exact hc | (clear hQ; grind [xu])), (by omega), ?_⟩
          intro v40o p40hv p40bhv2
          refine And.intro ⟨(by omega), (zRb rfl)⟩ ⟨fun h44 => ?_, fun h44 => ?_⟩
          · refine And.intro (zDX hD 0 rfl) ⟨_, sn_V_kep.up (by decide), ?_⟩
            refine ⟨k, c, n, mk, fd, (q : Int), q, ((q + 1) : Int), (q + 1), (kf + (q - op)), lim, (q - op), rfl, hD, (by first | exact (zRM_fr hX (fun c j h => ((fr c j (by omega) (by omega) (by omega) (by omega)).trans rfl))) | (clear hQ; grind [xu])), (by first | exact hc | (clear hQ; grind [xu])), ((fr k 15 (by omega) (by omega) (by omega) (by omega)).trans hmk), (by omega), ((fr k 17 (by omega) (by omega) (by omega) (by omega)).trans hfd), (by omega), (by omega), (by omega), ((hkv (by omega)).1.trans (by omega)), (by omega), (by omega), (fun e => ((hkv (by omega)).2 e).1), (by omega), (Eq.trans (b := (f : Int)) hfv (by omega)), ?_⟩
            intro I60o p60hg p60bfr
            rcases p60hg with w60 | w60
            · refine And.intro (zRb rfl) (zbt rfl ?_)
              refine And.intro (zRb rfl) (zbt rfl ?_)
              refine And.intro (zRb rfl) (zbt rfl ?_)
              refine ⟨((5000 - (q + 1)), 0, 0), zlt6 (by omega), [some (zvr (k)), some (zvi (p_)), some (zvi ((q + 1))), none], ⟨rfl, rfl, rfl, rfl⟩, (q + 1), (-1), rfl, rfl, rfl, rfl, rfl, rfl, (by omega), (by omega), w60.2.1, (fun h9 => by first | (exfalso; omega) | exact ⟨by omega, by omega, by omega⟩), ?_, ?_, (fun c j h0 h1 h2 h3 => ((p60bfr c j h0 h1 (by omega) (by omega)).trans ((fr c j h0 h1 (by omega) (by omega)).trans rfl)))⟩
              · have hf : f = -1 := by omega
                subst hf
                first
                | exact tuV_tn hst rfl hi (by omega) (by omega) (by omega) (by omega) (by omega)
                | exact tuV_te hst rfl hi (by omega) (by omega) (by omega) (by omega) (by omega)
                | exact tuV_f1 hst rfl hi (by omega) (by omega)
                | exact tuV_f2 hst rfl hi (by omega) (by omega) (by omega) (by omega) (by omega)
              · intro h9
                first
                | (exfalso; omega)
                | exact zVK_k (zVK_k (hkv (by omega)) (q' := q + 1) ⟨by omega, by omega⟩ w60.2.2.1 w60.2.2.2 (fun j hj => p60bfr (k + 9) j (by omega) (by omega) (by omega) (by omega))) ⟨by omega, by omega⟩ w117.2.2.1 w117.2.2.2 (fun j hj => p117bfr (k + 9) j (by omega) (by omega) (by omega) (by omega))
                | exact zVK_k (hkv (by omega)) ⟨by omega, by omega⟩ w60.2.2.1 w60.2.2.2 (fun j hj => p60bfr (k + 9) j (by omega) (by omega) (by omega) (by omega))
            · refine And.intro (zRb rfl) (zbt rfl ?_)
              refine And.intro (zRb rfl) (zbt rfl ?_)
              refine And.intro (zRb rfl) (zbt rfl ?_)
              refine ⟨((5000 - (q + 1)), 0, 0), zlt6 (by omega), [some (zvr (k)), some (zvi (p_)), some (zvi ((q + 1))), none], ⟨rfl, rfl, rfl, rfl⟩, (q + 1), lim, rfl, rfl, rfl, rfl, rfl, rfl, (by omega), (by omega), w60.2, (fun h9 => by first | (exfalso; omega) | exact ⟨by omega, by omega, by omega⟩), ?_, ?_, (fun c j h0 h1 h2 h3 => ((p60bfr c j h0 h1 (by omega) (by omega)).trans ((fr c j h0 h1 (by omega) (by omega)).trans rfl)))⟩
              · have hf : f = -1 := by omega
                subst hf
                first
                | exact tuV_tn hst rfl hi (by omega) (by omega) (by omega) (by omega) (by omega)
                | exact tuV_te hst rfl hi (by omega) (by omega) (by omega) (by omega) (by omega)
                | exact tuV_f1 hst rfl hi (by omega) (by omega)
                | exact tuV_f2 hst rfl hi (by omega) (by omega) (by omega) (by omega) (by omega)
              · intro h9
                first
                | (exfalso; omega)
                | exact zVK_k (zVK_k (hkv (by omega)) (q' := q + 1) ⟨by omega, by omega⟩ w60.2.2.1 w60.2.2.2 (fun j hj => p60bfr (k + 9) j (by omega) (by omega) (by omega) (by omega))) ⟨by omega, by omega⟩ w117.2.2.1 w117.2.2.2 (fun j hj => p117bfr (k + 9) j (by omega) (by omega) (by omega) (by omega))
                | exact zVK_k (hkv (by omega)) ⟨by omega, by omega⟩ w60.2.2.1 w60.2.2.2 (fun j hj => p60bfr (k + 9) j (by omega) (by omega) (by omega) (by omega))
          · refine And.intro (zDX hD 0 rfl) (Exists.intro _ (And.intro (zinl_ok (zT20_9 1)) (And.intro rfl ?_)))
            refine And.intro (zDX hD 0 rfl) (zrd (v := f) hfv ?_)
            refine And.intro ⟨(by omega), (zRb rfl)⟩ ⟨(fun h5_49 => False.elim (by omega)), fun h5_49 => ?_⟩
            refine And.intro (zDX hD 0 rfl) ⟨_, (zWi (by omega)), ?_⟩
            refine And.intro (zRb rfl) (zbt rfl ?_)
            refine And.intro (zRb rfl) (zbt rfl ?_)
            refine And.intro (zRb rfl) (zbt rfl ?_)
            refine ⟨((5000 - (q + 1)), 0, 0), zlt6 (by omega), [some (zvr (k)), some (zvi (p_)), some (zvi ((q + 1))), none], ⟨rfl, rfl, rfl, rfl⟩, (q + 1), q, rfl, rfl, rfl, rfl, rfl, rfl, (by omega), (by omega), zxe, (fun h9 => by first | (exfalso; omega) | exact ⟨by omega, by omega, by omega⟩), ?_, ?_, (fun c j h0 h1 h2 h3 => (zxcj h0 ((fr c j h0 h1 (by omega) (by omega)).trans rfl)))⟩
            · have hf : f = -1 := by omega
              subst hf
              first
              | exact tuV_tn hst rfl hi (by omega) (by omega) (by omega) (by omega) (by omega)
              | exact tuV_te hst rfl hi (by omega) (by omega) (by omega) (by omega) (by omega)
              | exact tuV_f1 hst rfl hi (by omega) (by omega)
              | exact tuV_f2 hst rfl hi (by omega) (by omega) (by omega) (by omega) (by omega)
            · intro h9
              first
              | (exfalso; omega)
              | exact zVK_k (zVK_k (hkv (by omega)) (q' := q + 1) ⟨by omega, by omega⟩ w60.2.2.1 w60.2.2.2 (fun j hj => p60bfr (k + 9) j (by omega) (by omega) (by omega) (by omega))) ⟨by omega, by omega⟩ w117.2.2.1 w117.2.2.2 (fun j hj => p117bfr (k + 9) j (by omega) (by omega) (by omega) (by omega))
              | exact zVK_k (hkv (by omega)) ⟨by omega, by omega⟩ w60.2.2.1 w60.2.2.2 (fun j hj => p60bfr (k + 9) j (by omega) (by omega) (by omega) (by omega))
        · refine And.intro (zDX hD 0 rfl) ⟨_, sn_V_c.up (by decide), ?_⟩
          refine ⟨_, _, _, (q : Int), q, rfl, hD, (by first | exact (zRM_fr hX (fun c j h => ((fr c j (by omega) (by omega) (by omega) (by omega)).trans rfl))) | (clear hQ; grind [xu])), (by first | exact hc | (clear hQ; grind [xu])), (by omega), ?_⟩
          intro v40o p40hv p40bhv2
          refine And.intro ⟨(by omega), (zRb rfl)⟩ ⟨fun h44 => ?_, (fun h44 => False.elim (by omega))⟩
          refine And.intro (zDX hD 0 rfl) ⟨_, sn_V_kep.up (by decide), ?_⟩
          refine ⟨k, c, n, mk, fd, (q : Int), q, ((q + 1) : Int), (q + 1), (kf + (q - op)), lim, (q - op), rfl, hD, (by first | exact (zRM_fr hX (fun c j h => ((fr c j (by omega) (by omega) (by omega) (by omega)).trans rfl))) | (clear hQ; grind [xu])), (by first | exact hc | (clear hQ; grind [xu])), ((fr k 15 (by omega) (by omega) (by omega) (by omega)).trans hmk), (by omega), ((fr k 17 (by omega) (by omega) (by omega) (by omega)).trans hfd), (by omega), (by omega), (by omega), ((hkv (by omega)).1.trans (by omega)), (by omega), (by omega), (fun e => ((hkv (by omega)).2 e).1), (by omega), (Eq.trans (b := (f : Int)) hfv (by omega)), ?_⟩
          intro I60o p60hg p60bfr
          rcases p60hg with w60 | w60
          · refine And.intro (zRb rfl) (zbf rfl ?_)
            refine And.intro (zDX hD 0 rfl) ⟨_, sn_V_c.up (by decide), ?_⟩
            refine ⟨_, _, _, ((q + 1) : Int), (q + 1), rfl, hD, (by first | exact (zRM_fr hX (fun c j h => ((p60bfr c j (by omega) (by omega) (by omega) (by omega)).trans ((fr c j (by omega) (by omega) (by omega) (by omega)).trans rfl)))) | (clear hQ; grind [xu])), (by first | exact hc | (clear hQ; grind [xu])), (by omega), ?_⟩
            intro v71o p71hv p71bhv2
            refine And.intro ⟨(by omega), (zRb rfl)⟩ ⟨fun h76 => ?_, fun h76 => ?_⟩
            · refine And.intro (zRb rfl) (zbf rfl ?_)
              refine And.intro (zDX hD 0 rfl) (zrd (v := (-1)) w60.2.1 ?_)
              refine And.intro ⟨(zRb rfl), (zRb rfl)⟩ (zbf rfl ?_)
              refine And.intro (zDX hD 0 rfl) ⟨_, sn_V_kep.up (by decide), ?_⟩
              refine ⟨k, c, n, mk, fd, ((q + 1) : Int), (q + 1), ((q + 2) : Int), (q + 2), (kf + ((q + 1) - op)), lim, ((q + 1) - op), rfl, hD, (by first | exact (zRM_fr hX (fun c j h => ((p60bfr c j (by omega) (by omega) (by omega) (by omega)).trans ((fr c j (by omega) (by omega) (by omega) (by omega)).trans rfl)))) | (clear hQ; grind [xu])), (by first | exact hc | (clear hQ; grind [xu])), ((p60bfr k 15 (by omega) (by omega) (by omega) (by omega)).trans ((fr k 15 (by omega) (by omega) (by omega) (by omega)).trans hmk)), (by omega), ((p60bfr k 17 (by omega) (by omega) (by omega) (by omega)).trans ((fr k 17 (by omega) (by omega) (by omega) (by omega)).trans hfd)), (by omega), (by omega), (by omega), (w60.2.2.1.trans (by omega)), (by omega), (by omega), (fun e => (w60.2.2.2 e).1.trans (by omega)), (by omega), (Eq.trans (b := ((-1) : Int)) w60.2.1 (by omega)), ?_⟩
              intro I117o p117hg p117bfr
              rcases p117hg with w117 | w117
              · refine And.intro (zRb rfl) (zbf rfl ?_)
                refine ⟨((5000 - (q + 2)), 0, 0), zlt6 (by omega), [some (zvr (k)), some (zvi (p_)), some (zvi ((q + 2))), none], ⟨rfl, rfl, rfl, rfl⟩, (q + 2), (-1), rfl, rfl, rfl, rfl, rfl, rfl, (by omega), (by omega), w117.2.1, (fun h9 => by first | (exfalso; omega) | exact ⟨by omega, by omega, by omega⟩), ?_, ?_, (fun c j h0 h1 h2 h3 => ((p117bfr c j h0 h1 (by omega) (by omega)).trans ((p60bfr c j h0 h1 (by omega) (by omega)).trans ((fr c j h0 h1 (by omega) (by omega)).trans rfl))))⟩
                · have hf : f = -1 := by omega
                  subst hf
                  first
                  | exact tuV_tn hst rfl hi (by omega) (by omega) (by omega) (by omega) (by omega)
                  | exact tuV_te hst rfl hi (by omega) (by omega) (by omega) (by omega) (by omega)
                  | exact tuV_f1 hst rfl hi (by omega) (by omega)
                  | exact tuV_f2 hst rfl hi (by omega) (by omega) (by omega) (by omega) (by omega)
                · intro h9
                  first
                  | (exfalso; omega)
                  | exact zVK_k (zVK_k (hkv (by omega)) (q' := q + 1) ⟨by omega, by omega⟩ w60.2.2.1 w60.2.2.2 (fun j hj => p60bfr (k + 9) j (by omega) (by omega) (by omega) (by omega))) ⟨by omega, by omega⟩ w117.2.2.1 w117.2.2.2 (fun j hj => p117bfr (k + 9) j (by omega) (by omega) (by omega) (by omega))
                  | exact zVK_k (hkv (by omega)) ⟨by omega, by omega⟩ w60.2.2.1 w60.2.2.2 (fun j hj => p60bfr (k + 9) j (by omega) (by omega) (by omega) (by omega))
              · refine And.intro (zRb rfl) (zbf rfl ?_)
                refine ⟨((5000 - (q + 2)), 0, 0), zlt6 (by omega), [some (zvr (k)), some (zvi (p_)), some (zvi ((q + 2))), none], ⟨rfl, rfl, rfl, rfl⟩, (q + 2), lim, rfl, rfl, rfl, rfl, rfl, rfl, (by omega), (by omega), w117.2, (fun h9 => by first | (exfalso; omega) | exact ⟨by omega, by omega, by omega⟩), ?_, ?_, (fun c j h0 h1 h2 h3 => ((p117bfr c j h0 h1 (by omega) (by omega)).trans ((p60bfr c j h0 h1 (by omega) (by omega)).trans ((fr c j h0 h1 (by omega) (by omega)).trans rfl))))⟩
                · have hf : f = -1 := by omega
                  subst hf
                  first
                  | exact tuV_tn hst rfl hi (by omega) (by omega) (by omega) (by omega) (by omega)
                  | exact tuV_te hst rfl hi (by omega) (by omega) (by omega) (by omega) (by omega)
                  | exact tuV_f1 hst rfl hi (by omega) (by omega)
                  | exact tuV_f2 hst rfl hi (by omega) (by omega) (by omega) (by omega) (by omega)
                · intro h9
                  first
                  | (exfalso; omega)
                  | exact zVK_k (zVK_k (hkv (by omega)) (q' := q + 1) ⟨by omega, by omega⟩ w60.2.2.1 w60.2.2.2 (fun j hj => p60bfr (k + 9) j (by omega) (by omega) (by omega) (by omega))) ⟨by omega, by omega⟩ w117.2.2.1 w117.2.2.2 (fun j hj => p117bfr (k + 9) j (by omega) (by omega) (by omega) (by omega))
                  | exact zVK_k (hkv (by omega)) ⟨by omega, by omega⟩ w60.2.2.1 w60.2.2.2 (fun j hj => p60bfr (k + 9) j (by omega) (by omega) (by omega) (by omega))
            · refine And.intro (zDX hD 0 rfl) ⟨_, sn_V_c.up (by decide), ?_⟩
              refine ⟨_, _, _, ((q + 1) : Int), (q + 1), rfl, hD, (by first | exact (zRM_fr hX (fun c j h => ((p60bfr c j (by omega) (by omega) (by omega) (by omega)).trans ((fr c j (by omega) (by omega) (by omega) (by omega)).trans rfl)))) | (clear hQ; grind [xu])), (by first | exact hc | (clear hQ; grind [xu])), (by omega), ?_⟩
              intro v83o p83hv p83bhv2
              refine And.intro ⟨(by omega), (zRb rfl)⟩ ⟨fun h88 => ?_, fun h88 => ?_⟩
              · refine And.intro (zRb rfl) (zbf rfl ?_)
                refine And.intro (zDX hD 0 rfl) (zrd (v := (-1)) w60.2.1 ?_)
                refine And.intro ⟨(zRb rfl), (zRb rfl)⟩ (zbf rfl ?_)
                refine And.intro (zDX hD 0 rfl) ⟨_, sn_V_kep.up (by decide), ?_⟩
                refine ⟨k, c, n, mk, fd, ((q + 1) : Int), (q + 1), ((q + 2) : Int), (q + 2), (kf + ((q + 1) - op)), lim, ((q + 1) - op), rfl, hD, (by first | exact (zRM_fr hX (fun c j h => ((p60bfr c j (by omega) (by omega) (by omega) (by omega)).trans ((fr c j (by omega) (by omega) (by omega) (by omega)).trans rfl)))) | (clear hQ; grind [xu])), (by first | exact hc | (clear hQ; grind [xu])), ((p60bfr k 15 (by omega) (by omega) (by omega) (by omega)).trans ((fr k 15 (by omega) (by omega) (by omega) (by omega)).trans hmk)), (by omega), ((p60bfr k 17 (by omega) (by omega) (by omega) (by omega)).trans ((fr k 17 (by omega) (by omega) (by omega) (by omega)).trans hfd)), (by omega), (by omega), (by omega), (w60.2.2.1.trans (by omega)), (by omega), (by omega), (fun e => (w60.2.2.2 e).1.trans (by omega)), (by omega), (Eq.trans (b := ((-1) : Int)) w60.2.1 (by omega)), ?_⟩
                intro I117o p117hg p117bfr
                rcases p117hg with w117 | w117
                · refine And.intro (zRb rfl) (zbf rfl ?_)
                  refine ⟨((5000 - (q + 2)), 0, 0), zlt6 (by omega), [some (zvr (k)), some (zvi (p_)), some (zvi ((q + 2))), none], ⟨rfl, rfl, rfl, rfl⟩, (q + 2), (-1), rfl, rfl, rfl, rfl, rfl, rfl, (by omega), (by omega), w117.2.1, (fun h9 => by first | (exfalso; omega) | exact ⟨by omega, by omega, by omega⟩), ?_, ?_, (fun c j h0 h1 h2 h3 => ((p117bfr c j h0 h1 (by omega) (by omega)).trans ((p60bfr c j h0 h1 (by omega) (by omega)).trans ((fr c j h0 h1 (by omega) (by omega)).trans rfl))))⟩
                  · have hf : f = -1 := by omega
                    subst hf
                    first
                    | exact tuV_tn hst rfl hi (by omega) (by omega) (by omega) (by omega) (by omega)
                    | exact tuV_te hst rfl hi (by omega) (by omega) (by omega) (by omega) (by omega)
                    | exact tuV_f1 hst rfl hi (by omega) (by omega)
                    | exact tuV_f2 hst rfl hi (by omega) (by omega) (by omega) (by omega) (by omega)
                  · intro h9
                    first
                    | (exfalso; omega)
                    | exact zVK_k (zVK_k (hkv (by omega)) (q' := q + 1) ⟨by omega, by omega⟩ w60.2.2.1 w60.2.2.2 (fun j hj => p60bfr (k + 9) j (by omega) (by omega) (by omega) (by omega))) ⟨by omega, by omega⟩ w117.2.2.1 w117.2.2.2 (fun j hj => p117bfr (k + 9) j (by omega) (by omega) (by omega) (by omega))
                    | exact zVK_k (hkv (by omega)) ⟨by omega, by omega⟩ w60.2.2.1 w60.2.2.2 (fun j hj => p60bfr (k + 9) j (by omega) (by omega) (by omega) (by omega))
                · refine And.intro (zRb rfl) (zbf rfl ?_)
                  refine ⟨((5000 - (q + 2)), 0, 0), zlt6 (by omega), [some (zvr (k)), some (zvi (p_)), some (zvi ((q + 2))), none], ⟨rfl, rfl, rfl, rfl⟩, (q + 2), lim, rfl, rfl, rfl, rfl, rfl, rfl, (by omega), (by omega), w117.2, (fun h9 => by first | (exfalso; omega) | exact ⟨by omega, by omega, by omega⟩), ?_, ?_, (fun c j h0 h1 h2 h3 => ((p117bfr c j h0 h1 (by omega) (by omega)).trans ((p60bfr c j h0 h1 (by omega) (by omega)).trans ((fr c j h0 h1 (by omega) (by omega)).trans rfl))))⟩
                  · have hf : f = -1 := by omega
                    subst hf
                    first
                    | exact tuV_tn hst rfl hi (by omega) (by omega) (by omega) (by omega) (by omega)
                    | exact tuV_te hst rfl hi (by omega) (by omega) (by omega) (by omega) (by omega)
                    | exact tuV_f1 hst rfl hi (by omega) (by omega)
                    | exact tuV_f2 hst rfl hi (by omega) (by omega) (by omega) (by omega) (by omega)
                  · intro h9
                    first
                    | (exfalso; omega)
                    | exact zVK_k (zVK_k (hkv (by omega)) (q' := q + 1) ⟨by omega, by omega⟩ w60.2.2.1 w60.2.2.2 (fun j hj => p60bfr (k + 9) j (by omega) (by omega) (by omega) (by omega))) ⟨by omega, by omega⟩ w117.2.2.1 w117.2.2.2 (fun j hj => p117bfr (k + 9) j (by omega) (by omega) (by omega) (by omega))
                    | exact zVK_k (hkv (by omega)) ⟨by omega, by omega⟩ w60.2.2.1 w60.2.2.2 (fun j hj => p60bfr (k + 9) j (by omega) (by omega) (by omega) (by omega))
              · refine And.intro (zDX hD 0 rfl) (Exists.intro _ (And.intro (zinl_ok (zT20_9 1)) (And.intro rfl ?_)))
                refine And.intro (zDX hD 0 rfl) (zrd (v := (-1)) w60.2.1 ?_)
                refine And.intro ⟨(zRb rfl), (zRb rfl)⟩ (zbf rfl ?_)
                refine And.intro (zDX hD 0 rfl) ⟨_, (zWi (by omega)), ?_⟩
                refine And.intro (zRb rfl) (zbf rfl ?_)
                refine And.intro (zDX hD 0 rfl) (zrd (v := (q + 1)) zxe ?_)
                refine And.intro ⟨(by omega), (zRb rfl)⟩ ⟨fun h107 => ?_, (fun h107 => False.elim (by omega))⟩
                refine And.intro (zRb rfl) (zbf rfl ?_)
                refine ⟨((5000 - (q + 2)), 0, 0), zlt6 (by omega), [some (zvr (k)), some (zvi (p_)), some (zvi ((q + 2))), none], ⟨rfl, rfl, rfl, rfl⟩, (q + 2), (q + 1), rfl, rfl, rfl, rfl, rfl, rfl, (by omega), (by omega), zxe, (fun h9 => by first | (exfalso; omega) | exact ⟨by omega, by omega, by omega⟩), ?_, ?_, (fun c j h0 h1 h2 h3 => (zxcj h0 ((p60bfr c j h0 h1 (by omega) (by omega)).trans ((fr c j h0 h1 (by omega) (by omega)).trans rfl))))⟩
                · have hf : f = -1 := by omega
                  subst hf
                  first
                  | exact tuV_tn hst rfl hi (by omega) (by omega) (by omega) (by omega) (by omega)
                  | exact tuV_te hst rfl hi (by omega) (by omega) (by omega) (by omega) (by omega)
                  | exact tuV_f1 hst rfl hi (by omega) (by omega)
                  | exact tuV_f2 hst rfl hi (by omega) (by omega) (by omega) (by omega) (by omega)
                · intro h9
                  first
                  | (exfalso; omega)
                  | exact zVK_k (zVK_k (hkv (by omega)) (q' := q + 1) ⟨by omega, by omega⟩ w60.2.2.1 w60.2.2.2 (fun j hj => p60bfr (k + 9) j (by omega) (by omega) (by omega) (by omega))) ⟨by omega, by omega⟩ w117.2.2.1 w117.2.2.2 (fun j hj => p117bfr (k + 9) j (by omega) (by omega) (by omega) (by omega))
                  | exact zVK_k (hkv (by omega)) ⟨by omega, by omega⟩ w60.2.2.1 w60.2.2.2 (fun j hj => p60bfr (k + 9) j (by omega) (by omega) (by omega) (by omega))
          · refine And.intro (zRb rfl) (zbf rfl ?_)
            refine And.intro (zDX hD 0 rfl) ⟨_, sn_V_c.up (by decide), ?_⟩
            refine ⟨_, _, _, ((q + 1) : Int), (q + 1), rfl, hD, (by first | exact (zRM_fr hX (fun c j h => ((p60bfr c j (by omega) (by omega) (by omega) (by omega)).trans ((fr c j (by omega) (by omega) (by omega) (by omega)).trans rfl)))) | (clear hQ; grind [xu])), (by first | exact hc | (clear hQ; grind [xu])), (by omega), ?_⟩
            intro v71o p71hv p71bhv2
            refine And.intro ⟨(by omega), (zRb rfl)⟩ ⟨fun h76 => ?_, fun h76 => ?_⟩
            · refine And.intro (zRb rfl) (zbf rfl ?_)
              refine And.intro (zDX hD 0 rfl) (zrd (v := lim) w60.2 ?_)
              refine And.intro ⟨(by omega), (zRb rfl)⟩ ⟨fun h107 => ?_, (fun h107 => False.elim (by omega))⟩
              refine And.intro (zRb rfl) (zbf rfl ?_)
              refine ⟨((5000 - (q + 2)), 0, 0), zlt6 (by omega), [some (zvr (k)), some (zvi (p_)), some (zvi ((q + 2))), none], ⟨rfl, rfl, rfl, rfl⟩, (q + 2), lim, rfl, rfl, rfl, rfl, rfl, rfl, (by omega), (by omega), w60.2, (fun h9 => by first | (exfalso; omega) | exact ⟨by omega, by omega, by omega⟩), ?_, ?_, (fun c j h0 h1 h2 h3 => ((p60bfr c j h0 h1 (by omega) (by omega)).trans ((fr c j h0 h1 (by omega) (by omega)).trans rfl)))⟩
              · have hf : f = -1 := by omega
                subst hf
                first
                | exact tuV_tn hst rfl hi (by omega) (by omega) (by omega) (by omega) (by omega)
                | exact tuV_te hst rfl hi (by omega) (by omega) (by omega) (by omega) (by omega)
                | exact tuV_f1 hst rfl hi (by omega) (by omega)
                | exact tuV_f2 hst rfl hi (by omega) (by omega) (by omega) (by omega) (by omega)
              · intro h9
                first
                | (exfalso; omega)
                | exact zVK_k (zVK_k (hkv (by omega)) (q' := q + 1) ⟨by omega, by omega⟩ w60.2.2.1 w60.2.2.2 (fun j hj => p60bfr (k + 9) j (by omega) (by omega) (by omega) (by omega))) ⟨by omega, by omega⟩ w117.2.2.1 w117.2.2.2 (fun j hj => p117bfr (k + 9) j (by omega) (by omega) (by omega) (by omega))
                | exact zVK_k (hkv (by omega)) ⟨by omega, by omega⟩ w60.2.2.1 w60.2.2.2 (fun j hj => p60bfr (k + 9) j (by omega) (by omega) (by omega) (by omega))
            · refine And.intro (zDX hD 0 rfl) ⟨_, sn_V_c.up (by decide), ?_⟩
              refine ⟨_, _, _, ((q + 1) : Int), (q + 1), rfl, hD, (by first | exact (zRM_fr hX (fun c j h => ((p60bfr c j (by omega) (by omega) (by omega) (by omega)).trans ((fr c j (by omega) (by omega) (by omega) (by omega)).trans rfl)))) | (clear hQ; grind [xu])), (by first | exact hc | (clear hQ; grind [xu])), (by omega), ?_⟩
              intro v83o p83hv p83bhv2
              refine And.intro ⟨(by omega), (zRb rfl)⟩ ⟨fun h88 => ?_, fun h88 => ?_⟩
              · refine And.intro (zRb rfl) (zbf rfl ?_)
                refine And.intro (zDX hD 0 rfl) (zrd (v := lim) w60.2 ?_)
                refine And.intro ⟨(by omega), (zRb rfl)⟩ ⟨fun h107 => ?_, (fun h107 => False.elim (by omega))⟩
                refine And.intro (zRb rfl) (zbf rfl ?_)
                refine ⟨((5000 - (q + 2)), 0, 0), zlt6 (by omega), [some (zvr (k)), some (zvi (p_)), some (zvi ((q + 2))), none], ⟨rfl, rfl, rfl, rfl⟩, (q + 2), lim, rfl, rfl, rfl, rfl, rfl, rfl, (by omega), (by omega), w60.2, (fun h9 => by first | (exfalso; omega) | exact ⟨by omega, by omega, by omega⟩), ?_, ?_, (fun c j h0 h1 h2 h3 => ((p60bfr c j h0 h1 (by omega) (by omega)).trans ((fr c j h0 h1 (by omega) (by omega)).trans rfl)))⟩
                · have hf : f = -1 := by omega
                  subst hf
                  first
                  | exact tuV_tn hst rfl hi (by omega) (by omega) (by omega) (by omega) (by omega)
                  | exact tuV_te hst rfl hi (by omega) (by omega) (by omega) (by omega) (by omega)
                  | exact tuV_f1 hst rfl hi (by omega) (by omega)
                  | exact tuV_f2 hst rfl hi (by omega) (by omega) (by omega) (by omega) (by omega)
                · intro h9
                  first
                  | (exfalso; omega)
                  | exact zVK_k (zVK_k (hkv (by omega)) (q' := q + 1) ⟨by omega, by omega⟩ w60.2.2.1 w60.2.2.2 (fun j hj => p60bfr (k + 9) j (by omega) (by omega) (by omega) (by omega))) ⟨by omega, by omega⟩ w117.2.2.1 w117.2.2.2 (fun j hj => p117bfr (k + 9) j (by omega) (by omega) (by omega) (by omega))
                  | exact zVK_k (hkv (by omega)) ⟨by omega, by omega⟩ w60.2.2.1 w60.2.2.2 (fun j hj => p60bfr (k + 9) j (by omega) (by omega) (by omega) (by omega))
              · refine And.intro (zDX hD 0 rfl) (Exists.intro _ (And.intro (zinl_ok (zT20_9 1)) (And.intro rfl ?_)))
                refine And.intro (zDX hD 0 rfl) (zrd (v := lim) w60.2 ?_)
                refine And.intro ⟨(by omega), (zRb rfl)⟩ ⟨fun h5_95 => ?_, (fun h5_95 => False.elim (by omega))⟩
                refine And.intro (zRb rfl) (zbf rfl ?_)
                refine And.intro (zDX hD 0 rfl) (zrd (v := lim) w60.2 ?_)
                refine And.intro ⟨(by omega), (zRb rfl)⟩ ⟨fun h107 => ?_, (fun h107 => False.elim (by omega))⟩
                refine And.intro (zRb rfl) (zbf rfl ?_)
                refine ⟨((5000 - (q + 2)), 0, 0), zlt6 (by omega), [some (zvr (k)), some (zvi (p_)), some (zvi ((q + 2))), none], ⟨rfl, rfl, rfl, rfl⟩, (q + 2), lim, rfl, rfl, rfl, rfl, rfl, rfl, (by omega), (by omega), w60.2, (fun h9 => by first | (exfalso; omega) | exact ⟨by omega, by omega, by omega⟩), ?_, ?_, (fun c j h0 h1 h2 h3 => ((p60bfr c j h0 h1 (by omega) (by omega)).trans ((fr c j h0 h1 (by omega) (by omega)).trans rfl)))⟩
                · have hf : f = -1 := by omega
                  subst hf
                  first
                  | exact tuV_tn hst rfl hi (by omega) (by omega) (by omega) (by omega) (by omega)
                  | exact tuV_te hst rfl hi (by omega) (by omega) (by omega) (by omega) (by omega)
                  | exact tuV_f1 hst rfl hi (by omega) (by omega)
                  | exact tuV_f2 hst rfl hi (by omega) (by omega) (by omega) (by omega) (by omega)
                · intro h9
                  first
                  | (exfalso; omega)
                  | exact zVK_k (zVK_k (hkv (by omega)) (q' := q + 1) ⟨by omega, by omega⟩ w60.2.2.1 w60.2.2.2 (fun j hj => p60bfr (k + 9) j (by omega) (by omega) (by omega) (by omega))) ⟨by omega, by omega⟩ w117.2.2.1 w117.2.2.2 (fun j hj => p117bfr (k + 9) j (by omega) (by omega) (by omega) (by omega))
                  | exact zVK_k (hkv (by omega)) ⟨by omega, by omega⟩ w60.2.2.1 w60.2.2.2 (fun j hj => p60bfr (k + 9) j (by omega) (by omega) (by omega) (by omega)))
def T_V_psl : ZT := fun args I L R S Q => ∃ (k : Nat) (c : Nat → Int) (n : Nat) (mk : Int) (fd : Nat) (lim : Nat) (ar : Nat) (q0 : Nat) (op : Nat) (kf : Nat) (p : Int) (a : Int) (f0 : Int), args = [zvr k, zvi p, zvi a] ∧ (zDy zT20 zF20 k R S) ∧ (zRM k c n I) ∧ (tOk c n) ∧ (I k 15 = mk) ∧ (0 ≤ mk ∧ mk ≤ 1) ∧ (I k 17 = fd) ∧ (fd ≤ 199) ∧ (p = q0 ∧ q0 ≤ n) ∧ (a = ar ∧ ar ≤ 99) ∧ (lim + kf = op + 2000) ∧ (op ≤ q0) ∧ (kf ≤ 2000) ∧ (I k 18 = f0) ∧ (-1 ≤ f0 ∧ f0 ≤ 9000) ∧ ((f0 = -1 ∧ q0 ≤ lim ∧ zVK k c op kf q0 mk fd I) ∨ (f0 ≠ -1 ∧ lim < q0 ∧ f0 = lim)) ∧ ∀ (v : Int) (I' : ZI), (I' k 18 = tuX c n lim ar q0) → (tuX c n lim ar q0 = -1 → v = tuE c n lim ar q0 ∧ zVK k c op kf (tuE c n lim ar q0) mk fd I') → (0 ≤ v ∧ v ≤ 4200) → (∀ c j : Nat, ¬ (c = k ∧ j = 18) → ¬ (c = k ∧ j = 22) → ¬ (c = k + 8 ∧ (mk = 1 ∧ j = fd)) → ¬ (c = k + 9 ∧ (mk = 1 ∧ kf ≤ j)) → I' c j = I c j) → Q (some (zvi (v))) I' L R S
theorem sn_V_psl : ZSnd 4 20 30 T_V_psl := ZSnd.loops (zT20_30 3) (by
  rintro args I L R S Q hz ⟨k, c, n, mk, fd, lim, ar, q0, op, kf, p, a, f0, rfl, hD, hX, hc, hmk, hmk2, hfd, hfd2, hp, ha, hlm, hop, hkf, hf0, hfb0, hst0, hQ⟩
  obtain ⟨x1, x2⟩ := id hX
  have hn4 := hc.1
  have hk40 := hD.1
  refine ⟨[5], fun nM tM lsM stM I1 L1 R1 S1 => match tM with
      | 5 => ∃ (q : Nat) (f : Int) (i : Int), nM = (((1 : Int) - (f + 1)).toNat, (5000 - q), 0) ∧ lsM = [some (zvr (k)), some (zvi (p)), some (zvi (a)), some (zvi (i)), some (zvi (q)), none] ∧ stM = [] ∧ L1 = L ∧ R1 = R ∧ S1 = S ∧ (q ≤ 4101) ∧ (0 ≤ i ∧ i ≤ 102) ∧ (-1 ≤ f ∧ f ≤ 9000) ∧ (I1 k 18 = f) ∧ (f = -1 → q ≤ n ∧ q0 ≤ q ∧ q ≤ lim ∧ ar + i ≤ 100) ∧ ((lim < q0 ∧ f = lim) ∨ (q0 ≤ lim ∧ tuV c n lim ar q0 i.toNat 0 f q)) ∧ (f = -1 → zVK k c op kf q mk fd I1) ∧ (∀ c j : Nat, ¬ (c = k ∧ j = 18) → ¬ (c = k ∧ j = 22) → ¬ (c = k + 8 ∧ (mk = 1 ∧ j = fd)) → ¬ (c = k + 9 ∧ (mk = 1 ∧ kf ≤ j)) → I1 c j = I c j)
      | _ => False, rfl, ?_, ⟨?_, True.intro⟩⟩
  · refine ⟨(((1 : Int) - (f0 + 1)).toNat, (5000 - q0), 0), [some (zvr (k)), some (zvi (p)), some (zvi (a)), some (zvi ((1 : Int))), some (zvi (q0)), none], ⟨rfl, rfl, rfl, rfl, (congrArg (fun z => some (zvi z)) (by omega)), rfl⟩, q0, f0, 1, rfl, rfl, rfl, rfl, rfl, rfl, (by omega), (by omega), (by omega), hf0, (fun h9 => by rcases hst0 with z | z; exact ⟨by omega, by omega, by omega, by omega⟩; exact absurd h9 z.1), ?_, (fun h9 => by rcases hst0 with z | z; exact z.2.2; exact absurd h9 z.1), (fun c j h0 h1 h2 h3 => rfl)⟩
    · rcases hst0 with z | z
      · rw [z.1]
        exact Or.inr ⟨z.2.1, tuV_0⟩
      · exact Or.inl ⟨z.2.1, z.2.2⟩
  · rintro nM lsM stM I1 L1 R1 S1 hz1 ⟨q, f, i, rfl, rfl, rfl, rfl, rfl, rfl, hqb, hib, hfb, hfv, hq, hst, hkv, fr⟩
    have cq := tOk_b (p := q) hc
    refine And.intro (zDX hD 0 rfl) (zrd (v := f) hfv ?_)
    refine And.intro ⟨(by omega), (zRb rfl)⟩ ⟨fun h10 => ?_, fun h10 => ?_⟩
    · refine hQ _ _ ?_ ?_ (by omega) (fun c j h0 h1 h2 h3 => ((fr c j h0 h1 (by omega) (by omega)).trans rfl))
      · rcases hst with ⟨z0, z⟩ | ⟨z0, z⟩
        · rw [tuX_l z0]
          first
          | exact hfv.trans z
          | (exfalso; omega)
        · first
          | (have hf : f ≠ -1 := by omega
             exact hfv.trans (tuV_x z (by omega) hf).symm)
          | (have hf : f = -1 := by omega
             subst hf
             first
             | (have hi0 : i.toNat = 0 := by omega
                rw [hi0] at z
                exact hfv.trans (tuV_e z (by omega)).1.symm)
             | (have z2 := tuV_f1 (i' := 0) (m' := 0) (p' := 0) (f := (q : Int)) z rfl (by omega) (by omega) rfl
                exact zxe.trans (tuV_x z2 (by omega) (by omega)).symm))
      · intro h9
        rcases hst with ⟨z0, z⟩ | ⟨z0, z⟩
        · exfalso
          rw [tuX_l z0] at h9
          omega
        · first
          | (exfalso
             have hf : f ≠ -1 := by omega
             rw [tuV_x z (by omega) hf] at h9
             exact hf h9)
          | (have hf : f = -1 := by omega
             subst hf
             first
             | (have hi0 : i.toNat = 0 := by omega
                rw [hi0] at z
                have e := (tuV_e z (by omega)).2
                have e3 : tuE c n lim ar q0 = q := by omega
                rw [e3]
                exact ⟨rfl, hkv rfl⟩)
             | (exfalso
                have z2 := tuV_f1 (i' := 0) (m' := 0) (p' := 0) (f := (q : Int)) z rfl (by omega) (by omega) rfl
                rw [tuV_x z2 (by omega) (by omega)] at h9
                omega))
    · refine And.intro (by omega) ⟨fun h14 => ?_, fun h14 => ?_⟩
      · refine hQ _ _ ?_ ?_ (by omega) (fun c j h0 h1 h2 h3 => ((fr c j h0 h1 (by omega) (by omega)).trans rfl))
        · rcases hst with ⟨z0, z⟩ | ⟨z0, z⟩
          · rw [tuX_l z0]
            first
            | exact hfv.trans z
            | (exfalso; omega)
          · first
            | (have hf : f ≠ -1 := by omega
               exact hfv.trans (tuV_x z (by omega) hf).symm)
            | (have hf : f = -1 := by omega
               subst hf
               first
               | (have hi0 : i.toNat = 0 := by omega
                  rw [hi0] at z
                  exact hfv.trans (tuV_e z (by omega)).1.symm)
               | (have z2 := tuV_f1 (i' := 0) (m' := 0) (p' := 0) (f := (q : Int)) z rfl (by omega) (by omega) rfl
                  exact zxe.trans (tuV_x z2 (by omega) (by omega)).symm))
        · intro h9
          rcases hst with ⟨z0, z⟩ | ⟨z0, z⟩
          · exfalso
            rw [tuX_l z0] at h9
            omega
          · first
            | (exfalso
               have hf : f ≠ -1 := by omega
               rw [tuV_x z (by omega) hf] at h9
               exact hf h9)
            | (have hf : f = -1 := by omega
               subst hf
               first
               | (have hi0 : i.toNat = 0 := by omega
                  rw [hi0] at z
                  have e := (tuV_e z (by omega)).2
                  have e3 : tuE c n lim ar q0 = q := by omega
                  rw [e3]
                  exact ⟨rfl, hkv rfl⟩)
               | (exfalso
                  have z2 := tuV_f1 (i' := 0) (m' := 0) (p' := 0) (f := (q : Int)) z rfl (by omega) (by omega) rfl
                  rw [tuV_x z2 (by omega) (by omega)] at h9
                  omega))
      · refine And.intro (zDX hD 0 rfl) ⟨_, sn_V_c.up (by decide), ?_⟩
        refine ⟨_, _, _, (q : Int), q, rfl, hD, (by first | exact (zRM_fr hX (fun c j h => ((fr c j (by omega) (by omega) (by omega) (by omega)).trans rfl))) | (clear hQ; grind [xu])), (by first | exact hc | (clear hQ; grind [xu])), (by omega), ?_⟩
        intro v20o p20hv p20bhv2
        refine And.intro ⟨(by omega), (zRb rfl)⟩ ⟨fun h28 => ?_, fun h28 => ?_⟩
        · refine And.intro (zDX hD 0 rfl) (Exists.intro _ (And.intro (zinl_ok (zT20_9 2)) (And.intro rfl ?_)))
          refine And.intro (zDX hD 0 rfl) (zrd (v := f) hfv ?_)
          refine And.intro ⟨(by omega), (zRb rfl)⟩ ⟨(fun h5_49 => False.elim (by omega)), fun h5_49 => ?_⟩
          refine And.intro (zDX hD 0 rfl) ⟨_, (zWi (by omega)), ?_⟩
          refine hQ _ _ ?_ ?_ (by omega) (fun c j h0 h1 h2 h3 => (zxcj h0 ((fr c j h0 h1 (by omega) (by omega)).trans rfl)))
          · rcases hst with ⟨z0, z⟩ | ⟨z0, z⟩
            · rw [tuX_l z0]
              first
              | exact hfv.trans z
              | (exfalso; omega)
            · first
              | (have hf : f ≠ -1 := by omega
                 exact hfv.trans (tuV_x z (by omega) hf).symm)
              | (have hf : f = -1 := by omega
                 subst hf
                 first
                 | (have hi0 : i.toNat = 0 := by omega
                    rw [hi0] at z
                    exact hfv.trans (tuV_e z (by omega)).1.symm)
                 | (have z2 := tuV_f1 (i' := 0) (m' := 0) (p' := 0) (f := (q : Int)) z rfl (by omega) (by omega) rfl
                    exact zxe.trans (tuV_x z2 (by omega) (by omega)).symm))
          · intro h9
            rcases hst with ⟨z0, z⟩ | ⟨z0, z⟩
            · exfalso
              rw [tuX_l z0] at h9
              omega
            · first
              | (exfalso
                 have hf : f ≠ -1 := by omega
                 rw [tuV_x z (by omega) hf] at h9
                 exact hf h9)
              | (have hf : f = -1 := by omega
                 subst hf
                 first
                 | (have hi0 : i.toNat = 0 := by omega
                    rw [hi0] at z
                    have e := (tuV_e z (by omega)).2
                    have e3 : tuE c n lim ar q0 = q := by omega
                    rw [e3]
                    exact ⟨rfl, hkv rfl⟩)
                 | (exfalso
                    have z2 := tuV_f1 (i' := 0) (m' := 0) (p' := 0) (f := (q : Int)) z rfl (by omega) (by omega) rfl
                    rw [tuV_x z2 (by omega) (by omega)] at h9
                    omega))
        · refine And.intro ⟨(by omega), (zRb rfl)⟩ ⟨fun h35 => ?_, fun h35 => ?_⟩
          · refine And.intro ⟨(by omega), (zRb rfl)⟩ ⟨fun h60 => ?_, (fun h60 => False.elim (by omega))⟩
            refine And.intro ⟨(by omega), (zRb rfl)⟩ ⟨fun h71 => ?_, fun h71 => ?_⟩
            · refine And.intro (zDX hD 0 rfl) ⟨_, sn_V_kep.up (by decide), ?_⟩
              refine ⟨k, c, n, mk, fd, (q : Int), q, ((q + 1) : Int), (q + 1), (kf + (q - op)), lim, (q - op), rfl, hD, (by first | exact (zRM_fr hX (fun c j h => ((fr c j (by omega) (by omega) (by omega) (by omega)).trans rfl))) | (clear hQ; grind [xu])), (by first | exact hc | (clear hQ; grind [xu])), ((fr k 15 (by omega) (by omega) (by omega) (by omega)).trans hmk), (by omega), ((fr k 17 (by omega) (by omega) (by omega) (by omega)).trans hfd), (by omega), (by omega), (by omega), ((hkv (by omega)).1.trans (by omega)), (by omega), (by omega), (fun e => ((hkv (by omega)).2 e).1), (by omega), (Eq.trans (b := (f : Int)) hfv (by omega)), ?_⟩
              intro I88o p88hg p88bfr
              rcases p88hg with w88 | w88
              · refine And.intro ⟨(by omega), (zRb rfl)⟩ ⟨fun h95 => ?_, fun h95 => ?_⟩
                · refine ⟨(((1 : Int) - (((-1) : Int) + 1)).toNat, (5000 - (q + 1)), 0), zlt6 (by omega), [some (zvr (k)), some (zvi (p)), some (zvi (a)), some (zvi ((i + 0))), some (zvi ((q + 1))), none], ⟨rfl, rfl, rfl, rfl, rfl, rfl⟩, (q + 1), (-1), (i + 0), rfl, rfl, rfl, rfl, rfl, rfl, (by omega), (by omega), (by omega), w88.2.1, (fun h9 => by first | (exfalso; omega) | exact ⟨by omega, by omega, by omega, by omega⟩), ?_, ?_, (fun c j h0 h1 h2 h3 => ((p88bfr c j h0 h1 (by omega) (by omega)).trans ((fr c j h0 h1 (by omega) (by omega)).trans rfl)))⟩
                  · have hf : f = -1 := by omega
                    subst hf
                    rcases hst with ⟨z0, z⟩ | ⟨z0, z⟩
                    · exfalso; omega
                    · refine Or.inr ⟨z0, ?_⟩
                      first
                      | exact tuV_o z rfl (by omega) (by omega) (by omega) (by omega) (by omega) (Or.inr ⟨by omega, rfl⟩) (by omega)
                      | exact tuV_f1 z rfl (by omega) (by omega) (by omega)
                      | (have e : ((v109o.toNat : Nat) : Int) = v109o := Int.toNat_of_nonneg (by omega)
                         rw [e, Int.add_zero]
                         exact p109bhw)
                  · intro h9
                    first
                    | (exfalso; omega)
                    | exact zVK_k (hkv (by omega)) ⟨by omega, by omega⟩ w88.2.2.1 w88.2.2.2 (fun j hj => p88bfr (k + 9) j (by omega) (by omega) (by omega) (by omega))
                    | exact p109bbhk2 h9
                · refine And.intro (zDX hD 0 rfl) (zrd (v := (-1)) w88.2.1 ?_)
                  refine And.intro ⟨(zRb rfl), (zRb rfl)⟩ (zbf rfl ?_)
                  refine And.intro (zDX hD 0 rfl) ⟨_, sn_V_pst.up (by decide), ?_⟩
                  refine ⟨_, _, _, mk, fd, lim, ar, q0, op, kf, i.toNat, (q : Int), q, rfl, hD, (by first | exact (zRM_fr hX (fun c j h => ((p88bfr c j (by omega) (by omega) (by omega) (by omega)).trans ((fr c j (by omega) (by omega) (by omega) (by omega)).trans rfl)))) | (clear hQ; grind [xu])), (by first | exact hc | (clear hQ; grind [xu])), ((p88bfr k 15 (by omega) (by omega) (by omega) (by omega)).trans ((fr k 15 (by omega) (by omega) (by omega) (by omega)).trans hmk)), (by omega), ((p88bfr k 17 (by omega) (by omega) (by omega) (by omega)).trans ((fr k 17 (by omega) (by omega) (by omega) (by omega)).trans hfd)), (by omega), (by omega), (by omega), (by omega), (by omega), (by omega), (zVK_k (hkv (by omega)) ⟨by omega, by omega⟩ w88.2.2.1 w88.2.2.2 (fun j hj => p88bfr (k + 9) j (by omega) (by omega) (by omega) (by omega))), (by omega), (by have hf : f = -1 := (by omega); subst hf; rcases hst with ⟨z0, z⟩ | ⟨z0, z⟩; (exfalso; omega); exact tuV_o z rfl (by omega) (by omega) (by omega) (by omega) (by omega) (Or.inl ⟨by omega, rfl⟩) (by omega)), (Eq.trans (b := ((-1) : Int)) w88.2.1 (by omega)), ?_⟩
                  intro v109o I109o fv109o p109hfv9 p109bhw p109bbhk2 p109bbbhb p109bbbbhvb p109bbbbbfr p109bbbbbbhfb9
                  refine ⟨(((1 : Int) - (fv109o + 1)).toNat, (5000 - v109o.toNat), 0), zlt6 (by omega), [some (zvr (k)), some (zvi (p)), some (zvi (a)), some (zvi ((i + 0))), some (zvi (v109o.toNat)), none], ⟨rfl, rfl, rfl, rfl, (congrArg (fun z => some (zvi z)) (by omega)), rfl⟩, v109o.toNat, fv109o, (i + 0), rfl, rfl, rfl, rfl, rfl, rfl, (by omega), (by omega), (by omega), p109hfv9, (fun h9 => by first | (exfalso; omega) | exact ⟨by omega, by omega, by omega, by omega⟩), ?_, ?_, (fun c j h0 h1 h2 h3 => ((p109bbbbbfr c j h0 h1 (by omega) (by omega)).trans ((p88bfr c j h0 h1 (by omega) (by omega)).trans ((fr c j h0 h1 (by omega) (by omega)).trans rfl))))⟩
                  · have hf : f = -1 := by omega
                    subst hf
                    rcases hst with ⟨z0, z⟩ | ⟨z0, z⟩
                    · exfalso; omega
                    · refine Or.inr ⟨z0, ?_⟩
                      first
                      | exact tuV_o z rfl (by omega) (by omega) (by omega) (by omega) (by omega) (Or.inr ⟨by omega, rfl⟩) (by omega)
                      | exact tuV_f1 z rfl (by omega) (by omega) (by omega)
                      | (have e : ((v109o.toNat : Nat) : Int) = v109o := Int.toNat_of_nonneg (by omega)
                         rw [e, Int.add_zero]
                         exact p109bhw)
                  · intro h9
                    first
                    | (exfalso; omega)
                    | exact zVK_k (hkv (by omega)) ⟨by omega, by omega⟩ w88.2.2.1 w88.2.2.2 (fun j hj => p88bfr (k + 9) j (by omega) (by omega) (by omega) (by omega))
                    | exact p109bbhk2 h9
              · refine And.intro ⟨(by omega), (zRb rfl)⟩ ⟨fun h95 => ?_, fun h95 => ?_⟩
                · refine ⟨(((1 : Int) - (lim + 1)).toNat, (5000 - (q + 1)), 0), zlt6 (by omega), [some (zvr (k)), some (zvi (p)), some (zvi (a)), some (zvi ((i + 0))), some (zvi ((q + 1))), none], ⟨rfl, rfl, rfl, rfl, rfl, rfl⟩, (q + 1), lim, (i + 0), rfl, rfl, rfl, rfl, rfl, rfl, (by omega), (by omega), (by omega), w88.2, (fun h9 => by first | (exfalso; omega) | exact ⟨by omega, by omega, by omega, by omega⟩), ?_, ?_, (fun c j h0 h1 h2 h3 => ((p88bfr c j h0 h1 (by omega) (by omega)).trans ((fr c j h0 h1 (by omega) (by omega)).trans rfl)))⟩
                  · have hf : f = -1 := by omega
                    subst hf
                    rcases hst with ⟨z0, z⟩ | ⟨z0, z⟩
                    · exfalso; omega
                    · refine Or.inr ⟨z0, ?_⟩
                      first
                      | exact tuV_o z rfl (by omega) (by omega) (by omega) (by omega) (by omega) (Or.inr ⟨by omega, rfl⟩) (by omega)
                      | exact tuV_f1 z rfl (by omega) (by omega) (by omega)
                      | (have e : ((v109o.toNat : Nat) : Int) = v109o := Int.toNat_of_nonneg (by omega)
                         rw [e, Int.add_zero]
                         exact p109bhw)
                  · intro h9
                    first
                    | (exfalso; omega)
                    | exact zVK_k (hkv (by omega)) ⟨by omega, by omega⟩ w88.2.2.1 w88.2.2.2 (fun j hj => p88bfr (k + 9) j (by omega) (by omega) (by omega) (by omega))
                    | exact p109bbhk2 h9
                · refine And.intro (zDX hD 0 rfl) (zrd (v := lim) w88.2 ?_)
                  refine And.intro ⟨(by omega), (zRb rfl)⟩ ⟨fun h103 => ?_, (fun h103 => False.elim (by omega))⟩
                  refine ⟨(((1 : Int) - (lim + 1)).toNat, (5000 - (q + 1)), 0), zlt6 (by omega), [some (zvr (k)), some (zvi (p)), some (zvi (a)), some (zvi ((i + 0))), some (zvi ((q + 1))), none], ⟨rfl, rfl, rfl, rfl, rfl, rfl⟩, (q + 1), lim, (i + 0), rfl, rfl, rfl, rfl, rfl, rfl, (by omega), (by omega), (by omega), w88.2, (fun h9 => by first | (exfalso; omega) | exact ⟨by omega, by omega, by omega, by omega⟩), ?_, ?_, (fun c j h0 h1 h2 h3 => ((p88bfr c j h0 h1 (by omega) (by omega)).trans ((fr c j h0 h1 (by omega) (by omega)).trans rfl)))⟩
                  · have hf : f = -1 := by omega
                    subst hf
                    rcases hst with ⟨z0, z⟩ | ⟨z0, z⟩
                    · exfalso; omega
                    · refine Or.inr ⟨z0, ?_⟩
                      first
                      | exact tuV_o z rfl (by omega) (by omega) (by omega) (by omega) (by omega) (Or.inr ⟨by omega, rfl⟩) (by omega)
                      | exact tuV_f1 z rfl (by omega) (by omega) (by omega)
                      | (have e : ((v109o.toNat : Nat) : Int) = v109o := Int.toNat_of_nonneg (by omega)
                         rw [e, Int.add_zero]
                         exact p109bhw)
                  · intro h9
                    first
                    | (exfalso; omega)
                    | exact zVK_k (hkv (by omega)) ⟨by omega, by omega⟩ w88.2.2.1 w88.2.2.2 (fun j hj => p88bfr (k + 9) j (by omega) (by omega) (by omega) (by omega))
                    | exact p109bbhk2 h9
            · refine And.intro (zDX hD 0 rfl) ⟨_, sn_V_kep.up (by decide), ?_⟩
              refine ⟨k, c, n, mk, fd, (q : Int), q, ((q + 1) : Int), (q + 1), (kf + (q - op)), lim, (q - op), rfl, hD, (by first | exact (zRM_fr hX (fun c j h => ((fr c j (by omega) (by omega) (by omega) (by omega)).trans rfl))) | (clear hQ; grind [xu])), (by first | exact hc | (clear hQ; grind [xu])), ((fr k 15 (by omega) (by omega) (by omega) (by omega)).trans hmk), (by omega), ((fr k 17 (by omega) (by omega) (by omega) (by omega)).trans hfd), (by omega), (by omega), (by omega), ((hkv (by omega)).1.trans (by omega)), (by omega), (by omega), (fun e => ((hkv (by omega)).2 e).1), (by omega), (Eq.trans (b := (f : Int)) hfv (by omega)), ?_⟩
              intro I88o p88hg p88bfr
              rcases p88hg with w88 | w88
              · refine And.intro ⟨(by omega), (zRb rfl)⟩ ⟨fun h95 => ?_, (fun h95 => False.elim (by omega))⟩
                refine ⟨(((1 : Int) - (((-1) : Int) + 1)).toNat, (5000 - (q + 1)), 0), zlt6 (by omega), [some (zvr (k)), some (zvi (p)), some (zvi (a)), some (zvi ((i + (-1)))), some (zvi ((q + 1))), none], ⟨rfl, rfl, rfl, rfl, rfl, rfl⟩, (q + 1), (-1), (i + (-1)), rfl, rfl, rfl, rfl, rfl, rfl, (by omega), (by omega), (by omega), w88.2.1, (fun h9 => by first | (exfalso; omega) | exact ⟨by omega, by omega, by omega, by omega⟩), ?_, ?_, (fun c j h0 h1 h2 h3 => ((p88bfr c j h0 h1 (by omega) (by omega)).trans ((fr c j h0 h1 (by omega) (by omega)).trans rfl)))⟩
                · have hf : f = -1 := by omega
                  subst hf
                  rcases hst with ⟨z0, z⟩ | ⟨z0, z⟩
                  · exfalso; omega
                  · refine Or.inr ⟨z0, ?_⟩
                    first
                    | exact tuV_o z rfl (by omega) (by omega) (by omega) (by omega) (by omega) (Or.inr ⟨by omega, rfl⟩) (by omega)
                    | exact tuV_f1 z rfl (by omega) (by omega) (by omega)
                    | (have e : ((v109o.toNat : Nat) : Int) = v109o := Int.toNat_of_nonneg (by omega)
                       rw [e, Int.add_zero]
                       exact p109bhw)
                · intro h9
                  first
                  | (exfalso; omega)
                  | exact zVK_k (hkv (by omega)) ⟨by omega, by omega⟩ w88.2.2.1 w88.2.2.2 (fun j hj => p88bfr (k + 9) j (by omega) (by omega) (by omega) (by omega))
                  | exact p109bbhk2 h9
              · refine And.intro ⟨(by omega), (zRb rfl)⟩ ⟨fun h95 => ?_, (fun h95 => False.elim (by omega))⟩
                refine ⟨(((1 : Int) - (lim + 1)).toNat, (5000 - (q + 1)), 0), zlt6 (by omega), [some (zvr (k)), some (zvi (p)), some (zvi (a)), some (zvi ((i + (-1)))), some (zvi ((q + 1))), none], ⟨rfl, rfl, rfl, rfl, rfl, rfl⟩, (q + 1), lim, (i + (-1)), rfl, rfl, rfl, rfl, rfl, rfl, (by omega), (by omega), (by omega), w88.2, (fun h9 => by first | (exfalso; omega) | exact ⟨by omega, by omega, by omega, by omega⟩), ?_, ?_, (fun c j h0 h1 h2 h3 => ((p88bfr c j h0 h1 (by omega) (by omega)).trans ((fr c j h0 h1 (by omega) (by omega)).trans rfl)))⟩
                · have hf : f = -1 := by omega
                  subst hf
                  rcases hst with ⟨z0, z⟩ | ⟨z0, z⟩
                  · exfalso; omega
                  · refine Or.inr ⟨z0, ?_⟩
                    first
                    | exact tuV_o z rfl (by omega) (by omega) (by omega) (by omega) (by omega) (Or.inr ⟨by omega, rfl⟩) (by omega)
                    | exact tuV_f1 z rfl (by omega) (by omega) (by omega)
                    | (have e : ((v109o.toNat : Nat) : Int) = v109o := Int.toNat_of_nonneg (by omega)
                       rw [e, Int.add_zero]
                       exact p109bhw)
                · intro h9
                  first
                  | (exfalso; omega)
                  | exact zVK_k (hkv (by omega)) ⟨by omega, by omega⟩ w88.2.2.1 w88.2.2.2 (fun j hj => p88bfr (k + 9) j (by omega) (by omega) (by omega) (by omega))
                  | exact p109bbhk2 h9
          · refine And.intro ⟨(by omega), (zRb rfl)⟩ ⟨fun h43 => ?_, fun h43 => ?_⟩
            · refine And.intro ⟨(by omega), (zRb rfl)⟩ ⟨(fun h60 => False.elim (by omega)), fun h60 => ?_⟩
              refine And.intro (zDX hD 0 rfl) ⟨_, sn_V_kep.up (by decide), ?_⟩
              refine ⟨k, c, n, mk, fd, (q : Int), q, ((q + 1) : Int), (q + 1), (kf + (q - op)), lim, (q - op), rfl, hD, (by first | exact (zRM_fr hX (fun c j h => ((fr c j (by omega) (by omega) (by omega) (by omega)).trans rfl))) | (clear hQ; grind [xu])), (by first | exact hc | (clear hQ; grind [xu])), ((fr k 15 (by omega) (by omega) (by omega) (by omega)).trans hmk), (by omega), ((fr k 17 (by omega) (by omega) (by omega) (by omega)).trans hfd), (by omega), (by omega), (by omega), ((hkv (by omega)).1.trans (by omega)), (by omega), (by omega), (fun e => ((hkv (by omega)).2 e).1), (by omega), (Eq.trans (b := (f : Int)) hfv (by omega)), ?_⟩
              intro I88o p88hg p88bfr
              rcases p88hg with w88 | w88
              · refine And.intro ⟨(by omega), (zRb rfl)⟩ ⟨fun h95 => ?_, (fun h95 => False.elim (by omega))⟩
                refine ⟨(((1 : Int) - (((-1) : Int) + 1)).toNat, (5000 - (q + 1)), 0), zlt6 (by omega), [some (zvr (k)), some (zvi (p)), some (zvi (a)), some (zvi ((i + 1))), some (zvi ((q + 1))), none], ⟨rfl, rfl, rfl, rfl, rfl, rfl⟩, (q + 1), (-1), (i + 1), rfl, rfl, rfl, rfl, rfl, rfl, (by omega), (by omega), (by omega), w88.2.1, (fun h9 => by first | (exfalso; omega) | exact ⟨by omega, by omega, by omega, by omega⟩), ?_, ?_, (fun c j h0 h1 h2 h3 => ((p88bfr c j h0 h1 (by omega) (by omega)).trans ((fr c j h0 h1 (by omega) (by omega)).trans rfl)))⟩
                · have hf : f = -1 := by omega
                  subst hf
                  rcases hst with ⟨z0, z⟩ | ⟨z0, z⟩
                  · exfalso; omega
                  · refine Or.inr ⟨z0, ?_⟩
                    first
                    | exact tuV_o z rfl (by omega) (by omega) (by omega) (by omega) (by omega) (Or.inr ⟨by omega, rfl⟩) (by omega)
                    | exact tuV_f1 z rfl (by omega) (by omega) (by omega)
                    | (have e : ((v109o.toNat : Nat) : Int) = v109o := Int.toNat_of_nonneg (by omega)
                       rw [e, Int.add_zero]
                       exact p109bhw)
                · intro h9
                  first
                  | (exfalso; omega)
                  | exact zVK_k (hkv (by omega)) ⟨by omega, by omega⟩ w88.2.2.1 w88.2.2.2 (fun j hj => p88bfr (k + 9) j (by omega) (by omega) (by omega) (by omega))
                  | exact p109bbhk2 h9
              · refine And.intro ⟨(by omega), (zRb rfl)⟩ ⟨fun h95 => ?_, (fun h95 => False.elim (by omega))⟩
                refine ⟨(((1 : Int) - (lim + 1)).toNat, (5000 - (q + 1)), 0), zlt6 (by omega), [some (zvr (k)), some (zvi (p)), some (zvi (a)), some (zvi ((i + 1))), some (zvi ((q + 1))), none], ⟨rfl, rfl, rfl, rfl, rfl, rfl⟩, (q + 1), lim, (i + 1), rfl, rfl, rfl, rfl, rfl, rfl, (by omega), (by omega), (by omega), w88.2, (fun h9 => by first | (exfalso; omega) | exact ⟨by omega, by omega, by omega, by omega⟩), ?_, ?_, (fun c j h0 h1 h2 h3 => ((p88bfr c j h0 h1 (by omega) (by omega)).trans ((fr c j h0 h1 (by omega) (by omega)).trans rfl)))⟩
                · have hf : f = -1 := by omega
                  subst hf
                  rcases hst with ⟨z0, z⟩ | ⟨z0, z⟩
                  · exfalso; omega
                  · refine Or.inr ⟨z0, ?_⟩
                    first
                    | exact tuV_o z rfl (by omega) (by omega) (by omega) (by omega) (by omega) (Or.inr ⟨by omega, rfl⟩) (by omega)
                    | exact tuV_f1 z rfl (by omega) (by omega) (by omega)
                    | (have e : ((v109o.toNat : Nat) : Int) = v109o := Int.toNat_of_nonneg (by omega)
                       rw [e, Int.add_zero]
                       exact p109bhw)
                · intro h9
                  first
                  | (exfalso; omega)
                  | exact zVK_k (hkv (by omega)) ⟨by omega, by omega⟩ w88.2.2.1 w88.2.2.2 (fun j hj => p88bfr (k + 9) j (by omega) (by omega) (by omega) (by omega))
                  | exact p109bbhk2 h9
            · refine And.intro (zDX hD 0 rfl) (Exists.intro _ (And.intro (zinl_ok (zT20_9 2)) (And.intro rfl ?_)))
              refine And.intro (zDX hD 0 rfl) (zrd (v := f) hfv ?_)
              refine And.intro ⟨(by omega), (zRb rfl)⟩ ⟨(fun h5_49 => False.elim (by omega)), fun h5_49 => ?_⟩
              refine And.intro (zDX hD 0 rfl) ⟨_, (zWi (by omega)), ?_⟩
              refine hQ _ _ ?_ ?_ (by omega) (fun c j h0 h1 h2 h3 => (zxcj h0 ((fr c j h0 h1 (by omega) (by omega)).trans rfl)))
              · rcases hst with ⟨z0, z⟩ | ⟨z0, z⟩
                · rw [tuX_l z0]
                  first
                  | exact hfv.trans z
                  | (exfalso; omega)
                · first
                  | (have hf : f ≠ -1 := by omega
                     exact hfv.trans (tuV_x z (by omega) hf).symm)
                  | (have hf : f = -1 := by omega
                     subst hf
                     first
                     | (have hi0 : i.toNat = 0 := by omega
                        rw [hi0] at z
                        exact hfv.trans (tuV_e z (by omega)).1.symm)
                     | (have z2 := tuV_f1 (i' := 0) (m' := 0) (p' := 0) (f := (q : Int)) z rfl (by omega) (by omega) rfl
                        exact zxe.trans (tuV_x z2 (by omega) (by omega)).symm))
              · intro h9
                rcases hst with ⟨z0, z⟩ | ⟨z0, z⟩
                · exfalso
                  rw [tuX_l z0] at h9
                  omega
                · first
                  | (exfalso
                     have hf : f ≠ -1 := by omega
                     rw [tuV_x z (by omega) hf] at h9
                     exact hf h9)
                  | (have hf : f = -1 := by omega
                     subst hf
                     first
                     | (have hi0 : i.toNat = 0 := by omega
                        rw [hi0] at z
                        have e := (tuV_e z (by omega)).2
                        have e3 : tuE c n lim ar q0 = q := by omega
                        rw [e3]
                        exact ⟨rfl, hkv rfl⟩)
                     | (exfalso
                        have z2 := tuV_f1 (i' := 0) (m' := 0) (p' := 0) (f := (q : Int)) z rfl (by omega) (by omega) rfl
                        rw [tuV_x z2 (by omega) (by omega)] at h9
                        omega)))
