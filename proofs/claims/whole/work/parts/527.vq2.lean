/-! vq2 -/
def T_V_len : ZT := fun args I L R S Q => ∃ (k : Nat) (c : Nat → Int) (n : Nat) (p : Int) (p_ : Nat), args = [zvr k, zvi p] ∧ (zDy zT20 zF20 k R S) ∧ (zRM k c n I) ∧ (tOk c n) ∧ (p = p_ ∧ p_ ≤ n + 1) ∧ ∀ (v : Int), (v = tSk tNl c n p_) → (p_ ≤ v ∧ v ≤ n + 1) → Q (some (zvi (v))) I L R S
theorem sn_V_len : ZSnd 1 20 23 T_V_len := ZSnd.loops (zT20_23 0) (by
  rintro args I L R S Q hz ⟨k, c, n, p, p_, rfl, hD, hX, hc, hp, hQ⟩
  obtain ⟨x1, x2⟩ := id hX
  have hn4 := hc.1
  have hk40 := hD.1
  refine ⟨[2], fun nM tM lsM stM I1 L1 R1 S1 => match tM with
      | 2 => ∃ (q : Nat), nM = ((5001 - q), 0, 0) ∧ lsM = [some (zvr (k)), none, some (zvi (q))] ∧ stM = [] ∧ I1 = I ∧ L1 = L ∧ R1 = R ∧ S1 = S ∧ (p_ ≤ q ∧ (q ≤ n ∨ q = p_)) ∧ (q ≤ n + 1) ∧ (∀ i, p_ ≤ i → i < q → tNl (c i))
      | _ => False, rfl, ?_, ⟨?_, True.intro⟩⟩
  · refine ⟨((5001 - p_), 0, 0), [some (zvr (k)), none, some (zvi (p_))], ⟨rfl, (congrArg (fun z => some (zvi z)) (by omega)), rfl⟩, p_, rfl, rfl, rfl, rfl, rfl, rfl, rfl, (by clear hQ; grind [xu]), (by omega), (fun i h1 h2 => by omega)⟩
  · rintro nM lsM stM I1 L1 R1 S1 hz1 ⟨q, rfl, rfl, rfl, rfl, rfl, rfl, rfl, hq, hq5, hb⟩
    have cq := tOk_b (p := q) hc
    refine And.intro (zDX hD 0 rfl) (zrd (v := n) x1 ?_)
    refine And.intro ⟨(by omega), (by omega)⟩ ⟨fun h7 => ?_, fun h7 => ?_⟩
    · refine hQ _ (congrArg Nat.cast (tSk_at hq.1 (by omega) hb (by first | (unfold tNl; omega) | (rw [hc.2.2 q (by omega)]; exact tNl_no))).symm) (by omega)
    · refine And.intro (zDX hD 0 rfl) (zrdR (v := some (k + 1)) (zDR hD 0 rfl) ?_)
      refine And.intro (zDP hD 1 rfl rfl (by omega) (by omega)) (fun v15 e15 r15 => ?_)
      have f15 : v15 = c q := (e15.trans ((congrArg (I1 (k + 1)) (by omega)).trans (x2 q (by omega))))
      refine And.intro ⟨r15, (zRb rfl)⟩ ⟨fun h18 => ?_, fun h18 => ?_⟩
      · refine hQ _ (congrArg Nat.cast (tSk_at hq.1 (by omega) hb (by first | (unfold tNl; omega) | (rw [hc.2.2 q (by omega)]; exact tNl_no))).symm) (by omega)
      · refine ⟨((5001 - (q + 1)), 0, 0), zlt6 (by omega), [some (zvr (k)), none, some (zvi ((q + 1)))], ⟨rfl, rfl, rfl⟩, (q + 1), rfl, rfl, rfl, rfl, rfl, rfl, rfl, (by first | exact hq | (clear hQ; grind [xu])), (by omega), ?_⟩
        · intro i h1 h2
          by_cases e : i = q
          · rw [e]; unfold tNl; omega
          · exact hb i h1 (by omega))
def T_V_dot : ZT := fun args I L R S Q => ∃ (k : Nat) (c : Nat → Int) (n : Nat) (p : Int) (p_ : Nat), args = [zvr k, zvi p] ∧ (zDy zT20 zF20 k R S) ∧ (zRM k c n I) ∧ (tOk c n) ∧ (p = p_ ∧ p_ ≤ n + 1) ∧ ∀ (v : Int), (v = (tSk tDo c n p_ - p_ : Nat)) → (0 ≤ v ∧ v ≤ n) → Q (some (zvi (v))) I L R S
theorem sn_V_dot : ZSnd 2 20 8 T_V_dot := ZSnd.loops (zT20_8 1) (by
  rintro args I L R S Q hz ⟨k, c, n, p, p_, rfl, hD, hX, hc, hp, hQ⟩
  obtain ⟨x1, x2⟩ := id hX
  have hn4 := hc.1
  have hk40 := hD.1
  refine ⟨[2], fun nM tM lsM stM I1 L1 R1 S1 => match tM with
      | 2 => ∃ (q : Nat), nM = ((5001 - q), 0, 0) ∧ lsM = [some (zvr (k)), some (zvi (p)), some (zvi (q))] ∧ stM = [] ∧ I1 = I ∧ L1 = L ∧ R1 = R ∧ S1 = S ∧ (p_ ≤ q ∧ (q ≤ n ∨ q = p_)) ∧ (q ≤ n + 1) ∧ (∀ i, p_ ≤ i → i < q → tDo (c i))
      | _ => False, rfl, ?_, ⟨?_, True.intro⟩⟩
  · refine ⟨((5001 - p_), 0, 0), [some (zvr (k)), some (zvi (p)), some (zvi (p_))], ⟨rfl, rfl, (congrArg (fun z => some (zvi z)) (by omega)), rfl⟩, p_, rfl, rfl, rfl, rfl, rfl, rfl, rfl, (by clear hQ; grind [xu]), (by omega), (fun i h1 h2 => by omega)⟩
  · rintro nM lsM stM I1 L1 R1 S1 hz1 ⟨q, rfl, rfl, rfl, rfl, rfl, rfl, rfl, hq, hq5, hb⟩
    have cq := tOk_b (p := q) hc
    refine And.intro (zDX hD 0 rfl) ⟨_, sn_V_c.up (by decide), ?_⟩
    refine ⟨_, _, _, (q : Int), q, rfl, hD, (by first | exact (zRM_fr hX (fun c j h => rfl)) | (clear hQ; grind [xu])), (by first | exact hc | (clear hQ; grind [xu])), (by omega), ?_⟩
    intro v4o p4hv p4bhv2
    refine And.intro ⟨(by omega), (zRb rfl)⟩ ⟨fun h9 => ?_, fun h9 => ?_⟩
    · refine hQ _ (by have w := tSk_at (P := tDo) (n := n) hq.1 (by omega) hb (by unfold tDo; omega); rw [w]; omega) (by omega)
    · refine ⟨((5001 - (q + 1)), 0, 0), zlt6 (by omega), [some (zvr (k)), some (zvi (p)), some (zvi ((q + 1)))], ⟨rfl, rfl, rfl, rfl⟩, (q + 1), rfl, rfl, rfl, rfl, rfl, rfl, rfl, (by first | exact hq | (clear hQ; grind [xu])), (by omega), ?_⟩
      · intro i h1 h2
        by_cases e : i = q
        · rw [e]; unfold tDo; omega
        · exact hb i h1 (by omega))
def T_V_unk : ZT := fun args I L R S Q => ∃ (k : Nat) (c : Nat → Int) (n : Nat) (mk : Int) (fd : Nat) (lim : Nat) (q0 : Nat) (kf : Nat) (p : Int) (p_ : Nat) (d : Int) (d_ : Nat), args = [zvr k, zvi p, zvi d] ∧ (zDy zT20 zF20 k R S) ∧ (zRM k c n I) ∧ (tOk c n) ∧ (I k 15 = mk) ∧ (0 ≤ mk ∧ mk ≤ 1) ∧ (I k 17 = fd) ∧ (fd ≤ 199) ∧ (p = p_ ∧ p_ ≤ q0) ∧ (q0 ≤ n) ∧ (d = d_ ∧ d_ ≤ 300) ∧ (∀ t, p_ ≤ t → t < q0 → tSm (c t)) ∧ (lim + kf = p_ + 2000) ∧ (I k 22 = kf) ∧ (kf ≤ 2000) ∧ (mk = 1 → I (k + 8) fd = 0) ∧ (I k 18 = -1) ∧ ∀ (v : Int) (I' : ZI), (I' k 18 = tlX c n lim d_ q0) → (tlX c n lim d_ q0 = -1 → v = (tlE c n lim d_ q0) + 1 ∧ zVK k c p_ kf (tlE c n lim d_ q0) mk fd I' ∧ (mk = 1 → I' (k + 7) fd = kf)) → (I' k 17 = fd + 1) → (0 ≤ v ∧ v ≤ 4200) → (∀ c j : Nat, ¬ (c = k ∧ j = 17) → ¬ (c = k ∧ j = 18) → ¬ (c = k ∧ j = 22) → ¬ (c = k + 7 ∧ (mk = 1 ∧ j = fd)) → ¬ (c = k + 8 ∧ (mk = 1 ∧ j = fd)) → ¬ (c = k + 9 ∧ (mk = 1 ∧ kf ≤ j)) → I' c j = I c j) → Q (some (zvi (v))) I' L R S
theorem sn_V_unk : ZSnd 3 20 38 T_V_unk := ZSnd.loops (zT20_38 2) (by
  rintro args I L R S Q hz ⟨k, c, n, mk, fd, lim, q0, kf, p, p_, d, d_, rfl, hD, hX, hc, hmk, hmk2, hfd, hfd2, hp, hq0, hd, hsm, hlm, hkf, hkf2, hsz, hf0, hQ⟩
  obtain ⟨x1, x2⟩ := id hX
  have hn4 := hc.1
  have hk40 := hD.1
  have e0 := tlQ_0 (lim := lim) (d := d_) hc ⟨hp.2, hq0⟩ hsm
  refine ⟨[32], fun nM tM lsM stM I1 L1 R1 S1 => match tM with
      | 32 => ∃ (q : Nat) (f : Int), nM = (((1 : Int) - (f + 1)).toNat, (5000 - q), 0) ∧ lsM = [some (zvr (k)), some (zvi (p)), some (zvi (d)), some (zvi (q)), none] ∧ stM = [] ∧ L1 = L ∧ R1 = R ∧ S1 = S ∧ (q ≤ n) ∧ (-1 ≤ f ∧ f ≤ 9000) ∧ (I1 k 18 = f) ∧ ((f = -1 ∧ ¬ lim < q0 ∧ tlQ c n lim d_ q0 q ∧ zVK k c p_ kf q mk fd I1) ∨ (f ≠ -1 ∧ f = tlX c n lim d_ q0)) ∧ (f = -1 → p_ ≤ q ∧ q ≤ lim) ∧ (mk = 1 → I1 (k + 7) fd = kf) ∧ (∀ c j : Nat, ¬ (c = k ∧ j = 18) → ¬ (c = k ∧ j = 22) → ¬ (c = k + 7 ∧ (mk = 1 ∧ j = fd)) → ¬ (c = k + 8 ∧ (mk = 1 ∧ j = fd)) → ¬ (c = k + 9 ∧ (mk = 1 ∧ kf ≤ j)) → I1 c j = I c j)
      | _ => False, rfl, ?_, ⟨?_, True.intro⟩⟩
  · refine And.intro (zDX hD 0 rfl) (zrd (v := mk) hmk ?_)
    refine And.intro (by omega) ⟨fun h4 => ?_, fun h4 => ?_⟩
    · refine And.intro (zDX hD 0 rfl) ⟨_, sn_V_len.up (by decide), ?_⟩
      refine ⟨_, _, _, (p : Int), p_, rfl, hD, (by first | exact (zRM_fr hX (fun c j h => rfl)) | (clear hQ; grind [xu])), (by first | exact hc | (clear hQ; grind [xu])), (by omega), ?_⟩
      intro v22o p22hv p22bhv2
      refine And.intro (zDX hD 0 rfl) ⟨_, sn_V_kep.up (by decide), ?_⟩
      refine ⟨_, _, _, mk, fd, (p : Int), p_, (v22o : Int), (tSk tNl c n p_), kf, lim, 0, rfl, hD, (by first | exact (zRM_fr hX (fun c j h => rfl)) | (clear hQ; grind [xu])), (by first | exact hc | (clear hQ; grind [xu])), hmk, (by omega), hfd, (by omega), ⟨by omega, e0.2.2.1⟩, ⟨by omega, e0.2.2.2⟩, hkf, (by omega), (by omega), (fun e => by first | exact zxu (by omega) (hsz e) | exact hsz e), (by omega), (Eq.trans (b := ((-1) : Int)) hf0 (by omega)), ?_⟩
      intro I29o p29hg p29bfr
      refine ⟨(((1 : Int) - ((I29o k 18) + 1)).toNat, (5000 - (tSk tNl c n p_)), 0), [some (zvr (k)), some (zvi (p)), some (zvi (d)), some (zvi ((tSk tNl c n p_))), none], ⟨rfl, rfl, rfl, (congrArg (fun z => some (zvi z)) (by omega)), rfl⟩, (tSk tNl c n p_), (I29o k 18), rfl, rfl, rfl, rfl, rfl, rfl, e0.2.2.2, (by rcases p29hg with w | w <;> omega), rfl, ?_, (fun h9 => by rcases p29hg with w | w; exact ⟨e0.2.2.1, w.1⟩; (exfalso; omega)), ?_, (fun c j h0 h1 h2 h3 h4 => ((p29bfr c j h0 h1 (by omega) (by omega)).trans rfl))⟩
      · rcases p29hg with w | w
        · have z := e0.1 w.1
          have z1 := z.1
          exact Or.inl ⟨w.2.1, by omega, z, zVK_1 w.2.2.1 w.2.2.2⟩
        · exact Or.inr ⟨by omega, w.2.trans (e0.2.1 w.1).symm⟩
      · intro e
        first
        | (exfalso; omega)
        | exact (p29bfr (k + 7) _ (by omega) (by omega) (by omega) (by omega)).trans (zxe' (by omega))
    · refine And.intro (zDX hD 0 rfl) (zrdR (v := some (k + 7)) (zDR hD 6 rfl) ?_)
      refine And.intro (zDX hD 0 rfl) (zrd (v := fd) hfd ?_)
      refine And.intro (zDX hD 0 rfl) (zrd (v := kf) hkf ?_)
      refine And.intro ⟨(by show 40 ≤ _; omega), (zDP hD 7 rfl rfl (by omega) (by omega))⟩ ⟨_, (zWi (by omega)), ?_⟩
      refine And.intro (zDX hD 0 rfl) ⟨_, sn_V_len.up (by decide), ?_⟩
      refine ⟨_, _, _, (p : Int), p_, rfl, hD, (by first | exact (zRM_fr hX (fun c j h => (zxcj (by omega) rfl))) | (clear hQ; grind [xu])), (by first | exact hc | (clear hQ; grind [xu])), (by omega), ?_⟩
      intro v22o p22hv p22bhv2
      refine And.intro (zDX hD 0 rfl) ⟨_, sn_V_kep.up (by decide), ?_⟩
      refine ⟨_, _, _, mk, fd, (p : Int), p_, (v22o : Int), (tSk tNl c n p_), kf, lim, 0, rfl, hD, (by first | exact (zRM_fr hX (fun c j h => (zxcj (by omega) rfl))) | (clear hQ; grind [xu])), (by first | exact hc | (clear hQ; grind [xu])), (zxu (by omega) hmk), (by omega), (zxu (by omega) hfd), (by omega), ⟨by omega, e0.2.2.1⟩, ⟨by omega, e0.2.2.2⟩, (zxu (by omega) hkf), (by omega), (by omega), (fun e => by first | exact zxu (by omega) (hsz e) | exact hsz e), (by omega), (Eq.trans (b := ((-1) : Int)) (zxu (by omega) hf0) (by omega)), ?_⟩
      intro I29o p29hg p29bfr
      refine ⟨(((1 : Int) - ((I29o k 18) + 1)).toNat, (5000 - (tSk tNl c n p_)), 0), [some (zvr (k)), some (zvi (p)), some (zvi (d)), some (zvi ((tSk tNl c n p_))), none], ⟨rfl, rfl, rfl, (congrArg (fun z => some (zvi z)) (by omega)), rfl⟩, (tSk tNl c n p_), (I29o k 18), rfl, rfl, rfl, rfl, rfl, rfl, e0.2.2.2, (by rcases p29hg with w | w <;> omega), rfl, ?_, (fun h9 => by rcases p29hg with w | w; exact ⟨e0.2.2.1, w.1⟩; (exfalso; omega)), ?_, (fun c j h0 h1 h2 h3 h4 => ((p29bfr c j h0 h1 (by omega) (by omega)).trans (zxcj (by omega) rfl)))⟩
      · rcases p29hg with w | w
        · have z := e0.1 w.1
          have z1 := z.1
          exact Or.inl ⟨w.2.1, by omega, z, zVK_1 w.2.2.1 w.2.2.2⟩
        · exact Or.inr ⟨by omega, w.2.trans (e0.2.1 w.1).symm⟩
      · intro e
        first
        | (exfalso; omega)
        | exact (p29bfr (k + 7) _ (by omega) (by omega) (by omega) (by omega)).trans (zxe' (by omega))
  · rintro nM lsM stM I1 L1 R1 S1 hz1 ⟨q, f, rfl, rfl, rfl, rfl, rfl, rfl, hqb, hfb, hfv, hst, hql, hk7, fr⟩
    have es := fun (_ : Unit) (a : tlQ c n lim d_ q0 q) (b : ¬ lim < q0) (e : q < n) (g : tDd c (q + 1) d_) => tlQ_s hc a b e g
    have sn := tSk_b (P := tNl) (p := q + 1) hc tNl_no
    refine And.intro (zDX hD 0 rfl) (zrd (v := f) hfv ?_)
    refine And.intro ⟨(by omega), (zRb rfl)⟩ ⟨fun h37 => ?_, fun h37 => ?_⟩
    · refine And.intro (zDX hD 0 rfl) (zrd (v := n) ((fr k 3 (by omega) (by omega) (by omega) (by omega) (by omega)).trans x1) ?_)
      refine And.intro ⟨(by omega), (by omega)⟩ ⟨fun h86 => ?_, fun h86 => ?_⟩
      · refine And.intro (zDX hD 0 rfl) (zrd (v := fd) ((fr k 17 (by omega) (by omega) (by omega) (by omega) (by omega)).trans hfd) ?_)
        refine And.intro (zDX hD 0 rfl) ⟨_, (zWi (by omega)), ?_⟩
        refine hQ _ _ ?_ ?_ (Eq.trans (b := ((fd + 1) : Int)) zxe (by omega)) (by omega) (fun c j h0 h1 h2 h3 h4 h5 => (zxcj h0 ((fr c j h1 h2 (by omega) (by omega) (by omega)).trans rfl)))
        · rcases hst with z | z
          · first
            | (have g := tlQ_n hc z.2.2.1 z.2.1 (by omega)
               exact (zxs (by decide) zxe).trans g.symm)
            | (have g : ¬ tDd c (q + 1) d_ := fun y => by
                 have y2 := (tDd_d hc).mpr y
                 omega
               have e := tlQ_e z.2.2.1 z.2.1 (by omega) g
               exact (zxs (by decide) (hfv.trans z.1)).trans e.1.symm)
            | (exfalso; omega)
          · first
            | exact (zxs (by decide) hfv).trans z.2
            | (exfalso; omega)
        · intro h9
          rcases hst with z | z
          · first
            | (exfalso
               have g := tlQ_n hc z.2.2.1 z.2.1 (by omega)
               rw [g] at h9
               omega)
            | (have g : ¬ tDd c (q + 1) d_ := fun y => by
                 have y2 := (tDd_d hc).mpr y
                 omega
               have e := tlQ_e z.2.2.1 z.2.1 (by omega) g
               rw [e.2]
               exact ⟨by omega, zVK_fr z.2.2.2 (fun x j h => zxcj (by omega) rfl), fun e => zxu (by omega) (hk7 e)⟩)
            | (exfalso; omega)
          · exfalso
            exact z.1 (z.2.trans h9)
      · refine And.intro (zDX hD 0 rfl) (Exists.intro _ (And.intro (zinl_ok (zT20_9 1)) (And.intro rfl ?_)))
        refine And.intro (zDX hD 0 rfl) (zrd (v := f) hfv ?_)
        refine And.intro ⟨(by omega), (zRb rfl)⟩ ⟨fun h5_91 => ?_, (fun h5_91 => False.elim (by omega))⟩
        refine And.intro (zDX hD 0 rfl) (zrd (v := fd) ((fr k 17 (by omega) (by omega) (by omega) (by omega) (by omega)).trans hfd) ?_)
        refine And.intro (zDX hD 0 rfl) ⟨_, (zWi (by omega)), ?_⟩
        refine hQ _ _ ?_ ?_ (Eq.trans (b := ((fd + 1) : Int)) zxe (by omega)) (by omega) (fun c j h0 h1 h2 h3 h4 h5 => (zxcj h0 ((fr c j h1 h2 (by omega) (by omega) (by omega)).trans rfl)))
        · rcases hst with z | z
          · first
            | (have g := tlQ_n hc z.2.2.1 z.2.1 (by omega)
               exact (zxs (by decide) zxe).trans g.symm)
            | (have g : ¬ tDd c (q + 1) d_ := fun y => by
                 have y2 := (tDd_d hc).mpr y
                 omega
               have e := tlQ_e z.2.2.1 z.2.1 (by omega) g
               exact (zxs (by decide) (hfv.trans z.1)).trans e.1.symm)
            | (exfalso; omega)
          · first
            | exact (zxs (by decide) hfv).trans z.2
            | (exfalso; omega)
        · intro h9
          rcases hst with z | z
          · first
            | (exfalso
               have g := tlQ_n hc z.2.2.1 z.2.1 (by omega)
               rw [g] at h9
               omega)
            | (have g : ¬ tDd c (q + 1) d_ := fun y => by
                 have y2 := (tDd_d hc).mpr y
                 omega
               have e := tlQ_e z.2.2.1 z.2.1 (by omega) g
               rw [e.2]
               exact ⟨by omega, zVK_fr z.2.2.2 (fun x j h => zxcj (by omega) rfl), fun e => zxu (by omega) (hk7 e)⟩)
            | (exfalso; omega)
          · exfalso
            exact z.1 (z.2.trans h9)
    · refine And.intro (zDX hD 0 rfl) (zrd (v := n) ((fr k 3 (by omega) (by omega) (by omega) (by omega) (by omega)).trans x1) ?_)
      refine And.intro ⟨(by omega), (by omega)⟩ ⟨fun h45 => ?_, fun h45 => ?_⟩
      · refine And.intro (zDX hD 0 rfl) (zrd (v := n) ((fr k 3 (by omega) (by omega) (by omega) (by omega) (by omega)).trans x1) ?_)
        refine And.intro ⟨(by omega), (by omega)⟩ ⟨(fun h86 => False.elim (by omega)), fun h86 => ?_⟩
        refine And.intro (zDX hD 0 rfl) (Exists.intro _ (And.intro (zinl_ok (zT20_9 1)) (And.intro rfl ?_)))
        refine And.intro (zDX hD 0 rfl) (zrd (v := f) hfv ?_)
        refine And.intro ⟨(by omega), (zRb rfl)⟩ ⟨(fun h5_91 => False.elim (by omega)), fun h5_91 => ?_⟩
        refine And.intro (zDX hD 0 rfl) ⟨_, (zWi (by omega)), ?_⟩
        refine And.intro (zDX hD 0 rfl) (zrd (v := fd) (zxs (by decide) ((fr k 17 (by omega) (by omega) (by omega) (by omega) (by omega)).trans hfd)) ?_)
        refine And.intro (zDX hD 0 rfl) ⟨_, (zWi (by omega)), ?_⟩
        refine hQ _ _ ?_ ?_ (Eq.trans (b := ((fd + 1) : Int)) zxe (by omega)) (by omega) (fun c j h0 h1 h2 h3 h4 h5 => (zxcj h0 (zxcj h1 ((fr c j h1 h2 (by omega) (by omega) (by omega)).trans rfl))))
        · rcases hst with z | z
          · first
            | (have g := tlQ_n hc z.2.2.1 z.2.1 (by omega)
               exact (zxs (by decide) zxe).trans g.symm)
            | (have g : ¬ tDd c (q + 1) d_ := fun y => by
                 have y2 := (tDd_d hc).mpr y
                 omega
               have e := tlQ_e z.2.2.1 z.2.1 (by omega) g
               exact (zxs (by decide) (hfv.trans z.1)).trans e.1.symm)
            | (exfalso; omega)
          · first
            | exact (zxs (by decide) hfv).trans z.2
            | (exfalso; omega)
        · intro h9
          rcases hst with z | z
          · first
            | (exfalso
               have g := tlQ_n hc z.2.2.1 z.2.1 (by omega)
               rw [g] at h9
               omega)
            | (have g : ¬ tDd c (q + 1) d_ := fun y => by
                 have y2 := (tDd_d hc).mpr y
                 omega
               have e := tlQ_e z.2.2.1 z.2.1 (by omega) g
               rw [e.2]
               exact ⟨by omega, zVK_fr z.2.2.2 (fun x j h => zxcj (by omega) rfl), fun e => zxu (by omega) (hk7 e)⟩)
            | (exfalso; omega)
          · exfalso
            exact z.1 (z.2.trans h9)
      · refine And.intro (zDX hD 0 rfl) ⟨_, sn_V_dot.up (by decide), ?_⟩
        refine ⟨_, _, _, ((q + 1) : Int), (q + 1), rfl, hD, (by first | exact (zRM_fr hX (fun c j h => ((fr c j (by omega) (by omega) (by omega) (by omega) (by omega)).trans rfl))) | (clear hQ; grind [xu])), (by first | exact hc | (clear hQ; grind [xu])), (by omega), ?_⟩
        intro v52o p52hv p52bhv2
        refine And.intro ⟨(by omega), (by omega)⟩ ⟨fun h56 => ?_, fun h56 => ?_⟩
        · refine And.intro (zDX hD 0 rfl) (zrd (v := n) ((fr k 3 (by omega) (by omega) (by omega) (by omega) (by omega)).trans x1) ?_)
          refine And.intro ⟨(by omega), (by omega)⟩ ⟨fun h86 => ?_, (fun h86 => False.elim (by omega))⟩
          refine And.intro (zDX hD 0 rfl) (zrd (v := fd) ((fr k 17 (by omega) (by omega) (by omega) (by omega) (by omega)).trans hfd) ?_)
          refine And.intro (zDX hD 0 rfl) ⟨_, (zWi (by omega)), ?_⟩
          refine hQ _ _ ?_ ?_ (Eq.trans (b := ((fd + 1) : Int)) zxe (by omega)) (by omega) (fun c j h0 h1 h2 h3 h4 h5 => (zxcj h0 ((fr c j h1 h2 (by omega) (by omega) (by omega)).trans rfl)))
          · rcases hst with z | z
            · first
              | (have g := tlQ_n hc z.2.2.1 z.2.1 (by omega)
                 exact (zxs (by decide) zxe).trans g.symm)
              | (have g : ¬ tDd c (q + 1) d_ := fun y => by
                   have y2 := (tDd_d hc).mpr y
                   omega
                 have e := tlQ_e z.2.2.1 z.2.1 (by omega) g
                 exact (zxs (by decide) (hfv.trans z.1)).trans e.1.symm)
              | (exfalso; omega)
            · first
              | exact (zxs (by decide) hfv).trans z.2
              | (exfalso; omega)
          · intro h9
            rcases hst with z | z
            · first
              | (exfalso
                 have g := tlQ_n hc z.2.2.1 z.2.1 (by omega)
                 rw [g] at h9
                 omega)
              | (have g : ¬ tDd c (q + 1) d_ := fun y => by
                   have y2 := (tDd_d hc).mpr y
                   omega
                 have e := tlQ_e z.2.2.1 z.2.1 (by omega) g
                 rw [e.2]
                 exact ⟨by omega, zVK_fr z.2.2.2 (fun x j h => zxcj (by omega) rfl), fun e => zxu (by omega) (hk7 e)⟩)
              | (exfalso; omega)
            · exfalso
              exact z.1 (z.2.trans h9)
        · refine And.intro (zDX hD 0 rfl) ⟨_, sn_V_len.up (by decide), ?_⟩
          refine ⟨_, _, _, ((q + 1) : Int), (q + 1), rfl, hD, (by first | exact (zRM_fr hX (fun c j h => ((fr c j (by omega) (by omega) (by omega) (by omega) (by omega)).trans rfl))) | (clear hQ; grind [xu])), (by first | exact hc | (clear hQ; grind [xu])), (by omega), ?_⟩
          intro v63o p63hv p63bhv2
          refine And.intro (zDX hD 0 rfl) ⟨_, sn_V_kep.up (by decide), ?_⟩
          refine ⟨_, _, _, mk, fd, (q : Int), q, (v63o : Int), (tSk tNl c n (q + 1)), (kf + (q - p_)), lim, (q - p_), rfl, hD, (by first | exact (zRM_fr hX (fun c j h => ((fr c j (by omega) (by omega) (by omega) (by omega) (by omega)).trans rfl))) | (clear hQ; grind [xu])), (by first | exact hc | (clear hQ; grind [xu])), ((fr k 15 (by omega) (by omega) (by omega) (by omega) (by omega)).trans hmk), (by omega), ((fr k 17 (by omega) (by omega) (by omega) (by omega) (by omega)).trans hfd), (by omega), ⟨by omega, by omega⟩, ⟨by omega, by omega⟩, (by rcases hst with z | z; exact z.2.2.2.1.trans (by omega); (exfalso; omega)), (by omega), (by omega), (fun e => by rcases hst with z | z; exact (z.2.2.2.2 e).1; (exfalso; omega)), (by omega), (Eq.trans (b := (f : Int)) hfv (by omega)), ?_⟩
          intro I72o p72hg p72bfr
          refine ⟨(((1 : Int) - ((I72o k 18) + 1)).toNat, (5000 - (tSk tNl c n (q + 1))), 0), zlt6 (by omega), [some (zvr (k)), some (zvi (p)), some (zvi (d)), some (zvi ((tSk tNl c n (q + 1)))), none], ⟨rfl, rfl, rfl, (congrArg (fun z => some (zvi z)) (by omega)), rfl⟩, (tSk tNl c n (q + 1)), (I72o k 18), rfl, rfl, rfl, rfl, rfl, rfl, (by omega), (by rcases p72hg with w | w <;> omega), rfl, ?_, (fun h9 => by rcases p72hg with w | w; exact ⟨by omega, w.1⟩; (exfalso; omega)), (fun e => (p72bfr (k + 7) _ (by omega) (by omega) (by omega) (by omega)).trans (hk7 e)), (fun c j h0 h1 h2 h3 h4 => ((p72bfr c j h0 h1 (by omega) (by omega)).trans ((fr c j h0 h1 (by omega) (by omega) (by omega)).trans rfl)))⟩
          · have hf : f = -1 := by omega
            rcases hst with z | z
            · have g : tDd c (q + 1) d_ := (tDd_d hc).mp (by omega)
              have y := es () z.2.2.1 z.2.1 (by omega) g
              rcases p72hg with w | w
              · exact Or.inl ⟨w.2.1, z.2.1, y.1 w.1, zVK_k z.2.2.2 ⟨by omega, by omega⟩ w.2.2.1 w.2.2.2 (fun j hj => p72bfr (k + 9) j (by omega) (by omega) (by omega) (by omega))⟩
              · exact Or.inr ⟨by omega, w.2.trans (y.2.1 w.1).symm⟩
            · exact absurd hf z.1)
