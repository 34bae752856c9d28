/-! kr -/
def T_K_nam : ZT := fun args I L R S Q => ∃ (c : Nat → Int) (n : Nat) (p : Nat) (k : Nat) (a9 : Nat) (y : Int) (b : Int) (cc : Nat) (dp : Int), args = [zvr 61, zvi y] ∧ (zSh S) ∧ (zRs R) ∧ (zSt I L) ∧ (R 61 0 = some 42) ∧ (zRD c n I) ∧ (tOk c n) ∧ (I 61 2 = p) ∧ (p ≤ n) ∧ (R 61 7 = some k) ∧ (zDy zT2 zF2 k R S) ∧ (43 ≤ k ∧ k ≤ 52) ∧ (I k 0 = a9) ∧ (a9 ≤ 200) ∧ (-1 ≤ y ∧ y < a9) ∧ ((y = -1 ∧ b = -1) ∨ (0 ≤ y ∧ I (k + 1) y.toNat = b ∧ 0 ≤ b ∧ b ≤ 9)) ∧ (I k 10 = cc) ∧ (cc ≤ 4000) ∧ (0 ≤ y → I (k + 3) y.toNat = dp) ∧ (0 ≤ dp ∧ dp ≤ 1000) ∧ (I 61 3 = -1) ∧ ∀ (v : Int) (I' : ZI) (L' : ZI) (pl : Int), ((tBg c n p b a9 ∧ v = a9 ∧ I' 61 3 = -1 ∧ I' 61 2 = (tSk tSm c n p) ∧ I' k 0 = a9 + 1 ∧ I' (k + 1) a9 = (tKd c p (tSk tSm c n p)) ∧ I' (k + 2) a9 = y ∧ ((y = -1 ∧ I' (k + 3) a9 = 0) ∨ (0 ≤ y ∧ I' (k + 3) a9 = dp + 1)) ∧ (∀ w, w < 2 → I' (k + 5) (2 * a9 + w) = cc ∧ I' (k + 6) (2 * a9 + w) = 0) ∧ ∀ w, w < 5 → L' (k + 4) (5 * a9 + w) = tN0 (tKd c p (tSk tSm c n p)).toNat w) ∨ (¬ tBg c n p b a9 ∧ v = -1 ∧ I' 61 3 = p)) → (-1 ≤ v ∧ v ≤ 199) → (∀ c j : Nat, ¬ (c = 61 ∧ j = 2) → ¬ (c = 61 ∧ j = 3) → ¬ (c = k ∧ j = 0) → ¬ (c = k + 1 ∧ j = a9) → ¬ (c = k + 2 ∧ j = a9) → ¬ (c = k + 3 ∧ j = a9) → ¬ (c = k + 5 ∧ 2 * a9 ≤ j ∧ j < 2 * a9 + 2) → ¬ (c = k + 6 ∧ 2 * a9 ≤ j ∧ j < 2 * a9 + 2) → I' c j = I c j) → (∀ c j : Nat, ¬ (c = k + 4 ∧ 5 * a9 ≤ j ∧ j < 5 * a9 + 5) → L' c j = L c j) → (I' 61 2 = pl) → (0 ≤ pl ∧ pl ≤ 4200) → Q (some (zvi (v))) I' L' R S
theorem sn_K_nam : ZSnd 4 9 20 T_K_nam := ZSnd.loops (zT9_20 3) (by
  rintro args I L R S Q hz ⟨c, n, p, k, a9, y, b, cc, dp, rfl, hS, hR, hT, htx, hX, hc, hp, hpn, hob, hD, hk, ho0, ha9, hy, hyb, hcc, hcc2, hdp, hdp2, hf0, hQ⟩
  obtain ⟨x1, x2⟩ := id hX
  have hn4 := hc.1
  have hk1 := hk.1
  have hk2 := hk.2
  refine ⟨[5], fun nM tM lsM stM I1 L1 R1 S1 => match tM with
      | 5 => ∃ (q : Nat), nM = ((4001 - q), 0, 0) ∧ lsM = [some (zvr (61)), some (zvi (y)), some (zvi (p)), none] ∧ stM = [] ∧ L1 = L ∧ R1 = R ∧ S1 = S ∧ (p ≤ q ∧ q ≤ n) ∧ (I1 61 2 = q) ∧ (∀ i, p ≤ i → i < q → tSm (c i)) ∧ (∀ c j : Nat, ¬ (c = 61 ∧ j = 2) → I1 c j = I c j)
      | _ => False, rfl, ?_, ⟨?_, True.intro⟩⟩
  · refine And.intro (zA_61 hS) (zrd (v := p) hp ?_)
    refine ⟨((4001 - p), 0, 0), [some (zvr (61)), some (zvi (y)), some (zvi (p)), none], ⟨rfl, rfl, rfl, rfl⟩, p, rfl, rfl, rfl, rfl, rfl, rfl, (by omega), hp, (fun i h1 h2 => by omega), (fun c j h0 => rfl)⟩
  · rintro nM lsM stM I1 L1 R1 S1 hz1 ⟨q, rfl, rfl, rfl, rfl, rfl, rfl, hq, hpl, hb, fr⟩
    have qe : ¬ tSm (c q) → (tSk tSm c n p) = q := fun h => tSk_at (n := n) hq.1 (by omega) hb h
    have qe2 : n ≤ q → ¬ tSm (c q) := fun h => by rw [hc.2.2 q h]; exact tSm_no
    refine And.intro (zA_61 hS) (zrd (v := q) hpl ?_)
    refine And.intro (zA_61 hS) (zrd (v := n) ((fr 61 1 (by omega)).trans x1) ?_)
    refine And.intro ⟨(by omega), (by omega)⟩ ⟨fun h13 => ?_, fun h13 => ?_⟩
    · refine And.intro (zA_61 hS) (zrd (v := q) hpl ?_)
      refine And.intro ⟨(by omega), (by omega)⟩ ⟨fun h62 => ?_, fun h62 => ?_⟩
      · refine And.intro (zA_61 hS) (zrd (v := q) hpl ?_)
        refine And.intro (zA_61 hS) ⟨_, sn_K_knd.up (by decide), ?_⟩
        refine ⟨c, n, (p : Int), p, (q : Int), q, rfl, hS, hR, htx, (by first | exact (zRD_fr hX (fun c j h => ((fr c j (by omega)).trans rfl))) | (clear hQ; grind [xu])), (by first | exact hc | (clear hQ; grind [xu])), (by omega), (by omega), ?_⟩
        intro v81o p81hv p81bhv2
        refine And.intro (zA_61 hS) ⟨_, sn_K_may.up (by decide), ?_⟩
        refine ⟨k, a9, (v81o : Int), (tKd c p q).toNat, (y : Int), b, rfl, hS, hR, (zStf hT (fun c j h1 h2 => ⟨((fr c j (by omega)).trans rfl), rfl⟩)), hob, hD, (by omega), ((fr k 0 (by omega)).trans ho0), (by omega), ⟨by have z := p81bhv2; rw [← p81hv]; omega, by have z := p81bhv2; rw [← p81hv]; omega⟩, (by omega), (by rcases hyb with z | z; exact Or.inl z; exact Or.inr ⟨z.1, (fr (k + 1) _ (by omega)).trans z.2.1, z.2.2⟩), ?_⟩
        intro v88o p88hv p88bhv2
        refine And.intro (by omega) ⟨fun h91 => ?_, fun h91 => ?_⟩
        · refine And.intro (zA_61 hS) (Exists.intro _ (And.intro (zinl_ok (zT9_2 2)) (And.intro rfl ?_)))
          refine And.intro (zA_61 hS) (zrd (v := (-1)) ((fr 61 3 (by omega)).trans hf0) ?_)
          refine And.intro ⟨(zRb rfl), (zRb rfl)⟩ (zbf rfl ?_)
          refine And.intro (zA_61 hS) ⟨_, (zWi (by omega)), ?_⟩
          refine hQ _ _ _ (q : Int) ?_ (by omega) (fun c j h0 h1 h2 h3 h4 h5 h6 h7 => (zxcj h1 ((fr c j h0).trans rfl))) (fun c j h0 => rfl) hpl (by omega)
          · have e : (tSk tSm c n p) = q := (by first | exact qe (qe2 (by omega)) | exact qe (by unfold tSm; omega))
            have eb := tKd_b (c := c) (p := p) (q := q)
            unfold tBg
            rw [e]
            first
            | exact Or.inr ⟨fun w => w.1 (by omega), rfl, zxe.trans (by omega)⟩
            | exact Or.inr ⟨fun w => w.2.2 (by omega), rfl, zxe.trans (by omega)⟩
            | (rcases p88hv with z | z
               · exfalso; omega
               · refine Or.inr ⟨fun w => z.2 ?_, rfl, zxe.trans (by omega)⟩
                 rw [Int.toNat_of_nonneg eb.1]
                 exact w.2.1)
            | (rcases p88hv with z | z
               · rw [Int.toNat_of_nonneg eb.1] at z
                 refine Or.inl ⟨⟨by omega, z.2, by omega⟩, p120hv, ?_, ?_, p120bhn, p120bbhk1.trans (Int.toNat_of_nonneg eb.1), p120bbbhk2, p120bbbbhk3, p120bbbbbhk5, p120bbbbbbhkL⟩
                 · exact (p120bbbbbbbfr 61 3 (by omega) (by omega) (by omega) (by omega) (by omega) (by omega)).trans ((fr 61 3 (by omega)).trans hf0)
                 · exact (p120bbbbbbbfr 61 2 (by omega) (by omega) (by omega) (by omega) (by omega) (by omega)).trans hpl
               · exfalso; omega)
        · refine And.intro (zA_61 hS) (zrdR (v := some k) hob ?_)
          refine And.intro (zDX hD 0 rfl) (zrd (v := a9) ((fr k 0 (by omega)).trans ho0) ?_)
          refine And.intro ⟨(by omega), (zRb rfl)⟩ ⟨fun h104 => ?_, fun h104 => ?_⟩
          · refine And.intro (zA_61 hS) (zrdR (v := some k) hob ?_)
            refine And.intro (zDX hD 0 rfl) ⟨_, sn_O_add.up (by decide), ?_⟩
            refine ⟨k, a9, cc, dp, (v81o : Int), (tKd c p q).toNat, (y : Int), rfl, hS, hR, hD, ((fr k 0 (by omega)).trans ho0), (by omega), ((fr k _ (by omega)).trans hcc), (by omega), ⟨by have z := p81bhv2; rw [← p81hv]; omega, by have z := p81bhv2; rw [← p81hv]; omega⟩, (by omega), (fun h => (fr (k + 3) _ (by omega)).trans (hdp h)), (by omega), ?_⟩
            intro v120o I120o L120o p120hv p120bhn p120bbhk1 p120bbbhk2 p120bbbbhk3 p120bbbbbhk5 p120bbbbbbhkL p120bbbbbbbfr p120bbbbbbbbfrL
            refine hQ _ _ _ (q : Int) ?_ (by omega) (fun c j h0 h1 h2 h3 h4 h5 h6 h7 => ((p120bbbbbbbfr c j h2 (by omega) (by omega) (by omega) (by omega) (by omega)).trans ((fr c j h0).trans rfl))) (fun c j h0 => ((p120bbbbbbbbfrL c j (by omega)).trans rfl)) ((p120bbbbbbbfr 61 2 (by omega) (by omega) (by omega) (by omega) (by omega) (by omega)).trans hpl) (by omega)
            · have e : (tSk tSm c n p) = q := (by first | exact qe (qe2 (by omega)) | exact qe (by unfold tSm; omega))
              have eb := tKd_b (c := c) (p := p) (q := q)
              unfold tBg
              rw [e]
              first
              | exact Or.inr ⟨fun w => w.1 (by omega), rfl, zxe.trans (by omega)⟩
              | exact Or.inr ⟨fun w => w.2.2 (by omega), rfl, zxe.trans (by omega)⟩
              | (rcases p88hv with z | z
                 · exfalso; omega
                 · refine Or.inr ⟨fun w => z.2 ?_, rfl, zxe.trans (by omega)⟩
                   rw [Int.toNat_of_nonneg eb.1]
                   exact w.2.1)
              | (rcases p88hv with z | z
                 · rw [Int.toNat_of_nonneg eb.1] at z
                   refine Or.inl ⟨⟨by omega, z.2, by omega⟩, p120hv, ?_, ?_, p120bhn, p120bbhk1.trans (Int.toNat_of_nonneg eb.1), p120bbbhk2, p120bbbbhk3, p120bbbbbhk5, p120bbbbbbhkL⟩
                   · exact (p120bbbbbbbfr 61 3 (by omega) (by omega) (by omega) (by omega) (by omega) (by omega)).trans ((fr 61 3 (by omega)).trans hf0)
                   · exact (p120bbbbbbbfr 61 2 (by omega) (by omega) (by omega) (by omega) (by omega) (by omega)).trans hpl
                 · exfalso; omega)
          · refine And.intro (zA_61 hS) (Exists.intro _ (And.intro (zinl_ok (zT9_2 2)) (And.intro rfl ?_)))
            refine And.intro (zA_61 hS) (zrd (v := (-1)) ((fr 61 3 (by omega)).trans hf0) ?_)
            refine And.intro ⟨(zRb rfl), (zRb rfl)⟩ (zbf rfl ?_)
            refine And.intro (zA_61 hS) ⟨_, (zWi (by omega)), ?_⟩
            refine hQ _ _ _ (q : Int) ?_ (by omega) (fun c j h0 h1 h2 h3 h4 h5 h6 h7 => (zxcj h1 ((fr c j h0).trans rfl))) (fun c j h0 => rfl) hpl (by omega)
            · have e : (tSk tSm c n p) = q := (by first | exact qe (qe2 (by omega)) | exact qe (by unfold tSm; omega))
              have eb := tKd_b (c := c) (p := p) (q := q)
              unfold tBg
              rw [e]
              first
              | exact Or.inr ⟨fun w => w.1 (by omega), rfl, zxe.trans (by omega)⟩
              | exact Or.inr ⟨fun w => w.2.2 (by omega), rfl, zxe.trans (by omega)⟩
              | (rcases p88hv with z | z
                 · exfalso; omega
                 · refine Or.inr ⟨fun w => z.2 ?_, rfl, zxe.trans (by omega)⟩
                   rw [Int.toNat_of_nonneg eb.1]
                   exact w.2.1)
              | (rcases p88hv with z | z
                 · rw [Int.toNat_of_nonneg eb.1] at z
                   refine Or.inl ⟨⟨by omega, z.2, by omega⟩, p120hv, ?_, ?_, p120bhn, p120bbhk1.trans (Int.toNat_of_nonneg eb.1), p120bbbhk2, p120bbbbhk3, p120bbbbbhk5, p120bbbbbbhkL⟩
                   · exact (p120bbbbbbbfr 61 3 (by omega) (by omega) (by omega) (by omega) (by omega) (by omega)).trans ((fr 61 3 (by omega)).trans hf0)
                   · exact (p120bbbbbbbfr 61 2 (by omega) (by omega) (by omega) (by omega) (by omega) (by omega)).trans hpl
                 · exfalso; omega)
      · refine And.intro (zA_61 hS) (zrd (v := q) hpl ?_)
        refine And.intro (zA_61 hS) (Exists.intro _ (And.intro (zinl_ok (zT9_2 2)) (And.intro rfl ?_)))
        refine And.intro (zA_61 hS) (zrd (v := (-1)) ((fr 61 3 (by omega)).trans hf0) ?_)
        refine And.intro ⟨(zRb rfl), (zRb rfl)⟩ (zbf rfl ?_)
        refine And.intro (zA_61 hS) ⟨_, (zWi (by omega)), ?_⟩
        refine hQ _ _ _ (q : Int) ?_ (by omega) (fun c j h0 h1 h2 h3 h4 h5 h6 h7 => (zxcj h1 ((fr c j h0).trans rfl))) (fun c j h0 => rfl) hpl (by omega)
        · have e : (tSk tSm c n p) = q := (by first | exact qe (qe2 (by omega)) | exact qe (by unfold tSm; omega))
          have eb := tKd_b (c := c) (p := p) (q := q)
          unfold tBg
          rw [e]
          first
          | exact Or.inr ⟨fun w => w.1 (by omega), rfl, zxe.trans (by omega)⟩
          | exact Or.inr ⟨fun w => w.2.2 (by omega), rfl, zxe.trans (by omega)⟩
          | (rcases p88hv with z | z
             · exfalso; omega
             · refine Or.inr ⟨fun w => z.2 ?_, rfl, zxe.trans (by omega)⟩
               rw [Int.toNat_of_nonneg eb.1]
               exact w.2.1)
          | (rcases p88hv with z | z
             · rw [Int.toNat_of_nonneg eb.1] at z
               refine Or.inl ⟨⟨by omega, z.2, by omega⟩, p120hv, ?_, ?_, p120bhn, p120bbhk1.trans (Int.toNat_of_nonneg eb.1), p120bbbhk2, p120bbbbhk3, p120bbbbbhk5, p120bbbbbbhkL⟩
               · exact (p120bbbbbbbfr 61 3 (by omega) (by omega) (by omega) (by omega) (by omega) (by omega)).trans ((fr 61 3 (by omega)).trans hf0)
               · exact (p120bbbbbbbfr 61 2 (by omega) (by omega) (by omega) (by omega) (by omega) (by omega)).trans hpl
             · exfalso; omega)
    · refine And.intro (zA_61 hS) (zrdR (v := some 42) htx ?_)
      refine And.intro (zA_61 hS) (zrd (v := q) hpl ?_)
      refine And.intro (zP_42 hS (by omega) (by omega)) (fun v24 e24 r24 => ?_)
      have f24 : v24 = c q := (e24.trans ((congrArg (I1 42) (by omega)).trans ((fr 42 _ (by omega)).trans (x2 q (by omega)))))
      refine And.intro ⟨r24, (zRb rfl)⟩ ⟨fun h27 => ?_, fun h27 => ?_⟩
      · refine And.intro (zA_61 hS) (zrd (v := q) hpl ?_)
        refine And.intro ⟨(by omega), (by omega)⟩ ⟨fun h62 => ?_, fun h62 => ?_⟩
        · refine And.intro (zA_61 hS) (zrd (v := q) hpl ?_)
          refine And.intro (zA_61 hS) ⟨_, sn_K_knd.up (by decide), ?_⟩
          refine ⟨c, n, (p : Int), p, (q : Int), q, rfl, hS, hR, htx, (by first | exact (zRD_fr hX (fun c j h => ((fr c j (by omega)).trans rfl))) | (clear hQ; grind [xu])), (by first | exact hc | (clear hQ; grind [xu])), (by omega), (by omega), ?_⟩
          intro v81o p81hv p81bhv2
          refine And.intro (zA_61 hS) ⟨_, sn_K_may.up (by decide), ?_⟩
          refine ⟨k, a9, (v81o : Int), (tKd c p q).toNat, (y : Int), b, rfl, hS, hR, (zStf hT (fun c j h1 h2 => ⟨((fr c j (by omega)).trans rfl), rfl⟩)), hob, hD, (by omega), ((fr k 0 (by omega)).trans ho0), (by omega), ⟨by have z := p81bhv2; rw [← p81hv]; omega, by have z := p81bhv2; rw [← p81hv]; omega⟩, (by omega), (by rcases hyb with z | z; exact Or.inl z; exact Or.inr ⟨z.1, (fr (k + 1) _ (by omega)).trans z.2.1, z.2.2⟩), ?_⟩
          intro v88o p88hv p88bhv2
          refine And.intro (by omega) ⟨fun h91 => ?_, fun h91 => ?_⟩
          · refine And.intro (zA_61 hS) (Exists.intro _ (And.intro (zinl_ok (zT9_2 2)) (And.intro rfl ?_)))
            refine And.intro (zA_61 hS) (zrd (v := (-1)) ((fr 61 3 (by omega)).trans hf0) ?_)
            refine And.intro ⟨(zRb rfl), (zRb rfl)⟩ (zbf rfl ?_)
            refine And.intro (zA_61 hS) ⟨_, (zWi (by omega)), ?_⟩
            refine hQ _ _ _ (q : Int) ?_ (by omega) (fun c j h0 h1 h2 h3 h4 h5 h6 h7 => (zxcj h1 ((fr c j h0).trans rfl))) (fun c j h0 => rfl) hpl (by omega)
            · have e : (tSk tSm c n p) = q := (by first | exact qe (qe2 (by omega)) | exact qe (by unfold tSm; omega))
              have eb := tKd_b (c := c) (p := p) (q := q)
              unfold tBg
              rw [e]
              first
              | exact Or.inr ⟨fun w => w.1 (by omega), rfl, zxe.trans (by omega)⟩
              | exact Or.inr ⟨fun w => w.2.2 (by omega), rfl, zxe.trans (by omega)⟩
              | (rcases p88hv with z | z
                 · exfalso; omega
                 · refine Or.inr ⟨fun w => z.2 ?_, rfl, zxe.trans (by omega)⟩
                   rw [Int.toNat_of_nonneg eb.1]
                   exact w.2.1)
              | (rcases p88hv with z | z
                 · rw [Int.toNat_of_nonneg eb.1] at z
                   refine Or.inl ⟨⟨by omega, z.2, by omega⟩, p120hv, ?_, ?_, p120bhn, p120bbhk1.trans (Int.toNat_of_nonneg eb.1), p120bbbhk2, p120bbbbhk3, p120bbbbbhk5, p120bbbbbbhkL⟩
                   · exact (p120bbbbbbbfr 61 3 (by omega) (by omega) (by omega) (by omega) (by omega) (by omega)).trans ((fr 61 3 (by omega)).trans hf0)
                   · exact (p120bbbbbbbfr 61 2 (by omega) (by omega) (by omega) (by omega) (by omega) (by omega)).trans hpl
                 · exfalso; omega)
          · refine And.intro (zA_61 hS) (zrdR (v := some k) hob ?_)
            refine And.intro (zDX hD 0 rfl) (zrd (v := a9) ((fr k 0 (by omega)).trans ho0) ?_)
            refine And.intro ⟨(by omega), (zRb rfl)⟩ ⟨fun h104 => ?_, fun h104 => ?_⟩
            · refine And.intro (zA_61 hS) (zrdR (v := some k) hob ?_)
              refine And.intro (zDX hD 0 rfl) ⟨_, sn_O_add.up (by decide), ?_⟩
              refine ⟨k, a9, cc, dp, (v81o : Int), (tKd c p q).toNat, (y : Int), rfl, hS, hR, hD, ((fr k 0 (by omega)).trans ho0), (by omega), ((fr k _ (by omega)).trans hcc), (by omega), ⟨by have z := p81bhv2; rw [← p81hv]; omega, by have z := p81bhv2; rw [← p81hv]; omega⟩, (by omega), (fun h => (fr (k + 3) _ (by omega)).trans (hdp h)), (by omega), ?_⟩
              intro v120o I120o L120o p120hv p120bhn p120bbhk1 p120bbbhk2 p120bbbbhk3 p120bbbbbhk5 p120bbbbbbhkL p120bbbbbbbfr p120bbbbbbbbfrL
              refine hQ _ _ _ (q : Int) ?_ (by omega) (fun c j h0 h1 h2 h3 h4 h5 h6 h7 => ((p120bbbbbbbfr c j h2 (by omega) (by omega) (by omega) (by omega) (by omega)).trans ((fr c j h0).trans rfl))) (fun c j h0 => ((p120bbbbbbbbfrL c j (by omega)).trans rfl)) ((p120bbbbbbbfr 61 2 (by omega) (by omega) (by omega) (by omega) (by omega) (by omega)).trans hpl) (by omega)
              · have e : (tSk tSm c n p) = q := (by first | exact qe (qe2 (by omega)) | exact qe (by unfold tSm; omega))
                have eb := tKd_b (c := c) (p := p) (q := q)
                unfold tBg
                rw [e]
                first
                | exact Or.inr ⟨fun w => w.1 (by omega), rfl, zxe.trans (by omega)⟩
                | exact Or.inr ⟨fun w => w.2.2 (by omega), rfl, zxe.trans (by omega)⟩
                | (rcases p88hv with z | z
                   · exfalso; omega
                   · refine Or.inr ⟨fun w => z.2 ?_, rfl, zxe.trans (by omega)⟩
                     rw [Int.toNat_of_nonneg eb.1]
                     exact w.2.1)
                | (rcases p88hv with z | z
                   · rw [Int.toNat_of_nonneg eb.1] at z
                     refine Or.inl ⟨⟨by omega, z.2, by omega⟩, p120hv, ?_, ?_, p120bhn, p120bbhk1.trans (Int.toNat_of_nonneg eb.1), p120bbbhk2, p120bbbbhk3, p120bbbbbhk5, p120bbbbbbhkL⟩
                     · exact (p120bbbbbbbfr 61 3 (by omega) (by omega) (by omega) (by omega) (by omega) (by omega)).trans ((fr 61 3 (by omega)).trans hf0)
                     · exact (p120bbbbbbbfr 61 2 (by omega) (by omega) (by omega) (by omega) (by omega) (by omega)).trans hpl
                   · exfalso; omega)
            · refine And.intro (zA_61 hS) (Exists.intro _ (And.intro (zinl_ok (zT9_2 2)) (And.intro rfl ?_)))
              refine And.intro (zA_61 hS) (zrd (v := (-1)) ((fr 61 3 (by omega)).trans hf0) ?_)
              refine And.intro ⟨(zRb rfl), (zRb rfl)⟩ (zbf rfl ?_)
              refine And.intro (zA_61 hS) ⟨_, (zWi (by omega)), ?_⟩
              refine hQ _ _ _ (q : Int) ?_ (by omega) (fun c j h0 h1 h2 h3 h4 h5 h6 h7 => (zxcj h1 ((fr c j h0).trans rfl))) (fun c j h0 => rfl) hpl (by omega)
              · have e : (tSk tSm c n p) = q := (by first | exact qe (qe2 (by omega)) | exact qe (by unfold tSm; omega))
                have eb := tKd_b (c := c) (p := p) (q := q)
                unfold tBg
                rw [e]
                first
                | exact Or.inr ⟨fun w => w.1 (by omega), rfl, zxe.trans (by omega)⟩
                | exact Or.inr ⟨fun w => w.2.2 (by omega), rfl, zxe.trans (by omega)⟩
                | (rcases p88hv with z | z
                   · exfalso; omega
                   · refine Or.inr ⟨fun w => z.2 ?_, rfl, zxe.trans (by omega)⟩
                     rw [Int.toNat_of_nonneg eb.1]
                     exact w.2.1)
                | (rcases p88hv with z | z
                   · rw [Int.toNat_of_nonneg eb.1] at z
                     refine Or.inl ⟨⟨by omega, z.2, by omega⟩, p120hv, ?_, ?_, p120bhn, p120bbhk1.trans (Int.toNat_of_nonneg eb.1), p120bbbhk2, p120bbbbhk3, p120bbbbbhk5, p120bbbbbbhkL⟩
                     · exact (p120bbbbbbbfr 61 3 (by omega) (by omega) (by omega) (by omega) (by omega) (by omega)).trans ((fr 61 3 (by omega)).trans hf0)
                     · exact (p120bbbbbbbfr 61 2 (by omega) (by omega) (by omega) (by omega) (by omega) (by omega)).trans hpl
                   · exfalso; omega)
        · refine And.intro (zA_61 hS) (zrd (v := q) hpl ?_)
          refine And.intro (zA_61 hS) (Exists.intro _ (And.intro (zinl_ok (zT9_2 2)) (And.intro rfl ?_)))
          refine And.intro (zA_61 hS) (zrd (v := (-1)) ((fr 61 3 (by omega)).trans hf0) ?_)
          refine And.intro ⟨(zRb rfl), (zRb rfl)⟩ (zbf rfl ?_)
          refine And.intro (zA_61 hS) ⟨_, (zWi (by omega)), ?_⟩
          refine hQ _ _ _ (q : Int) ?_ (by omega) (fun c j h0 h1 h2 h3 h4 h5 h6 h7 => (zxcj h1 ((fr c j h0).trans rfl))) (fun c j h0 => rfl) hpl (by omega)
          · have e : (tSk tSm c n p) = q := (by first | exact qe (qe2 (by omega)) | exact qe (by unfold tSm; omega))
            have eb := tKd_b (c := c) (p := p) (q := q)
            unfold tBg
            rw [e]
            first
            | exact Or.inr ⟨fun w => w.1 (by omega), rfl, zxe.trans (by omega)⟩
            | exact Or.inr ⟨fun w => w.2.2 (by omega), rfl, zxe.trans (by omega)⟩
            | (rcases p88hv with z | z
               · exfalso; omega
               · refine Or.inr ⟨fun w => z.2 ?_, rfl, zxe.trans (by omega)⟩
                 rw [Int.toNat_of_nonneg eb.1]
                 exact w.2.1)
            | (rcases p88hv with z | z
               · rw [Int.toNat_of_nonneg eb.1] at z
                 refine Or.inl ⟨⟨by omega, z.2, by omega⟩, p120hv, ?_, ?_, p120bhn, p120bbhk1.trans (Int.toNat_of_nonneg eb.1), p120bbbhk2, p120bbbbhk3, p120bbbbbhk5, p120bbbbbbhkL⟩
                 · exact (p120bbbbbbbfr 61 3 (by omega) (by omega) (by omega) (by omega) (by omega) (by omega)).trans ((fr 61 3 (by omega)).trans hf0)
                 · exact (p120bbbbbbbfr 61 2 (by omega) (by omega) (by omega) (by omega) (by omega) (by omega)).trans hpl
               · exfalso; omega)
      · refine And.intro (zA_61 hS) (zrdR (v := some 42) htx ?_)
        refine And.intro (zA_61 hS) (zrd (v := q) hpl ?_)
        refine And.intro (zP_42 hS (by omega) (by omega)) (fun v38 e38 r38 => ?_)
        have f38 : v38 = c q := (e38.trans ((congrArg (I1 42) (by omega)).trans ((fr 42 _ (by omega)).trans (x2 q (by omega)))))
        refine And.intro ⟨r38, (zRb rfl)⟩ ⟨fun h41 => ?_, fun h41 => ?_⟩
        · refine And.intro (zA_61 hS) (zrd (v := q) hpl ?_)
          refine And.intro ⟨(by omega), (by omega)⟩ ⟨fun h62 => ?_, fun h62 => ?_⟩
          · refine And.intro (zA_61 hS) (zrd (v := q) hpl ?_)
            refine And.intro (zA_61 hS) ⟨_, sn_K_knd.up (by decide), ?_⟩
            refine ⟨c, n, (p : Int), p, (q : Int), q, rfl, hS, hR, htx, (by first | exact (zRD_fr hX (fun c j h => ((fr c j (by omega)).trans rfl))) | (clear hQ; grind [xu])), (by first | exact hc | (clear hQ; grind [xu])), (by omega), (by omega), ?_⟩
            intro v81o p81hv p81bhv2
            refine And.intro (zA_61 hS) ⟨_, sn_K_may.up (by decide), ?_⟩
            refine ⟨k, a9, (v81o : Int), (tKd c p q).toNat, (y : Int), b, rfl, hS, hR, (zStf hT (fun c j h1 h2 => ⟨((fr c j (by omega)).trans rfl), rfl⟩)), hob, hD, (by omega), ((fr k 0 (by omega)).trans ho0), (by omega), ⟨by have z := p81bhv2; rw [← p81hv]; omega, by have z := p81bhv2; rw [← p81hv]; omega⟩, (by omega), (by rcases hyb with z | z; exact Or.inl z; exact Or.inr ⟨z.1, (fr (k + 1) _ (by omega)).trans z.2.1, z.2.2⟩), ?_⟩
            intro v88o p88hv p88bhv2
            refine And.intro (by omega) ⟨fun h91 => ?_, fun h91 => ?_⟩
            · refine And.intro (zA_61 hS) (Exists.intro _ (And.intro (zinl_ok (zT9_2 2)) (And.intro rfl ?_)))
              refine And.intro (zA_61 hS) (zrd (v := (-1)) ((fr 61 3 (by omega)).trans hf0) ?_)
              refine And.intro ⟨(zRb rfl), (zRb rfl)⟩ (zbf rfl ?_)
              refine And.intro (zA_61 hS) ⟨_, (zWi (by omega)), ?_⟩
              refine hQ _ _ _ (q : Int) ?_ (by omega) (fun c j h0 h1 h2 h3 h4 h5 h6 h7 => (zxcj h1 ((fr c j h0).trans rfl))) (fun c j h0 => rfl) hpl (by omega)
              · have e : (tSk tSm c n p) = q := (by first | exact qe (qe2 (by omega)) | exact qe (by unfold tSm; omega))
                have eb := tKd_b (c := c) (p := p) (q := q)
                unfold tBg
                rw [e]
                first
                | exact Or.inr ⟨fun w => w.1 (by omega), rfl, zxe.trans (by omega)⟩
                | exact Or.inr ⟨fun w => w.2.2 (by omega), rfl, zxe.trans (by omega)⟩
                | (rcases p88hv with z | z
                   · exfalso; omega
                   · refine Or.inr ⟨fun w => z.2 ?_, rfl, zxe.trans (by omega)⟩
                     rw [Int.toNat_of_nonneg eb.1]
                     exact w.2.1)
                | (rcases p88hv with z | z
                   · rw [Int.toNat_of_nonneg eb.1] at z
                     refine Or.inl ⟨⟨by omega, z.2, by omega⟩, p120hv, ?_, ?_, p120bhn, p120bbhk1.trans (Int.toNat_of_nonneg eb.1), p120bbbhk2, p120bbbbhk3, p120bbbbbhk5, p120bbbbbbhkL⟩
                     · exact (p120bbbbbbbfr 61 3 (by omega) (by omega) (by omega) (by omega) (by omega) (by omega)).trans ((fr 61 3 (by omega)).trans hf0)
                     · exact (p120bbbbbbbfr 61 2 (by omega) (by omega) (by omega) (by omega) (by omega) (by omega)).trans hpl
                   · exfalso; omega)
            · refine And.intro (zA_61 hS) (zrdR (v := some k) hob ?_)
              refine And.intro (zDX hD 0 rfl) (zrd (v := a9) ((fr k 0 (by omega)).trans ho0) ?_)
              refine And.intro ⟨(by omega), (zRb rfl)⟩ ⟨fun h104 => ?_, fun h104 => ?_⟩
              · refine And.intro (zA_61 hS) (zrdR (v := some k) hob ?_)
                refine And.intro (zDX hD 0 rfl) ⟨_, sn_O_add.up (by decide), ?_⟩
                refine ⟨k, a9, cc, dp, (v81o : Int), (tKd c p q).toNat, (y : Int), rfl, hS, hR, hD, ((fr k 0 (by omega)).trans ho0), (by omega), ((fr k _ (by omega)).trans hcc), (by omega), ⟨by have z := p81bhv2; rw [← p81hv]; omega, by have z := p81bhv2; rw [← p81hv]; omega⟩, (by omega), (fun h => (fr (k + 3) _ (by omega)).trans (hdp h)), (by omega), ?_⟩
                intro v120o I120o L120o p120hv p120bhn p120bbhk1 p120bbbhk2 p120bbbbhk3 p120bbbbbhk5 p120bbbbbbhkL p120bbbbbbbfr p120bbbbbbbbfrL
                refine hQ _ _ _ (q : Int) ?_ (by omega) (fun c j h0 h1 h2 h3 h4 h5 h6 h7 => ((p120bbbbbbbfr c j h2 (by omega) (by omega) (by omega) (by omega) (by omega)).trans ((fr c j h0).trans rfl))) (fun c j h0 => ((p120bbbbbbbbfrL c j (by omega)).trans rfl)) ((p120bbbbbbbfr 61 2 (by omega) (by omega) (by omega) (by omega) (by omega) (by omega)).trans hpl) (by omega)
                · have e : (tSk tSm c n p) = q := (by first | exact qe (qe2 (by omega)) | exact qe (by unfold tSm; omega))
                  have eb := tKd_b (c := c) (p := p) (q := q)
                  unfold tBg
                  rw [e]
                  first
                  | exact Or.inr ⟨fun w => w.1 (by omega), rfl, zxe.trans (by omega)⟩
                  | exact Or.inr ⟨fun w => w.2.2 (by omega), rfl, zxe.trans (by omega)⟩
                  | (rcases p88hv with z | z
                     · exfalso; omega
                     · refine Or.inr ⟨fun w => z.2 ?_, rfl, zxe.trans (by omega)⟩
                       rw [Int.toNat_of_nonneg eb.1]
                       exact w.2.1)
                  | (rcases p88hv with z | z
                     · rw [Int.toNat_of_nonneg eb.1] at z
                       refine Or.inl ⟨⟨by omega, z.2, by omega⟩, p120hv, ?_, ?_, p120bhn, p120bbhk1.trans (Int.toNat_of_nonneg eb.1), p120bbbhk2, p120bbbbhk3, p120bbbbbhk5, p120bbbbbbhkL⟩
                       · exact (p120bbbbbbbfr 61 3 (by omega) (by omega) (by omega) (by omega) (by omega) (by omega)).trans ((fr 61 3 (by omega)).trans hf0)
                       · exact (p120bbbbbbbfr 61 2 (by omega) (by omega) (by omega) (by omega) (by omega) (by omega)).trans hpl
                     · exfalso; omega)
              · refine And.intro (zA_61 hS) (Exists.intro _ (And.intro (zinl_ok (zT9_2 2)) (And.intro rfl ?_)))
                refine And.intro (zA_61 hS) (zrd (v := (-1)) ((fr 61 3 (by omega)).trans hf0) ?_)
                refine And.intro ⟨(zRb rfl), (zRb rfl)⟩ (zbf rfl ?_)
                refine And.intro (zA_61 hS) ⟨_, (zWi (by omega)), ?_⟩
                refine hQ _ _ _ (q : Int) ?_ (by omega) (fun c j h0 h1 h2 h3 h4 h5 h6 h7 => (zxcj h1 ((fr c j h0).trans rfl))) (fun c j h0 => rfl) hpl (by omega)
                · have e : (tSk tSm c n p) = q := (by first | exact qe (qe2 (by omega)) | exact qe (by unfold tSm; omega))
                  have eb := tKd_b (c := c) (p := p) (q := q)
                  unfold tBg
                  rw [e]
                  first
                  | exact Or.inr ⟨fun w => w.1 (by omega), rfl, zxe.trans (by omega)⟩
                  | exact Or.inr ⟨fun w => w.2.2 (by omega), rfl, zxe.trans (by omega)⟩
                  | (rcases p88hv with z | z
                     · exfalso; omega
                     · refine Or.inr ⟨fun w => z.2 ?_, rfl, zxe.trans (by omega)⟩
                       rw [Int.toNat_of_nonneg eb.1]
                       exact w.2.1)
                  | (rcases p88hv with z | z
                     · rw [Int.toNat_of_nonneg eb.1] at z
                       refine Or.inl ⟨⟨by omega, z.2, by omega⟩, p120hv, ?_, ?_, p120bhn, p120bbhk1.trans (Int.toNat_of_nonneg eb.1), p120bbbhk2, p120bbbbhk3, p120bbbbbhk5, p120bbbbbbhkL⟩
                       · exact (p120bbbbbbbfr 61 3 (by omega) (by omega) (by omega) (by omega) (by omega) (by omega)).trans ((fr 61 3 (by omega)).trans hf0)
                       · exact (p120bbbbbbbfr 61 2 (by omega) (by omega) (by omega) (by omega) (by omega) (by omega)).trans hpl
                     · exfalso; omega)
          · refine And.intro (zA_61 hS) (zrd (v := q) hpl ?_)
            refine And.intro (zA_61 hS) (Exists.intro _ (And.intro (zinl_ok (zT9_2 2)) (And.intro rfl ?_)))
            refine And.intro (zA_61 hS) (zrd (v := (-1)) ((fr 61 3 (by omega)).trans hf0) ?_)
            refine And.intro ⟨(zRb rfl), (zRb rfl)⟩ (zbf rfl ?_)
            refine And.intro (zA_61 hS) ⟨_, (zWi (by omega)), ?_⟩
            refine hQ _ _ _ (q : Int) ?_ (by omega) (fun c j h0 h1 h2 h3 h4 h5 h6 h7 => (zxcj h1 ((fr c j h0).trans rfl))) (fun c j h0 => rfl) hpl (by omega)
            · have e : (tSk tSm c n p) = q := (by first | exact qe (qe2 (by omega)) | exact qe (by unfold tSm; omega))
              have eb := tKd_b (c := c) (p := p) (q := q)
              unfold tBg
              rw [e]
              first
              | exact Or.inr ⟨fun w => w.1 (by omega), rfl, zxe.trans (by omega)⟩
              | exact Or.inr ⟨fun w => w.2.2 (by omega), rfl, zxe.trans (by omega)⟩
              | (rcases p88hv with z | z
                 · exfalso; omega
                 · refine Or.inr ⟨fun w => z.2 ?_, rfl, zxe.trans (by omega)⟩
                   rw [Int.toNat_of_nonneg eb.1]
                   exact w.2.1)
              | (rcases p88hv with z | z
                 · rw [Int.toNat_of_nonneg eb.1] at z
                   refine Or.inl ⟨⟨by omega, z.2, by omega⟩, p120hv, ?_, ?_, p120bhn, p120bbhk1.trans (Int.toNat_of_nonneg eb.1), p120bbbhk2, p120bbbbhk3, p120bbbbbhk5, p120bbbbbbhkL⟩
                   · exact (p120bbbbbbbfr 61 3 (by omega) (by omega) (by omega) (by omega) (by omega) (by omega)).trans ((fr 61 3 (by omega)).trans hf0)
                   · exact (p120bbbbbbbfr 61 2 (by omega) (by omega) (by omega) (by omega) (by omega) (by omega)).trans hpl
                 · exfalso; omega)
        · refine And.intro (zA_61 hS) (zrd (v := q) hpl ?_)
          refine And.intro (zA_61 hS) ⟨_, (zWi (by omega)), ?_⟩
          refine ⟨((4001 - (q + 1)), 0, 0), zlt6 (by omega), [some (zvr (61)), some (zvi (y)), some (zvi (p)), none], ⟨rfl, rfl, rfl, rfl⟩, (q + 1), rfl, rfl, rfl, rfl, rfl, rfl, (by omega), rfl, ?_, (fun c j h0 => (zxcj h0 ((fr c j h0).trans rfl)))⟩
          · intro i h1 h2
            by_cases e : i = q
            · rw [e]; unfold tSm; omega
            · exact hb i h1 (by omega))
