/-! xm -/
def T_W_lab : ZT := fun args I L R S Q => ∃ (k : Nat) (w : List CuR) (pc : Nat), args = [zvr k] ∧ (zSh S) ∧ (zRs R) ∧ (zDy zT15 zF15 k R S) ∧ (zPc k w pc I L) ∧ (cuG w) ∧ (w.length ≤ 60) ∧ (cuPq w pc) ∧ ∀ (I' : ZI), (zLb (cuNp w) (cuEE w) (I' (k + 11))) → (∀ c j : Nat, ¬ c = k + 11 → I' c j = I c j) → Q none I' L R S
theorem sn_W_lab : ZSnd 3 15 4 T_W_lab := ZSnd.loops (zT15_4 2) (by
  rintro args I L R S Q hz ⟨k, w, pc, rfl, hS, hR, hd, hPc, hG, hcl, hpq, hQ⟩
  have hk5 := hd.1
  obtain ⟨hp0, hpi, hpn⟩ := id hPc
  obtain ⟨n, hn⟩ : ∃ n, n = cuNp w := ⟨_, rfl⟩
  have hn60 : n ≤ 60 := by have z := cuNp_l (w := w); omega
  rw [← hn] at hp0 hpi
  have hpcn : pc ≤ n ∧ pc ≤ 40 := ⟨by have z := (cuPq_p hpq).1; omega, hpq.1⟩
  refine ⟨[2, 38, 46, 56], fun nM tM lsM stM I1 L1 R1 S1 => match tM with
      | 2 => ∃ (m : Nat), nM = ((2 * zSm n (fun c => (c : Int)) + 9), (61 - m), 0) ∧ lsM = [some (zvr (k)), some (zvi (m)), none, none, none] ∧ stM = [] ∧ L1 = L ∧ R1 = R ∧ S1 = S ∧ (m ≤ n) ∧ (∀ c : Nat, c < m → I1 (k + 11) c = c) ∧ (∀ c j : Nat, ¬ c = k + 11 → I1 c j = I c j)
      | 38 => ∃ (u : Int) (S0 : Nat), nM = ((2 * S0 + u.toNat), 99, 0) ∧ lsM = [some (zvr (k)), some (zvi (u)), none, none, none] ∧ stM = [] ∧ L1 = L ∧ R1 = R ∧ S1 = S ∧ (u = 0 ∨ u = 1) ∧ (zSm n (I1 (k + 11)) = S0) ∧ (zLw n (cuEE w) (I1 (k + 11))) ∧ (u = 0 → (∀ a b : Nat, a < b → b < n → cuTT w a b → I1 (k + 11) a = I1 (k + 11) b)) ∧ (∀ c j : Nat, ¬ c = k + 11 → I1 c j = I c j)
      | 46 => ∃ (u : Int) (S0 : Nat) (p : Nat), nM = ((2 * S0 + 1), (61 - p), 99) ∧ lsM = [some (zvr (k)), some (zvi (u)), some (zvi (p)), none, none] ∧ stM = [] ∧ L1 = L ∧ R1 = R ∧ S1 = S ∧ (u = 0 ∨ u = 1) ∧ (p ≤ n) ∧ ((u = 0 ∧ zSm n (I1 (k + 11)) = S0) ∨ (u = 1 ∧ zSm n (I1 (k + 11)) < S0)) ∧ (zLw n (cuEE w) (I1 (k + 11))) ∧ (u = 0 → (∀ a b : Nat, a < b → b < p → b < n → cuTT w a b → I1 (k + 11) a = I1 (k + 11) b)) ∧ (∀ c j : Nat, ¬ c = k + 11 → I1 c j = I c j)
      | 56 => ∃ (u : Int) (S0 : Nat) (p : Nat) (q : Nat), nM = ((2 * S0 + 1), (61 - p), (61 - q)) ∧ lsM = [some (zvr (k)), some (zvi (u)), some (zvi (p)), some (zvi (q)), none] ∧ stM = [] ∧ L1 = L ∧ R1 = R ∧ S1 = S ∧ (u = 0 ∨ u = 1) ∧ (p < n ∧ q ≤ p) ∧ ((u = 0 ∧ zSm n (I1 (k + 11)) = S0) ∨ (u = 1 ∧ zSm n (I1 (k + 11)) < S0)) ∧ (zLw n (cuEE w) (I1 (k + 11))) ∧ (u = 0 → (∀ a b : Nat, a < b → (b < p ∨ (b = p ∧ a < q)) → b < n → cuTT w a b → I1 (k + 11) a = I1 (k + 11) b)) ∧ (∀ c j : Nat, ¬ c = k + 11 → I1 c j = I c j)
      | _ => False, rfl, ?_, ⟨?_, ?_, ?_, ?_, True.intro⟩⟩
  · refine ⟨((2 * zSm n (fun c => (c : Int)) + 9), (61 - (0 : Nat)), 0), [some (zvr (k)), some (zvi ((0 : Nat))), none, none, none], ⟨rfl, rfl, rfl⟩, 0, rfl, rfl, rfl, rfl, rfl, rfl, (by omega), (fun c h => absurd h (Nat.not_lt_zero c)), (fun c j h0 => rfl)⟩
  · rintro nM lsM stM I1 L1 R1 S1 hz1 ⟨m, rfl, rfl, rfl, rfl, rfl, rfl, hm, h0, fr⟩
    refine And.intro (zDX hd 0 rfl) (zrd (v := n) ((fr k 2 (by omega)).trans hp0) ?_)
    refine And.intro ⟨(by omega), (by omega)⟩ ⟨fun h7 => ?_, fun h7 => ?_⟩
    · refine ⟨((2 * (zSm n (I1 (k + 11))) + (1 : Int).toNat), 99, 0), zlt6 (by have e9 := zSm_e (f := I1 (k + 11)) (g := fun c => (c : Int)) (n := n) (fun c hc => h0 c (by omega)); omega), [some (zvr (k)), some (zvi ((1 : Int))), none, none, none], ⟨rfl, rfl, rfl⟩, 1, (zSm n (I1 (k + 11))), rfl, rfl, rfl, rfl, rfl, rfl, (by clear hQ; grind [xu]), rfl, (zLw_0 (fun c hc => h0 c (by omega))), (fun h => absurd h (by decide)), (fun c j h0 => ((fr c j h0).trans rfl))⟩
    · refine And.intro (zDX hd 0 rfl) (zrdR (v := some (k + 11)) (zDR hd 10 rfl) ?_)
      refine And.intro (zDX hd 0 rfl) (zrdR (v := some (k + 1)) (zDR hd 0 rfl) ?_)
      refine And.intro (Or.inr (zDP hd 1 rfl rfl (by omega) (by omega))) (fun v20 e20 r20 => ?_)
      have f20 : v20 = 1 := (by refine Eq.trans e20 ?_; repeat (first | exact ((congrArg (I1 (k + 1)) (show _ = m by omega)).trans (hpi m (by omega)).1.1) | exact (fr _ _ (by omega)).trans ((congrArg (I (k + 1)) (show _ = m by omega)).trans (hpi m (by omega)).1.1) | refine zxu (by omega) ?_))
      refine And.intro r20 ⟨(fun h21 => False.elim (by omega)), fun h21 => ?_⟩
      refine And.intro ⟨(by show 40 ≤ _; omega), (zDP hd 11 rfl rfl (by omega) (by omega))⟩ ⟨_, (zWi (by omega)), ?_⟩
      refine ⟨((2 * zSm n (fun c => (c : Int)) + 9), (61 - (m + 1)), 0), zlt6 (by omega), [some (zvr (k)), some (zvi ((m + 1))), none, none, none], ⟨rfl, rfl, rfl⟩, (m + 1), rfl, rfl, rfl, rfl, rfl, rfl, (by omega), (fun c hc => by by_cases e : c = m; (rw [e]; exact zxe' (by omega)); exact zxs (by omega) (h0 c (by omega))), (fun c j h0 => (zxu h0 ((fr c j h0).trans rfl)))⟩
  · rintro nM lsM stM I1 L1 R1 S1 hz1 ⟨u, S0, rfl, rfl, rfl, rfl, rfl, rfl, hu, hS0, hLw, hall, fr⟩
    refine And.intro (by omega) ⟨fun h39 => ?_, fun h39 => ?_⟩
    · refine hQ _ (by have e : n = cuNp w := hn; rw [← e]; have z := zLw_L (n := n) (T := cuTT w) (by have y := hLw; unfold cuEE at y; rw [← e] at y; exact y) (fun a b h1 h2 h3 => hall (by omega) a b h1 h2 h3); unfold cuEE; rw [← e]; exact z) (fun c j h0 => ((fr c j h0).trans rfl))
    · refine ⟨((2 * S0 + 1), (61 - (0 : Nat)), 99), zlt6 (by omega), [some (zvr (k)), some (zvi ((0 : Int))), some (zvi ((0 : Nat))), none, none], ⟨rfl, rfl, rfl, rfl⟩, 0, S0, 0, rfl, rfl, rfl, rfl, rfl, rfl, (by first | exact hu | (clear hQ; grind [xu])), (by omega), (Or.inl ⟨rfl, hS0⟩), hLw, (fun _ a b _ h => absurd h (Nat.not_lt_zero b)), (fun c j h0 => ((fr c j h0).trans rfl))⟩
  · rintro nM lsM stM I1 L1 R1 S1 hz1 ⟨u, S0, p, rfl, rfl, rfl, rfl, rfl, rfl, hu, hp, hS1, hLw, hall, fr⟩
    refine And.intro (zDX hd 0 rfl) (zrd (v := n) ((fr k 2 (by omega)).trans hp0) ?_)
    refine And.intro ⟨(by omega), (by omega)⟩ ⟨fun h51 => ?_, fun h51 => ?_⟩
    · refine ⟨((2 * (zSm n (I1 (k + 11))) + u.toNat), 99, 0), zlt6 (by omega), [some (zvr (k)), some (zvi (u)), none, none, none], ⟨rfl, rfl, rfl⟩, u, (zSm n (I1 (k + 11))), rfl, rfl, rfl, rfl, rfl, rfl, (by first | exact hu | (clear hQ; grind [xu])), rfl, hLw, (fun h a b h1 h2 h3 => hall h a b h1 (by omega) h2 h3), (fun c j h0 => ((fr c j h0).trans rfl))⟩
    · refine ⟨((2 * S0 + 1), (61 - p), (61 - (0 : Nat))), zlt6 (by omega), [some (zvr (k)), some (zvi (u)), some (zvi (p)), some (zvi ((0 : Nat))), none], ⟨rfl, rfl, rfl, rfl, rfl⟩, u, S0, p, 0, rfl, rfl, rfl, rfl, rfl, rfl, (by first | exact hu | (clear hQ; grind [xu])), (by omega), hS1, hLw, (fun h a b h1 h2 h3 h4 => hall h a b h1 (by omega) h3 h4), (fun c j h0 => ((fr c j h0).trans rfl))⟩
  · rintro nM lsM stM I1 L1 R1 S1 hz1 ⟨u, S0, p, q, rfl, rfl, rfl, rfl, rfl, rfl, hu, hp, hS1, hLw, hall, fr⟩
    refine And.intro ⟨(by omega), (by omega)⟩ ⟨fun h58 => ?_, fun h58 => ?_⟩
    · refine ⟨((2 * S0 + 1), (61 - (p + 1)), 99), zlt6 (by omega), [some (zvr (k)), some (zvi (u)), some (zvi ((p + 1))), none, none], ⟨rfl, rfl, rfl, rfl⟩, u, S0, (p + 1), rfl, rfl, rfl, rfl, rfl, rfl, (by first | exact hu | (clear hQ; grind [xu])), (by omega), hS1, hLw, (fun h a b h1 h2 h3 h4 => hall h a b h1 (by omega) h3 h4), (fun c j h0 => ((fr c j h0).trans rfl))⟩
    · refine And.intro (zDX hd 0 rfl) (zrdR (v := some (k + 11)) (zDR hd 10 rfl) ?_)
      refine And.intro (zDP hd 11 rfl rfl (by omega) (by omega)) (fun v66 e66 r66 => ?_)
      have f66 : v66 = I1 (k + 11) p := (e66.trans (congrArg (I1 (k + 11)) (show _ = p by omega)))
      have f66b : 0 ≤ v66 ∧ v66 ≤ 59 := (by have z := zLw_b hLw (show p < n by omega); omega)
      refine And.intro (zDX hd 0 rfl) (zrdR (v := some (k + 11)) (zDR hd 10 rfl) ?_)
      refine And.intro (zDP hd 11 rfl rfl (by omega) (by omega)) (fun v72 e72 r72 => ?_)
      have f72 : v72 = I1 (k + 11) q := (e72.trans (congrArg (I1 (k + 11)) (show _ = q by omega)))
      have f72b : 0 ≤ v72 ∧ v72 ≤ 59 := (by have z := zLw_b hLw (show q < n by omega); omega)
      refine And.intro ⟨r66, r72⟩ ⟨fun h73 => ?_, fun h73 => ?_⟩
      · refine ⟨((2 * S0 + 1), (61 - p), (61 - (q + 1))), zlt6 (by omega), [some (zvr (k)), some (zvi (u)), some (zvi (p)), some (zvi ((q + 1))), none], ⟨rfl, rfl, rfl, rfl, rfl⟩, u, S0, p, (q + 1), rfl, rfl, rfl, rfl, rfl, rfl, (by first | exact hu | (clear hQ; grind [xu])), (by omega), ?_, ?_, ?_, (fun c j h0 => ((fr c j h0).trans rfl))⟩
        · first
          | exact hS1
          | (right
             refine ⟨rfl, ?_⟩
             refine Nat.lt_of_lt_of_le (zSm_u (f := I1 (k + 11)) (n := n) (a := p) (b := q) (v := min (I1 (k + 11) p) (I1 (k + 11) q)) hp.1 (show q < n by omega) rfl (by omega) (by omega) ?_) (show zSm n (I1 (k + 11)) ≤ S0 by omega)
             intro c hc
             by_cases q1 : c = q
             · rw [if_pos (Or.inr q1)]
               exact (zxe' (by omega)).trans (by omega)
             · by_cases q2 : c = p
               · rw [if_pos (Or.inl q2)]
                 exact (zxs (by omega) (zxe' (by omega))).trans (by omega)
               · rw [if_neg (by omega)]
                 exact zxs (by omega) (zxs (by omega) rfl))
        · first
          | exact hLw
          | (refine zLw_u (v := min (I1 (k + 11) p) (I1 (k + 11) q)) hLw hp.1 (show q < p by omega) (by unfold cuEE; rw [← hn]; exact cuEa_j (show q < p by omega) hp.1 (cuTT_s.mp (by rcases p79hv with z | z; exact z.2; (exfalso; omega)))) rfl ?_
             intro c hc
             by_cases q1 : c = q
             · rw [if_pos (Or.inr q1)]
               exact (zxe' (by omega)).trans (by omega)
             · by_cases q2 : c = p
               · rw [if_pos (Or.inl q2)]
                 exact (zxs (by omega) (zxe' (by omega))).trans (by omega)
               · rw [if_neg (by omega)]
                 exact zxs (by omega) (zxs (by omega) rfl))
        · intro h a b h1 h2 h3 h4
          first
          | exact absurd h (by decide)
          | (by_cases e : b = p ∧ a = q
             · obtain ⟨rfl, rfl⟩ := e
               first
               | omega
               | (exfalso
                  rcases p79hv with z | z
                  · omega
                  · exact z.2 (cuTT_s.mp h4))
             · exact hall h a b h1 (by omega) h3 h4)
      · refine And.intro (zDX hd 0 rfl) ⟨_, sn_W_tch.up (by decide), ?_⟩
        refine ⟨_, w, pc, (p : Int), p, (q : Int), q, rfl, hS, hR, hd, (by first | exact (zPc_fr hPc (fun c j h => ((fr c j (by omega)).trans rfl)) (fun c j h => rfl)) | (clear hQ; grind [xu])), (by first | exact hG | (clear hQ; grind [xu])), (by omega), (by first | exact hpq | (clear hQ; grind [xu])), (by omega), (by omega), ?_⟩
        intro v79o p79hv
        refine And.intro (by omega) ⟨fun h82 => ?_, fun h82 => ?_⟩
        · refine And.intro (zDX hd 0 rfl) (zrdR (v := some (k + 11)) (zDR hd 10 rfl) ?_)
          refine And.intro (zDP hd 11 rfl rfl (by omega) (by omega)) (fun v93 e93 r93 => ?_)
          have f93 : v93 = I1 (k + 11) p := (e93.trans (congrArg (I1 (k + 11)) (show _ = p by omega)))
          have f93b : 0 ≤ v93 ∧ v93 ≤ 59 := (by have z := zLw_b hLw (show p < n by omega); omega)
          refine And.intro (zDX hd 0 rfl) (zrdR (v := some (k + 11)) (zDR hd 10 rfl) ?_)
          refine And.intro (zDP hd 11 rfl rfl (by omega) (by omega)) (fun v99 e99 r99 => ?_)
          have f99 : v99 = I1 (k + 11) q := (e99.trans (congrArg (I1 (k + 11)) (show _ = q by omega)))
          have f99b : 0 ≤ v99 ∧ v99 ≤ 59 := (by have z := zLw_b hLw (show q < n by omega); omega)
          refine And.intro ⟨r93, r99⟩ ⟨fun h100 => ?_, fun h100 => ?_⟩
          · refine And.intro (zDX hd 0 rfl) (zrdR (v := some (k + 11)) (zDR hd 10 rfl) ?_)
            refine And.intro (zDP hd 11 rfl rfl (by omega) (by omega)) (fun v117 e117 r117 => ?_)
            have f117 : v117 = I1 (k + 11) q := (e117.trans (congrArg (I1 (k + 11)) (show _ = q by omega)))
            have f117b : 0 ≤ v117 ∧ v117 ≤ 59 := (by have z := zLw_b hLw (show q < n by omega); omega)
            refine And.intro (zDX hd 0 rfl) (zrdR (v := some (k + 11)) (zDR hd 10 rfl) ?_)
            refine And.intro ⟨(by show 40 ≤ _; omega), (zDP hd 11 rfl rfl (by omega) (by omega))⟩ ⟨_, (zWi r117), ?_⟩
            refine And.intro (zDX hd 0 rfl) (zrdR (v := some (k + 11)) (zDR hd 10 rfl) ?_)
            refine And.intro ⟨(by show 40 ≤ _; omega), (zDP hd 11 rfl rfl (by omega) (by omega))⟩ ⟨_, (zWi r117), ?_⟩
            refine ⟨((2 * S0 + 1), (61 - p), (61 - (q + 1))), zlt6 (by omega), [some (zvr (k)), some (zvi ((1 : Int))), some (zvi (p)), some (zvi ((q + 1))), none], ⟨rfl, rfl, rfl, rfl, rfl⟩, 1, S0, p, (q + 1), rfl, rfl, rfl, rfl, rfl, rfl, (by first | exact hu | (clear hQ; grind [xu])), (by omega), ?_, ?_, ?_, (fun c j h0 => (zxu h0 (zxu h0 ((fr c j h0).trans rfl))))⟩
            · first
              | exact hS1
              | (right
                 refine ⟨rfl, ?_⟩
                 refine Nat.lt_of_lt_of_le (zSm_u (f := I1 (k + 11)) (n := n) (a := p) (b := q) (v := min (I1 (k + 11) p) (I1 (k + 11) q)) hp.1 (show q < n by omega) rfl (by omega) (by omega) ?_) (show zSm n (I1 (k + 11)) ≤ S0 by omega)
                 intro c hc
                 by_cases q1 : c = q
                 · rw [if_pos (Or.inr q1)]
                   exact (zxe' (by omega)).trans (by omega)
                 · by_cases q2 : c = p
                   · rw [if_pos (Or.inl q2)]
                     exact (zxs (by omega) (zxe' (by omega))).trans (by omega)
                   · rw [if_neg (by omega)]
                     exact zxs (by omega) (zxs (by omega) rfl))
            · first
              | exact hLw
              | (refine zLw_u (v := min (I1 (k + 11) p) (I1 (k + 11) q)) hLw hp.1 (show q < p by omega) (by unfold cuEE; rw [← hn]; exact cuEa_j (show q < p by omega) hp.1 (cuTT_s.mp (by rcases p79hv with z | z; exact z.2; (exfalso; omega)))) rfl ?_
                 intro c hc
                 by_cases q1 : c = q
                 · rw [if_pos (Or.inr q1)]
                   exact (zxe' (by omega)).trans (by omega)
                 · by_cases q2 : c = p
                   · rw [if_pos (Or.inl q2)]
                     exact (zxs (by omega) (zxe' (by omega))).trans (by omega)
                   · rw [if_neg (by omega)]
                     exact zxs (by omega) (zxs (by omega) rfl))
            · intro h a b h1 h2 h3 h4
              first
              | exact absurd h (by decide)
              | (by_cases e : b = p ∧ a = q
                 · obtain ⟨rfl, rfl⟩ := e
                   first
                   | omega
                   | (exfalso
                      rcases p79hv with z | z
                      · omega
                      · exact z.2 (cuTT_s.mp h4))
                 · exact hall h a b h1 (by omega) h3 h4)
          · refine And.intro (zDX hd 0 rfl) (zrdR (v := some (k + 11)) (zDR hd 10 rfl) ?_)
            refine And.intro (zDP hd 11 rfl rfl (by omega) (by omega)) (fun v108 e108 r108 => ?_)
            have f108 : v108 = I1 (k + 11) p := (e108.trans (congrArg (I1 (k + 11)) (show _ = p by omega)))
            have f108b : 0 ≤ v108 ∧ v108 ≤ 59 := (by have z := zLw_b hLw (show p < n by omega); omega)
            refine And.intro (zDX hd 0 rfl) (zrdR (v := some (k + 11)) (zDR hd 10 rfl) ?_)
            refine And.intro ⟨(by show 40 ≤ _; omega), (zDP hd 11 rfl rfl (by omega) (by omega))⟩ ⟨_, (zWi r108), ?_⟩
            refine And.intro (zDX hd 0 rfl) (zrdR (v := some (k + 11)) (zDR hd 10 rfl) ?_)
            refine And.intro ⟨(by show 40 ≤ _; omega), (zDP hd 11 rfl rfl (by omega) (by omega))⟩ ⟨_, (zWi r108), ?_⟩
            refine ⟨((2 * S0 + 1), (61 - p), (61 - (q + 1))), zlt6 (by omega), [some (zvr (k)), some (zvi ((1 : Int))), some (zvi (p)), some (zvi ((q + 1))), none], ⟨rfl, rfl, rfl, rfl, rfl⟩, 1, S0, p, (q + 1), rfl, rfl, rfl, rfl, rfl, rfl, (by first | exact hu | (clear hQ; grind [xu])), (by omega), ?_, ?_, ?_, (fun c j h0 => (zxu h0 (zxu h0 ((fr c j h0).trans rfl))))⟩
            · first
              | exact hS1
              | (right
                 refine ⟨rfl, ?_⟩
                 refine Nat.lt_of_lt_of_le (zSm_u (f := I1 (k + 11)) (n := n) (a := p) (b := q) (v := min (I1 (k + 11) p) (I1 (k + 11) q)) hp.1 (show q < n by omega) rfl (by omega) (by omega) ?_) (show zSm n (I1 (k + 11)) ≤ S0 by omega)
                 intro c hc
                 by_cases q1 : c = q
                 · rw [if_pos (Or.inr q1)]
                   exact (zxe' (by omega)).trans (by omega)
                 · by_cases q2 : c = p
                   · rw [if_pos (Or.inl q2)]
                     exact (zxs (by omega) (zxe' (by omega))).trans (by omega)
                   · rw [if_neg (by omega)]
                     exact zxs (by omega) (zxs (by omega) rfl))
            · first
              | exact hLw
              | (refine zLw_u (v := min (I1 (k + 11) p) (I1 (k + 11) q)) hLw hp.1 (show q < p by omega) (by unfold cuEE; rw [← hn]; exact cuEa_j (show q < p by omega) hp.1 (cuTT_s.mp (by rcases p79hv with z | z; exact z.2; (exfalso; omega)))) rfl ?_
                 intro c hc
                 by_cases q1 : c = q
                 · rw [if_pos (Or.inr q1)]
                   exact (zxe' (by omega)).trans (by omega)
                 · by_cases q2 : c = p
                   · rw [if_pos (Or.inl q2)]
                     exact (zxs (by omega) (zxe' (by omega))).trans (by omega)
                   · rw [if_neg (by omega)]
                     exact zxs (by omega) (zxs (by omega) rfl))
            · intro h a b h1 h2 h3 h4
              first
              | exact absurd h (by decide)
              | (by_cases e : b = p ∧ a = q
                 · obtain ⟨rfl, rfl⟩ := e
                   first
                   | omega
                   | (exfalso
                      rcases p79hv with z | z
                      · omega
                      · exact z.2 (cuTT_s.mp h4))
                 · exact hall h a b h1 (by omega) h3 h4)
        · refine ⟨((2 * S0 + 1), (61 - p), (61 - (q + 1))), zlt6 (by omega), [some (zvr (k)), some (zvi (u)), some (zvi (p)), some (zvi ((q + 1))), none], ⟨rfl, rfl, rfl, rfl, rfl⟩, u, S0, p, (q + 1), rfl, rfl, rfl, rfl, rfl, rfl, (by first | exact hu | (clear hQ; grind [xu])), (by omega), ?_, ?_, ?_, (fun c j h0 => ((fr c j h0).trans rfl))⟩
          · first
            | exact hS1
            | (right
               refine ⟨rfl, ?_⟩
               refine Nat.lt_of_lt_of_le (zSm_u (f := I1 (k + 11)) (n := n) (a := p) (b := q) (v := min (I1 (k + 11) p) (I1 (k + 11) q)) hp.1 (show q < n by omega) rfl (by omega) (by omega) ?_) (show zSm n (I1 (k + 11)) ≤ S0 by omega)
               intro c hc
               by_cases q1 : c = q
               · rw [if_pos (Or.inr q1)]
                 exact (zxe' (by omega)).trans (by omega)
               · by_cases q2 : c = p
                 · rw [if_pos (Or.inl q2)]
                   exact (zxs (by omega) (zxe' (by omega))).trans (by omega)
                 · rw [if_neg (by omega)]
                   exact zxs (by omega) (zxs (by omega) rfl))
          · first
            | exact hLw
            | (refine zLw_u (v := min (I1 (k + 11) p) (I1 (k + 11) q)) hLw hp.1 (show q < p by omega) (by unfold cuEE; rw [← hn]; exact cuEa_j (show q < p by omega) hp.1 (cuTT_s.mp (by rcases p79hv with z | z; exact z.2; (exfalso; omega)))) rfl ?_
               intro c hc
               by_cases q1 : c = q
               · rw [if_pos (Or.inr q1)]
                 exact (zxe' (by omega)).trans (by omega)
               · by_cases q2 : c = p
                 · rw [if_pos (Or.inl q2)]
                   exact (zxs (by omega) (zxe' (by omega))).trans (by omega)
                 · rw [if_neg (by omega)]
                   exact zxs (by omega) (zxs (by omega) rfl))
          · intro h a b h1 h2 h3 h4
            first
            | exact absurd h (by decide)
            | (by_cases e : b = p ∧ a = q
               · obtain ⟨rfl, rfl⟩ := e
                 first
                 | omega
                 | (exfalso
                    rcases p79hv with z | z
                    · omega
                    · exact z.2 (cuTT_s.mp h4))
               · exact hall h a b h1 (by omega) h3 h4))
