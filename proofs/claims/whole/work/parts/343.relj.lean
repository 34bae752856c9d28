/-! relj -/
def T_B_close : ZT := fun args I L R S Q => ∃ (m : Nat) (cn : Nat) (c : Nat) (t : Nat → Nat → Int) (n : Nat → Nat) (tt : Nat → Int), args = [zvr 280] ∧ (zSh S) ∧ (zRs R) ∧ (zRB cn t n I) ∧ (zRC cn t n I) ∧ (zRF tt m c I) ∧ (1 ≤ m ∧ m ≤ 512 ∧ cn < 10 ∧ c = rW m 0) ∧ (∀ j : Nat, j < m → 0 ≤ tt j ∧ tt j ≤ 255) ∧ ∀ (I' : ZI), (I' 280 0 = 0) → (zRB (cn + 1) (upF t cn tt) (upF n cn m) I') → (zRC (cn + 1) (upF t cn tt) (upF n cn m) I') → (I' 287 10 = 0) → (∀ c j : Nat, ¬ c = 282 → ¬ c = 283 → ¬ c = 284 → ¬ c = 285 → ¬ c = 286 → ¬ (c = 288 ∧ 8 * cn ≤ j ∧ j < 8 * cn + 8) → ¬ (c = 289 ∧ 8 * cn ≤ j ∧ j < 8 * cn + 8) → ¬ (c = 290 ∧ 512 * cn ≤ j ∧ j < 512 * cn + 512) → ¬ (c = 291 ∧ 256 * cn ≤ j ∧ j < 256 * cn + 256) → ¬ (c = 280 ∧ j = 0) → ¬ (c = 280 ∧ j = 2) → ¬ c = 287 → ¬ (c = 280 ∧ j = 8) → ¬ (c = 280 ∧ j = 15) → ¬ c = 293 → ¬ (c = 292 ∧ 32 * cn ≤ j ∧ j < 32 * cn + 32) → I' c j = I c j) → Q (some (zvi (cn))) I' L R S
theorem sn_B_close : ZSnd 5 19 7 T_B_close := ZSnd.loops (zT19_7 4) (by
  rintro args I L R S Q hz ⟨m, cn, c, t, n, tt, rfl, hS, hR, hRB, hRC, hF, h0, ht, hQ⟩
  obtain ⟨hc, hcn, hz, hK, hr⟩ := id hRB
  obtain ⟨hc2, hn, hb⟩ := id hF
  have hw0 : rW m 0 = (m + 63) / 64 := rfl
  have hwu : ∀ l, rW m (l + 1) = (rW m l + 1) / 2 := fun _ => rfl
  have hou : ∀ l, rO m (l + 1) = rO m l + rW m l := fun _ => rfl
  have hcl : ∀ k, ckL m k ≤ 64 ∧ ckL m k = min 64 (m - 64 * k) := fun k => by unfold ckL; omega
  refine ⟨[25, 87, 135, 210, 238], fun nM tM lsM stM I1 L1 R1 S1 => match tM with
      | 25 => ∃ (q : Nat), nM = ((c - q), 3, 0) ∧ lsM = [some (zvr (280)), some (zvi (cn)), some (zvi (q - 1)), some (zvi (q)), none, none, none] ∧ stM = [] ∧ L1 = L ∧ R1 = R ∧ S1 = S ∧ (q ≤ c) ∧ (I1 280 2 = 0) ∧ (I1 280 0 = 0) ∧ (zcA tt m cn q I1) ∧ (zcD tt m cn q I1) ∧ (∀ c j : Nat, ¬ c = 282 → ¬ c = 283 → ¬ c = 284 → ¬ c = 285 → ¬ c = 286 → ¬ (c = 288 ∧ 8 * cn ≤ j ∧ j < 8 * cn + 8) → ¬ (c = 289 ∧ 8 * cn ≤ j ∧ j < 8 * cn + 8) → ¬ (c = 290 ∧ 512 * cn ≤ j ∧ j < 512 * cn + 512) → ¬ (c = 291 ∧ 256 * cn ≤ j ∧ j < 256 * cn + 256) → ¬ (c = 280 ∧ j = 0) → ¬ (c = 280 ∧ j = 2) → I1 c j = I c j)
      | 87 => ∃ (q : Nat) (x : Int), nM = ((c - q), 2, (64 - x).toNat) ∧ lsM = [some (zvr (280)), some (zvi (cn)), some (zvi (q)), some (zvi (q)), some (zvi (80 + q)), some (zvi (8 * cn + q)), some (zvi (x))] ∧ stM = [] ∧ L1 = L ∧ R1 = R ∧ S1 = S ∧ (q < c) ∧ (0 ≤ x ∧ x ≤ 64) ∧ (I1 280 2 = 0) ∧ (I1 280 0 = 0) ∧ (zcA tt m cn q I1) ∧ (zcD tt m cn q I1) ∧ (I1 288 (8 * cn + q) = q) ∧ (I1 289 (8 * cn + q) = ckL m q) ∧ (∀ j : Nat, (j : Int) < x → I1 290 (512 * cn + 64 * q + j) = I 290 (5120 + 64 * q + j)) ∧ (∀ c j : Nat, ¬ c = 282 → ¬ c = 283 → ¬ c = 284 → ¬ c = 285 → ¬ c = 286 → ¬ (c = 288 ∧ 8 * cn ≤ j ∧ j < 8 * cn + 8) → ¬ (c = 289 ∧ 8 * cn ≤ j ∧ j < 8 * cn + 8) → ¬ (c = 290 ∧ 512 * cn ≤ j ∧ j < 512 * cn + 512) → ¬ (c = 291 ∧ 256 * cn ≤ j ∧ j < 256 * cn + 256) → ¬ (c = 280 ∧ j = 0) → ¬ (c = 280 ∧ j = 2) → I1 c j = I c j)
      | 135 => ∃ (q : Nat) (x : Int), nM = ((c - q), 1, (32 - x).toNat) ∧ lsM = [some (zvr (280)), some (zvi (cn)), some (zvi (q)), some (zvi (q)), none, some (zvi (8 * cn + q)), some (zvi (x))] ∧ stM = [] ∧ L1 = L ∧ R1 = R ∧ S1 = S ∧ (q < c) ∧ (0 ≤ x ∧ x ≤ 32) ∧ (I1 280 2 = 0) ∧ (I1 280 0 = 0) ∧ (zcA tt m cn (q + 1) I1) ∧ (zcD tt m cn q I1) ∧ (∀ i : Nat, i < 32 → I1 286 i = rD tt m 0 q i) ∧ (∀ j : Nat, (j : Int) < x → I1 291 (256 * cn + 32 * q + j) = rD tt m 0 q j) ∧ (∀ c j : Nat, ¬ c = 282 → ¬ c = 283 → ¬ c = 284 → ¬ c = 285 → ¬ c = 286 → ¬ (c = 288 ∧ 8 * cn ≤ j ∧ j < 8 * cn + 8) → ¬ (c = 289 ∧ 8 * cn ≤ j ∧ j < 8 * cn + 8) → ¬ (c = 290 ∧ 512 * cn ≤ j ∧ j < 512 * cn + 512) → ¬ (c = 291 ∧ 256 * cn ≤ j ∧ j < 256 * cn + 256) → ¬ (c = 280 ∧ j = 0) → ¬ (c = 280 ∧ j = 2) → I1 c j = I c j)
      | 210 => ∃ (l : Nat), nM = (0, 1, (rW m l)) ∧ lsM = [some (zvr (280)), some (zvi (cn)), none, none, none, none, none] ∧ stM = [] ∧ L1 = L ∧ R1 = R ∧ S1 = S ∧ ((l = 0 ∧ rW m l ≤ 8 ∧ rO m l = 0) ∨ (l = 1 ∧ rW m l ≤ 4 ∧ rO m l ≤ 8) ∨ (l = 2 ∧ rW m l ≤ 2 ∧ rO m l ≤ 12) ∨ (l = 3 ∧ rW m l ≤ 1 ∧ rO m l ≤ 14)) ∧ (1 ≤ rW m l) ∧ (∀ k : Nat, k < l → 1 < rW m k) ∧ (I1 280 2 = 0) ∧ (I1 280 0 = 0) ∧ (I1 280 15 = rW m l) ∧ (I1 280 8 = cn + 1) ∧ (I1 287 10 = 0) ∧ (∀ j : Nat, j = cn → I1 287 j = rW m 0) ∧ (zcA tt m cn c I1) ∧ (zcD tt m cn c I1) ∧ (∀ q x : Nat, q < rW m l → x < 32 → I1 293 (32 * q + x) = rD tt m l q x) ∧ (∀ j : Nat, j < cn → I1 287 j = I 287 j) ∧ (∀ c j : Nat, ¬ c = 282 → ¬ c = 283 → ¬ c = 284 → ¬ c = 285 → ¬ c = 286 → ¬ (c = 288 ∧ 8 * cn ≤ j ∧ j < 8 * cn + 8) → ¬ (c = 289 ∧ 8 * cn ≤ j ∧ j < 8 * cn + 8) → ¬ (c = 290 ∧ 512 * cn ≤ j ∧ j < 512 * cn + 512) → ¬ (c = 291 ∧ 256 * cn ≤ j ∧ j < 256 * cn + 256) → ¬ (c = 280 ∧ j = 0) → ¬ (c = 280 ∧ j = 2) → ¬ c = 287 → ¬ (c = 280 ∧ j = 8) → ¬ (c = 280 ∧ j = 15) → ¬ c = 293 → ¬ (c = 292 ∧ 32 * cn ≤ j ∧ j < 32 * cn + 32) → I1 c j = I c j)
      | 238 => ∃ (x : Int), nM = (0, 0, (32 - x).toNat) ∧ lsM = [some (zvr (280)), some (zvi (cn)), none, some (zvi (x)), none, none, none] ∧ stM = [] ∧ L1 = L ∧ R1 = R ∧ S1 = S ∧ (0 ≤ x ∧ x ≤ 32) ∧ (I1 280 2 = 0) ∧ (I1 280 0 = 0) ∧ (I1 280 15 = 1) ∧ (I1 280 8 = cn + 1) ∧ (I1 287 10 = 0) ∧ (∀ j : Nat, j = cn → I1 287 j = rW m 0) ∧ (zcA tt m cn c I1) ∧ (zcD tt m cn c I1) ∧ (∀ x : Nat, x < 32 → I1 293 x = rD tt m (rT m) 0 x) ∧ (∀ j : Nat, (j : Int) < x → I1 292 (32 * cn + j) = rD tt m (rT m) 0 j) ∧ (∀ j : Nat, j < cn → I1 287 j = I 287 j) ∧ (∀ c j : Nat, ¬ c = 282 → ¬ c = 283 → ¬ c = 284 → ¬ c = 285 → ¬ c = 286 → ¬ (c = 288 ∧ 8 * cn ≤ j ∧ j < 8 * cn + 8) → ¬ (c = 289 ∧ 8 * cn ≤ j ∧ j < 8 * cn + 8) → ¬ (c = 290 ∧ 512 * cn ≤ j ∧ j < 512 * cn + 512) → ¬ (c = 291 ∧ 256 * cn ≤ j ∧ j < 256 * cn + 256) → ¬ (c = 280 ∧ j = 0) → ¬ (c = 280 ∧ j = 2) → ¬ c = 287 → ¬ (c = 280 ∧ j = 8) → ¬ (c = 280 ∧ j = 15) → ¬ c = 293 → ¬ (c = 292 ∧ 32 * cn ≤ j ∧ j < 32 * cn + 32) → I1 c j = I c j)
      | _ => False, rfl, ?_, ⟨?_, ?_, ?_, ?_, ?_, True.intro⟩⟩
  · refine And.intro (zA_280 hS) ⟨_, (zWi (zRb rfl)), ?_⟩
    refine And.intro (zA_280 hS) (zrd (v := cn) hc ?_)
    refine And.intro ⟨(by omega), (zRb rfl)⟩ ⟨fun h11 => ?_, (fun h11 => False.elim (by omega))⟩
    refine And.intro (zA_280 hS) (zrd (v := cn) hc ?_)
    refine ⟨((c - (0 : Nat)), 3, 0), [some (zvr (280)), some (zvi (cn)), some (zvi ((0 : Nat) - 1)), some (zvi ((0 : Nat))), none, none, none], ⟨rfl, rfl, (congrArg (fun z => some (zvi z)) (by omega)), rfl, rfl⟩, 0, rfl, rfl, rfl, rfl, rfl, rfl, (by omega), hz, rfl, (fun k h => absurd h (Nat.not_lt_zero k)), (fun k i h _ => absurd h (Nat.not_lt_zero k)), (fun c j h0 h1 h2 h3 h4 h5 h6 h7 h8 h9 h10 => (zxcj h9 rfl))⟩
  · rintro nM lsM stM I1 L1 R1 S1 hz1 ⟨q, rfl, rfl, rfl, rfl, rfl, rfl, hq, hz1, ht1, hA, hD, fr⟩
    refine And.intro (zA_280 hS) (zrdR (v := some 287) (zR_280_9 hR) ?_)
    refine And.intro (zP_287 hS (by omega) (by omega)) (zrd (v := c) ((fr 287 10 (by omega) (by omega) (by omega) (by omega) (by omega) (by omega) (by omega) (by omega) (by omega) (by omega) (by omega)).trans hc2) ?_)
    refine And.intro ⟨(by omega), (by omega)⟩ ⟨fun h33 => ?_, fun h33 => ?_⟩
    · refine And.intro (zA_280 hS) (zrdR (v := some 287) (zR_280_9 hR) ?_)
      refine And.intro (zA_280 hS) (zrdR (v := some 287) (zR_280_9 hR) ?_)
      refine And.intro (zP_287 hS (by omega) (by omega)) (zrd (v := c) ((fr 287 10 (by omega) (by omega) (by omega) (by omega) (by omega) (by omega) (by omega) (by omega) (by omega) (by omega) (by omega)).trans hc2) ?_)
      refine And.intro ⟨(zx0 rfl), (zP_287 hS (by omega) (by omega))⟩ ⟨_, (zWi (by omega)), ?_⟩
      refine And.intro (zA_280 hS) (zrdR (v := some 287) (zR_280_9 hR) ?_)
      refine And.intro ⟨(zx0 rfl), (zP_287 hS (by omega) (by omega))⟩ ⟨_, (zWi (zRb rfl)), ?_⟩
      refine And.intro (zA_280 hS) (zrd (v := cn) ((fr 280 8 (by omega) (by omega) (by omega) (by omega) (by omega) (by omega) (by omega) (by omega) (by omega) (by omega) (by omega)).trans hc) ?_)
      refine And.intro (zA_280 hS) ⟨_, (zWi (by omega)), ?_⟩
      refine And.intro (zA_280 hS) ⟨_, sn_B_lay.up (by decide), ?_⟩
      refine ⟨(cn : Int), c, (rD tt m 0), rfl, hS, hR, (by omega), (zxu (by decide) (zxs (by omega) zxe)), (by omega), (fun k i a1 a2 => hD k i (by omega) a2), ?_⟩
      intro I207o p207hw2 p207bhd2 p207bbfr
      refine ⟨(0, 1, (rW m (0 : Nat))), zlt6 (by omega), [some (zvr (280)), some (zvi (cn)), none, none, none, none, none], ⟨rfl, rfl, rfl⟩, 0, rfl, rfl, rfl, rfl, rfl, rfl, (Or.inl ⟨rfl, by omega, rfl⟩), (by omega), (fun k h => absurd h (Nat.not_lt_zero k)), ((p207bbfr 280 2 (by omega) (by omega)).trans hz1), ((p207bbfr 280 0 (by omega) (by omega)).trans ht1), (Eq.trans (b := (c : Int)) p207hw2 (by omega)), (Eq.trans (b := ((cn + 1) : Int)) ((p207bbfr 280 8 (by omega) (by omega)).trans rfl) (by omega)), ((p207bbfr 287 10 (by omega) (by omega)).trans rfl), (fun j h => (p207bbfr 287 j (by omega) (by omega)).trans (zxu (by decide) (zxs (by omega) (by subst h; exact zxe.trans (by omega))))), (by obtain rfl : q = c := (by omega); exact (zcA_fr hA (fun x j h => (p207bbfr x j (by omega) (by omega)).trans (zxcj (by omega) (zxcj (by omega) (zxcj (by omega) rfl)))))), (by obtain rfl : q = c := (by omega); exact (zcD_fr hD (fun x j h => (p207bbfr x j (by omega) (by omega)).trans (zxcj (by omega) (zxcj (by omega) (zxcj (by omega) rfl)))))), (fun a b h1 h2 => p207bhd2 a b (by omega) h2), (fun j h => (p207bbfr 287 j (by omega) (by omega)).trans (zxu (by decide) (zxs (by omega) (zxs (by omega) (fr 287 j (by omega) (by omega) (by omega) (by omega) (by omega) (by omega) (by omega) (by omega) (by omega) (by omega) (by omega)))))), (fun c j h0 h1 h2 h3 h4 h5 h6 h7 h8 h9 h10 h11 h12 h13 h14 h15 => ((p207bbfr c j (by omega) (by omega)).trans (zxcj h12 (zxu h11 (zxu h11 ((fr c j (by omega) (by omega) (by omega) (by omega) (by omega) (by omega) (by omega) (by omega) (by omega) (by omega) (by omega)).trans rfl))))))⟩
    · refine And.intro (zA_280 hS) ⟨_, sn_B_next.up (by decide), ?_⟩
      refine ⟨((q - 1) : Int), c, q, rfl, hS, hR, (by omega), ((fr 287 10 (by omega) (by omega) (by omega) (by omega) (by omega) (by omega) (by omega) (by omega) (by omega) (by omega) (by omega)).trans hc2), (by omega), (fun f h => (fr 288 _ (by omega) (by omega) (by omega) (by omega) (by omega) (by omega) (by omega) (by omega) (by omega) (by omega) (by omega)).trans (hn f h).1), ?_⟩
      intro v40o p40hv
      refine And.intro (zA_280 hS) (zrdR (v := some 288) (zR_280_10 hR) ?_)
      refine And.intro (zP_288 hS (by omega) (by omega)) (fun v60 e60 r60 => ?_)
      have f60 : v60 = q := (e60.trans ((congrArg (I1 288) (by omega)).trans ((fr 288 _ (by omega) (by omega) (by omega) (by omega) (by omega) (by omega) (by omega) (by omega) (by omega) (by omega) (by omega)).trans (hn q (by omega)).1)))
      refine And.intro (zA_280 hS) (zrdR (v := some 288) (zR_280_10 hR) ?_)
      refine And.intro ⟨(zx0 rfl), (zP_288 hS (by omega) (by omega))⟩ ⟨_, (zWi r60), ?_⟩
      refine And.intro (zA_280 hS) (zrdR (v := some 289) (zR_280_11 hR) ?_)
      refine And.intro (zA_280 hS) (zrdR (v := some 289) (zR_280_11 hR) ?_)
      refine And.intro (zP_289 hS (by omega) (by omega)) (fun v82 e82 r82 => ?_)
      have f82 : v82 = ckL m q := (e82.trans ((congrArg (I1 289) (by omega)).trans ((fr 289 _ (by omega) (by omega) (by omega) (by omega) (by omega) (by omega) (by omega) (by omega) (by omega) (by omega) (by omega)).trans (hn q (by omega)).2)))
      refine And.intro ⟨(zx0 rfl), (zP_289 hS (by omega) (by omega))⟩ ⟨_, (zWi r82), ?_⟩
      refine ⟨((c - q), 2, (64 - (0 : Int)).toNat), zlt6 (by omega), [some (zvr (280)), some (zvi (cn)), some (zvi (q)), some (zvi (q)), some (zvi (80 + q)), some (zvi (8 * cn + q)), some (zvi ((0 : Int)))], ⟨rfl, rfl, (congrArg (fun z => some (zvi z)) (by omega)), rfl, (congrArg (fun z => some (zvi z)) (by omega)), (congrArg (fun z => some (zvi z)) (by omega)), rfl, rfl⟩, q, 0, rfl, rfl, rfl, rfl, rfl, rfl, (by omega), (by omega), hz1, ht1, (by first | exact (zcA_fr hA (fun c j h => (zxcj (by omega) (zxcj (by omega) rfl)))) | (clear hQ; grind [xu])), (by first | exact (zcD_fr hD (fun c j h => (zxcj (by omega) (zxcj (by omega) rfl)))) | (clear hQ; grind [xu])), (by rw [show 8 * cn + q = (8 * (cn : Int) + q).toNat by omega]; exact zxu (by decide) (zxe.trans f60)), (by rw [show 8 * cn + q = (8 * (cn : Int) + q).toNat by omega]; exact zxe.trans f82), (fun j h => absurd h (by omega)), (fun c j h0 h1 h2 h3 h4 h5 h6 h7 h8 h9 h10 => (zxcj (by omega) (zxcj (by omega) ((fr c j (by omega) (by omega) (by omega) (by omega) (by omega) (by omega) (by omega) (by omega) (by omega) (by omega) (by omega)).trans rfl))))⟩
  · rintro nM lsM stM I1 L1 R1 S1 hz1 ⟨q, x, rfl, rfl, rfl, rfl, rfl, rfl, hq, hx, hz1, ht1, hA, hD, hn1, hl1, hb1, fr⟩
    refine And.intro ⟨(by omega), (zRb rfl)⟩ ⟨fun h91 => ?_, fun h91 => ?_⟩
    · refine And.intro (zA_280 hS) ⟨_, sn_B_leaf.up (by decide), ?_⟩
      refine ⟨((8 * cn + q) : Int), q, m, tt, rfl, hS, hR, (fun j hj => (fr 281 _ (by omega) (by omega) (by omega) (by omega) (by omega) (by omega) (by omega) (by omega) (by omega) (by omega) (by omega)).trans (hK j hj)), hz1, (by omega), (by omega), ((congrArg (I1 288) (by omega)).trans hn1), ((congrArg (I1 289) (by omega)).trans hl1), (fun j hj => ((congrArg (I1 290) (by omega)).trans (hb1 j (by have := hcl q; omega))).trans ((congrArg (I 290) (by omega)).trans (hb (64 * q + j) (by have := hcl q; omega)))), ?_⟩
      intro I129o p129hz2 p129bhd2 p129bbfr
      refine ⟨((c - q), 1, (32 - (0 : Int)).toNat), zlt6 (by omega), [some (zvr (280)), some (zvi (cn)), some (zvi (q)), some (zvi (q)), none, some (zvi (8 * cn + q)), some (zvi ((0 : Int)))], ⟨rfl, rfl, rfl, rfl, rfl, rfl, rfl⟩, q, 0, rfl, rfl, rfl, rfl, rfl, rfl, (by omega), (by omega), p129hz2, ((p129bbfr 280 0 (by omega) (by omega) (by omega) (by omega) (by omega) (by omega)).trans ht1), ?_, (by first | exact (zcD_fr hD (fun c j h => ((p129bbfr c j (by omega) (by omega) (by omega) (by omega) (by omega) (by omega)).trans rfl))) | (clear hQ; grind [xu])), p129bhd2, (fun j h => absurd h (by omega)), (fun c j h0 h1 h2 h3 h4 h5 h6 h7 h8 h9 h10 => ((p129bbfr c j (by omega) (by omega) (by omega) (by omega) (by omega) (by omega)).trans ((fr c j (by omega) (by omega) (by omega) (by omega) (by omega) (by omega) (by omega) (by omega) (by omega) (by omega) (by omega)).trans rfl)))⟩
      · intro k hk
        by_cases h : k = q
        · subst h
          exact ⟨(p129bbfr 288 _ (by omega) (by omega) (by omega) (by omega) (by omega) (by omega)).trans hn1, (p129bbfr 289 _ (by omega) (by omega) (by omega) (by omega) (by omega) (by omega)).trans hl1, fun j hj => (p129bbfr 290 _ (by omega) (by omega) (by omega) (by omega) (by omega) (by omega)).trans ((hb1 j (by have := hcl k; omega)).trans ((congrArg (I 290) (by omega)).trans (hb (64 * k + j) (by have := hcl k; omega))))⟩
        · exact (zcA_fr hA (fun x j h => p129bbfr x j (by omega) (by omega) (by omega) (by omega) (by omega) (by omega))) k (by omega)
    · refine And.intro (zA_280 hS) (zrdR (v := some 290) (zR_280_12 hR) ?_)
      refine And.intro (zA_280 hS) (zrdR (v := some 290) (zR_280_12 hR) ?_)
      refine And.intro (zP_290 hS (by omega) (by omega)) (fun v118 e118 r118 => ?_)
      refine And.intro ⟨(zx0 rfl), (zP_290 hS (by omega) (by omega))⟩ ⟨_, (zWi r118), ?_⟩
      refine ⟨((c - q), 2, (64 - (x + 1)).toNat), zlt6 (by omega), [some (zvr (280)), some (zvi (cn)), some (zvi (q)), some (zvi (q)), some (zvi (80 + q)), some (zvi (8 * cn + q)), some (zvi ((x + 1)))], ⟨rfl, rfl, rfl, rfl, rfl, rfl, rfl, rfl⟩, q, (x + 1), rfl, rfl, rfl, rfl, rfl, rfl, (by omega), (by omega), hz1, ht1, (by first | exact (zcA_fr hA (fun c j h => (zxcj (by omega) rfl))) | (clear hQ; grind [xu])), (by first | exact (zcD_fr hD (fun c j h => (zxcj (by omega) rfl))) | (clear hQ; grind [xu])), (by first | exact hn1 | (clear hQ; grind [xu])), (by first | exact hl1 | (clear hQ; grind [xu])), ?_, (fun c j h0 h1 h2 h3 h4 h5 h6 h7 h8 h9 h10 => (zxcj (by omega) ((fr c j (by omega) (by omega) (by omega) (by omega) (by omega) (by omega) (by omega) (by omega) (by omega) (by omega) (by omega)).trans rfl)))⟩
      · intro j hj
        by_cases h : (j : Int) = x
        · rw [show 512 * cn + 64 * q + j = (64 * (8 * (cn : Int) + q) + x).toNat by omega]
          refine zxe.trans (e118.trans ((fr 290 _ (by omega) (by omega) (by omega) (by omega) (by omega) (by omega) (by omega) (by omega) (by omega) (by omega) (by omega)).trans ?_))
          congr 1
          omega
        · exact zxs (by omega) (hb1 j (by omega))
  · rintro nM lsM stM I1 L1 R1 S1 hz1 ⟨q, x, rfl, rfl, rfl, rfl, rfl, rfl, hq, hx, hz1, ht1, hA, hD, hO, hd1, fr⟩
    refine And.intro ⟨(by omega), (zRb rfl)⟩ ⟨fun h139 => ?_, fun h139 => ?_⟩
    · refine ⟨((c - (q + 1)), 3, 0), zlt6 (by omega), [some (zvr (280)), some (zvi (cn)), some (zvi ((q + 1) - 1)), some (zvi ((q + 1))), none, none, none], ⟨rfl, rfl, (congrArg (fun z => some (zvi z)) (by omega)), rfl, rfl⟩, (q + 1), rfl, rfl, rfl, rfl, rfl, rfl, (by omega), hz1, ht1, (by first | exact (zcA_fr hA (fun c j h => rfl)) | (clear hQ; grind [xu])), ?_, (fun c j h0 h1 h2 h3 h4 h5 h6 h7 h8 h9 h10 => ((fr c j (by omega) (by omega) (by omega) (by omega) (by omega) (by omega) (by omega) (by omega) (by omega) (by omega) (by omega)).trans rfl))⟩
      · intro k i h1 h2
        by_cases h : k = q
        · subst h
          exact hd1 i (by omega)
        · exact hD k i (by omega) h2
    · refine And.intro (zA_280 hS) (zrdR (v := some 291) (zR_280_13 hR) ?_)
      refine And.intro (zA_280 hS) (zrdR (v := some 286) (zR_280_7 hR) ?_)
      refine And.intro (zP_286 hS (by omega) (by omega)) (fun v160 e160 r160 => ?_)
      refine And.intro ⟨(zx0 rfl), (zP_291 hS (by omega) (by omega))⟩ ⟨_, (zWi r160), ?_⟩
      refine ⟨((c - q), 1, (32 - (x + 1)).toNat), zlt6 (by omega), [some (zvr (280)), some (zvi (cn)), some (zvi (q)), some (zvi (q)), none, some (zvi (8 * cn + q)), some (zvi ((x + 1)))], ⟨rfl, rfl, rfl, rfl, rfl, rfl, rfl⟩, q, (x + 1), rfl, rfl, rfl, rfl, rfl, rfl, (by omega), (by omega), hz1, ht1, (by first | exact (zcA_fr hA (fun c j h => (zxcj (by omega) rfl))) | (clear hQ; grind [xu])), (by first | exact (zcD_fr hD (fun c j h => (zxcj (by omega) rfl))) | (clear hQ; grind [xu])), (by first | exact hO | exact (fun i h1 => (zxu (by omega) rfl).trans (hO i h1)) | (clear hQ; grind [xu])), ?_, (fun c j h0 h1 h2 h3 h4 h5 h6 h7 h8 h9 h10 => (zxcj (by omega) ((fr c j (by omega) (by omega) (by omega) (by omega) (by omega) (by omega) (by omega) (by omega) (by omega) (by omega) (by omega)).trans rfl)))⟩
      · intro j hj
        by_cases h : (j : Int) = x
        · rw [show 256 * cn + 32 * q + j = (32 * (8 * (cn : Int) + q) + x).toNat by omega]
          refine zxe.trans (e160.trans ?_)
          rw [hO x.toNat (by omega), show j = x.toNat by omega]
        · exact zxs (by omega) (hd1 j (by omega))
  · rintro nM lsM stM I1 L1 R1 S1 hz1 ⟨l, rfl, rfl, rfl, rfl, rfl, rfl, hl, hl9, hu, hz1, ht1, hw1, hn8, hc10, hc9, hA, hD, hd1, hcr, fr⟩
    have hwl := hwu l
    have hol := hou l
    refine And.intro (zA_280 hS) (zrd (v := (rW m l)) hw1 ?_)
    refine And.intro ⟨(by omega), (zRb rfl)⟩ ⟨fun h215 => ?_, fun h215 => ?_⟩
    · refine And.intro (zA_280 hS) (zrd (v := (rW m l)) hw1 ?_)
      refine And.intro (by omega) ⟨fun h229 => ?_, (fun h229 => False.elim (by omega))⟩
      refine ⟨(0, 0, (32 - (0 : Int)).toNat), zlt6 (by omega), [some (zvr (280)), some (zvi (cn)), none, some (zvi ((0 : Int))), none, none, none], ⟨rfl, rfl, rfl, rfl⟩, 0, rfl, rfl, rfl, rfl, rfl, rfl, (by omega), hz1, ht1, (Eq.trans (b := ((rW m l) : Int)) hw1 (by omega)), (Eq.trans (b := ((cn + 1) : Int)) hn8 (by omega)), hc10, (by first | exact hc9 | exact (fun j h1 => rfl.trans (hc9 j h1)) | (clear hQ; grind [xu])), (by first | exact (zcA_fr hA (fun c j h => rfl)) | (clear hQ; grind [xu])), (by first | exact (zcD_fr hD (fun c j h => rfl)) | (clear hQ; grind [xu])), ?_, (fun j h => absurd h (by omega)), (by first | exact hcr | exact (fun j h1 => rfl.trans (hcr j h1)) | (clear hQ; grind [xu])), (fun c j h0 h1 h2 h3 h4 h5 h6 h7 h8 h9 h10 h11 h12 h13 h14 h15 => ((fr c j (by omega) (by omega) (by omega) (by omega) (by omega) (by omega) (by omega) (by omega) (by omega) (by omega) (by omega) (by omega) (by omega) (by omega) (by omega) (by omega)).trans rfl))⟩
      · have e := rT_of (n := m) ⟨by omega, by omega⟩ (l := l) (by omega) hu (by omega)
        intro x hx
        rw [e]
        have w := hd1 0 x (by omega) hx
        rwa [Nat.mul_zero, Nat.zero_add] at w
    · refine And.intro (zA_280 hS) ⟨_, sn_B_goUp.up (by decide), ?_⟩
      refine ⟨l, m, tt, rfl, hS, hR, (fun j hj => (fr 281 j (by omega) (by omega) (by omega) (by omega) (by omega) (by omega) (by omega) (by omega) (by omega) (by omega) (by omega) (by omega) (by omega) (by omega) (by omega) (by omega)).trans (hK j hj)), hz1, (Eq.trans (b := ((rW m l) : Int)) hw1 (by omega)), (by omega), (by omega), hd1, ?_⟩
      intro I219o p219hz2 p219bhw2 p219bbhd2 p219bbbfr
      refine ⟨(0, 1, (rW m (l + 1))), zlt6 (by omega), [some (zvr (280)), some (zvi (cn)), none, none, none, none, none], ⟨rfl, rfl, rfl⟩, (l + 1), rfl, rfl, rfl, rfl, rfl, rfl, (by omega), (by omega), ?_, p219hz2, ((p219bbbfr 280 0 (by omega) (by omega) (by omega) (by omega) (by omega) (by omega) (by omega) (by omega)).trans ht1), (Eq.trans (b := ((rW m (l + 1)) : Int)) p219bhw2 (by omega)), (Eq.trans (b := ((cn + 1) : Int)) ((p219bbbfr 280 8 (by omega) (by omega) (by omega) (by omega) (by omega) (by omega) (by omega) (by omega)).trans hn8) (by omega)), ((p219bbbfr 287 10 (by omega) (by omega) (by omega) (by omega) (by omega) (by omega) (by omega) (by omega)).trans hc10), (by first | exact hc9 | exact (fun j h1 => ((p219bbbfr 287 _ (by omega) (by omega) (by omega) (by omega) (by omega) (by omega) (by omega) (by omega)).trans rfl).trans (hc9 j h1)) | (clear hQ; grind [xu])), (by first | exact (zcA_fr hA (fun c j h => ((p219bbbfr c j (by omega) (by omega) (by omega) (by omega) (by omega) (by omega) (by omega) (by omega)).trans rfl))) | (clear hQ; grind [xu])), (by first | exact (zcD_fr hD (fun c j h => ((p219bbbfr c j (by omega) (by omega) (by omega) (by omega) (by omega) (by omega) (by omega) (by omega)).trans rfl))) | (clear hQ; grind [xu])), p219bbhd2, (by first | exact hcr | exact (fun j h1 => ((p219bbbfr 287 _ (by omega) (by omega) (by omega) (by omega) (by omega) (by omega) (by omega) (by omega)).trans rfl).trans (hcr j h1)) | (clear hQ; grind [xu])), (fun c j h0 h1 h2 h3 h4 h5 h6 h7 h8 h9 h10 h11 h12 h13 h14 h15 => ((p219bbbfr c j (by omega) (by omega) (by omega) (by omega) (by omega) (by omega) (by omega) (by omega)).trans ((fr c j (by omega) (by omega) (by omega) (by omega) (by omega) (by omega) (by omega) (by omega) (by omega) (by omega) (by omega) (by omega) (by omega) (by omega) (by omega) (by omega)).trans rfl)))⟩
      · intro k hk
        by_cases h : k = l
        · rw [h]; omega
        · exact hu k (by omega)
  · rintro nM lsM stM I1 L1 R1 S1 hz1 ⟨x, rfl, rfl, rfl, rfl, rfl, rfl, hx, hz1, ht1, hw1, hn8, hc10, hc9, hA, hD, hd1, hx1, hcr, fr⟩
    refine And.intro ⟨(by omega), (zRb rfl)⟩ ⟨fun h241 => ?_, fun h241 => ?_⟩
    · refine hQ _ ht1 ?_ ?_ hc10 (fun c j h0 h1 h2 h3 h4 h5 h6 h7 h8 h9 h10 h11 h12 h13 h14 h15 => ((fr c j (by omega) (by omega) (by omega) (by omega) (by omega) (by omega) (by omega) (by omega) (by omega) (by omega) (by omega) (by omega) (by omega) (by omega) (by omega) (by omega)).trans rfl))
      · refine ⟨hn8.trans (by omega), by omega, hz1, fun j hj => (fr 281 j (by omega) (by omega) (by omega) (by omega) (by omega) (by omega) (by omega) (by omega) (by omega) (by omega) (by omega) (by omega) (by omega) (by omega) (by omega) (by omega)).trans (hK j hj), fun r hq => ?_⟩
        by_cases h : r = cn
        · subst h
          rw [upF_at, upF_at]
          exact ⟨⟨by omega, by omega, hc9 r rfl⟩, ht, fun k i a1 a2 => hD k i (by omega) a2, fun i a1 => hx1 i (by omega)⟩
        · rw [upF_ne h, upF_ne h]
          obtain ⟨w1, w2, w3, w4⟩ := hr r (by omega)
          have e8 : rW (n r) 0 = (n r + 63) / 64 := rfl
          exact ⟨⟨w1.1, w1.2.1, (hcr r (by omega)).trans w1.2.2⟩, w2, fun k i a1 a2 => (fr 291 _ (by omega) (by omega) (by omega) (by omega) (by omega) (by omega) (by omega) (by omega) (by omega) (by omega) (by omega) (by omega) (by omega) (by omega) (by omega) (by omega)).trans (w3 k i a1 a2), fun i a1 => (fr 292 _ (by omega) (by omega) (by omega) (by omega) (by omega) (by omega) (by omega) (by omega) (by omega) (by omega) (by omega) (by omega) (by omega) (by omega) (by omega) (by omega)).trans (w4 i a1)⟩
      · intro r hq
        by_cases h : r = cn
        · subst h
          rw [upF_at, upF_at, ← h0.2.2.2]
          exact hA
        · rw [upF_ne h, upF_ne h]
          obtain ⟨w1, w2, w3, w4⟩ := hr r (by omega)
          have e8 : rW (n r) 0 = (n r + 63) / 64 := rfl
          exact zcA_fr (hRC r (by omega)) (fun x j h => fr x j (by omega) (by omega) (by omega) (by omega) (by omega) (by omega) (by omega) (by omega) (by omega) (by omega) (by omega) (by omega) (by omega) (by omega) (by omega) (by omega))
    · refine And.intro (zA_280 hS) (zrdR (v := some 292) (zR_280_14 hR) ?_)
      refine And.intro (zA_280 hS) (zrd (v := 1) hw1 ?_)
      refine And.intro (zRb rfl) (zbt rfl ?_)
      refine And.intro (zA_280 hS) (zrdR (v := some 293) (zR_280_16 hR) ?_)
      refine And.intro (zP_293 hS (by omega) (by omega)) (fun v275 e275 r275 => ?_)
      refine And.intro ⟨(zx0 rfl), (zP_292 hS (by omega) (by omega))⟩ ⟨_, (zWi r275), ?_⟩
      refine ⟨(0, 0, (32 - (x + 1)).toNat), zlt6 (by omega), [some (zvr (280)), some (zvi (cn)), none, some (zvi ((x + 1))), none, none, none], ⟨rfl, rfl, rfl, rfl⟩, (x + 1), rfl, rfl, rfl, rfl, rfl, rfl, (by omega), hz1, ht1, hw1, (Eq.trans (b := ((cn + 1) : Int)) hn8 (by omega)), hc10, (by first | exact hc9 | exact (fun j h1 => (zxu (by omega) rfl).trans (hc9 j h1)) | (clear hQ; grind [xu])), (by first | exact (zcA_fr hA (fun c j h => (zxcj (by omega) rfl))) | (clear hQ; grind [xu])), (by first | exact (zcD_fr hD (fun c j h => (zxcj (by omega) rfl))) | (clear hQ; grind [xu])), (by first | exact hd1 | exact (fun x h1 => (zxu (by omega) rfl).trans (hd1 x h1)) | (clear hQ; grind [xu])), ?_, (by first | exact hcr | exact (fun j h1 => (zxu (by omega) rfl).trans (hcr j h1)) | (clear hQ; grind [xu])), (fun c j h0 h1 h2 h3 h4 h5 h6 h7 h8 h9 h10 h11 h12 h13 h14 h15 => (zxcj (by omega) ((fr c j (by omega) (by omega) (by omega) (by omega) (by omega) (by omega) (by omega) (by omega) (by omega) (by omega) (by omega) (by omega) (by omega) (by omega) (by omega) (by omega)).trans rfl)))⟩
      · intro j hj
        by_cases h : (j : Int) = x
        · rw [show 32 * cn + j = (32 * (cn : Int) + x).toNat by omega]
          refine zxe.trans (e275.trans ?_)
          rw [hd1 x.toNat (by omega), show j = x.toNat by omega]
        · exact zxs (by omega) (hx1 j (by omega)))
