/-! tn -/
def T_G_exZ : ZT := fun args I L R S Q => ∃ (n : Nat) (c : Nat → Int) (p : Nat) (u : Int), args = [zvr 234, zvi u] ∧ (zSh S) ∧ (zRs R) ∧ (zTx n c I) ∧ (I 234 16 = p) ∧ (I 234 17 = -1) ∧ (p ≤ 1000) ∧ (c p = u) ∧ ∀ (pl : Int) (I' : ZI), (I' 234 16 = pl) → (pl = p + 1) → (∀ c j : Nat, ¬ (c = 234 ∧ j = 16) → I' c j = I c j) → Q none I' L R S
theorem sn_G_exZ : ZSnd 2 12 16 T_G_exZ := ZSnd.of (zT12_16 1) (by
  rintro args I L R S Q hz ⟨n, c, p, u, rfl, hS, hR, hT, h16, h17, hp, hu, hQ⟩
  obtain ⟨hT1, hT2, hT3⟩ := id hT
  have hn4 := hT2.1
  have hb9 := hT2.2.2 p
  refine And.intro rfl ?_
  refine And.intro (zA_234 hS) (zrd (v := (-1)) h17 ?_)
  refine And.intro ⟨(zRb rfl), (zRb rfl)⟩ (zbt rfl ?_)
  refine And.intro (zA_234 hS) ⟨_, sn_G_pk.up (by decide), ?_⟩
  refine ⟨n, c, p, rfl, hS, hR, (by first | exact (zTx_fr hT (fun c j h => rfl)) | (clear hQ; grind [xu])), h16, (by omega), ?_⟩
  intro v10o p10hv p10bhv2
  refine And.intro ⟨(by omega), (by omega)⟩ ⟨(fun h14 => False.elim (by omega)), fun h14 => ?_⟩
  refine And.intro (zA_234 hS) (zrd (v := p) h16 ?_)
  refine And.intro (zA_234 hS) ⟨_, (zWi (by omega)), ?_⟩
  refine hQ ((p + 1) : Int) _ rfl (by omega) (fun c j h0 => (zxcj h0 rfl)))
def T_G_exM : ZT := fun args I L R S Q => ∃ (n : Nat) (c : Nat → Int) (p : Nat) (u : Int), args = [zvr 234, zvi u] ∧ (zSh S) ∧ (zRs R) ∧ (zTx n c I) ∧ (I 234 16 = p) ∧ (I 234 17 = -1) ∧ (p ≤ 1000) ∧ (¬ c p = u) ∧ (r32 u) ∧ ∀ (wl : Int) (I' : ZI), (I' 234 17 = wl) → (wl = p) → (∀ c j : Nat, ¬ (c = 234 ∧ j = 17) → I' c j = I c j) → Q none I' L R S
theorem sn_G_exM : ZSnd 2 12 16 T_G_exM := ZSnd.of (zT12_16 1) (by
  rintro args I L R S Q hz ⟨n, c, p, u, rfl, hS, hR, hT, h16, h17, hp, hu, hur, hQ⟩
  obtain ⟨hT1, hT2, hT3⟩ := id hT
  have hn4 := hT2.1
  have hb9 := hT2.2.2 p
  refine And.intro rfl ?_
  refine And.intro (zA_234 hS) (zrd (v := (-1)) h17 ?_)
  refine And.intro ⟨(zRb rfl), (zRb rfl)⟩ (zbt rfl ?_)
  refine And.intro (zA_234 hS) ⟨_, sn_G_pk.up (by decide), ?_⟩
  refine ⟨n, c, p, rfl, hS, hR, (by first | exact (zTx_fr hT (fun c j h => rfl)) | (clear hQ; grind [xu])), h16, (by omega), ?_⟩
  intro v10o p10hv p10bhv2
  refine And.intro ⟨(by omega), (by omega)⟩ ⟨fun h14 => ?_, fun h14 => ?_⟩
  · refine And.intro (zA_234 hS) (zrd (v := p) h16 ?_)
    refine And.intro (zA_234 hS) ⟨_, (zWi (by omega)), ?_⟩
    refine hQ (p : Int) _ rfl rfl (fun c j h0 => (zxcj h0 rfl))
  · exact False.elim (by omega))
def T_G_rsv : ZT := fun args I L R S Q => ∃ (g : Nat) (N : Nat) (c : Nat → Int) (a : Nat) (t : Nat) (k : Nat) (n : Nat) (o : List (Int × Nat)) (r : Nat → OrT) (u : Nat → Int) (b : Int), args = [zvr 234, zvi b] ∧ (zSh S) ∧ (zRs R) ∧ (zTx N c I) ∧ (I 234 15 = g) ∧ (g ≤ 1) ∧ (zRd g (1, a, t, k, n, o, r, u) I) ∧ (a ≤ N) ∧ (t ≤ 500 ∧ k ≤ a + 200 ∧ n ≤ 100 ∧ o.length ≤ 2) ∧ (k ≤ a + 198) ∧ (t ≤ 400) ∧ (97 ≤ c a ∧ c a ≤ 122) ∧ (b = a) ∧ ∀ (I' : ZI), (zRd g (rdSi c a t k n o r u) I') → (∀ c j : Nat, ¬ (c = 234 ∧ j = 16) → ¬ (c = 234 ∧ j = 17) → ¬ (c = 234 ∧ j = 18) → ¬ (c = 234 ∧ j = 19) → ¬ (c = 234 ∧ j = 20) → ¬ (c = 234 ∧ j = 21) → ¬ (c = 234 ∧ j = 25) → ¬ (c = 234 ∧ j = 27) → ¬ (c = 238 ∧ 600 * g ≤ j ∧ j < 600 * g + 600) → ¬ (c = 239 ∧ 600 * g ≤ j ∧ j < 600 * g + 600) → ¬ (c = 240 ∧ 600 * g ≤ j ∧ j < 600 * g + 600) → ¬ (c = 241 ∧ 600 * g ≤ j ∧ j < 600 * g + 600) → ¬ (c = 242 ∧ 600 * g ≤ j ∧ j < 600 * g + 600) → ¬ (c = 243 ∧ 600 * g ≤ j ∧ j < 600 * g + 600) → ¬ (c = 244 ∧ 26 * g ≤ j ∧ j < 26 * g + 26) → ¬ (c = 245 ∧ 1000 * g ≤ j ∧ j < 1000 * g + 1000) → ¬ (c = 246 ∧ 1000 * g ≤ j ∧ j < 1000 * g + 1000) → ¬ c = 247 → ¬ c = 248 → ¬ c = 250 → I' c j = I c j) → Q none I' L R S
set_option maxHeartbeats 4000000 in
theorem sn_G_rsv : ZSnd 6 12 44 T_G_rsv := ZSnd.of (zT12_44 5) (by
  rintro args I L R S Q hz ⟨g, N, c, a, t, k, n, o, r, u, b, rfl, hS, hR, hT, h15, hg, hx, ha, hb, hk2, ht4, hu, hbb, hQ⟩
  obtain ⟨hT1, hT2, hT3⟩ := id hT
  have hn4 := hT2.1
  obtain ⟨⟨xa, xw, xt, xk, xn, xd⟩, hOs, hOr, hFu⟩ := zRd_1 hx
  have hb9 := hT2.2.2 a
  have hb8 := hT2.2.2 (a + 1)
  have ha1 : a + 1 ≤ N := eTx_lt hT2 (by omega)
  have hwo := exAt_ok hT2 (r := 3) ha1
  have hwn : (exAt c 3 (a + 1)).2.1 ≤ N := by unfold exOk at hwo; omega
  have hb7 := hT2.2.2 (exAt c 3 (a + 1)).2.1
  have hb6 := hT2.2.2 ((exAt c 3 (a + 1)).2.1 + 1)
  have hb5 := hT2.2.2 ((exAt c 3 (a + 1)).2.1 + 2)
  have hl1 := l1_len (l := (exAt c 3 (a + 1)).2.2)
  have hxo : ∀ q, q ≤ N → (exEx c 3 q).2.1 ≤ N := fun q hq => by have z := exEx_ok hT2 (r := 3) hq; unfold exOk at z; omega
  refine And.intro rfl ?_
  refine And.intro (zA_234 hS) ⟨_, sn_G_pk.up (by decide), ?_⟩
  refine ⟨N, c, a, rfl, hS, hR, (zTx_fr hT (fun c j h => rfl)), xa, (by omega), ?_⟩
  intro v1o p1hv p1bhv2
  have g1 : 97 ≤ v1o ∧ v1o ≤ 122 := (by omega)
  refine And.intro ⟨(by omega), (zRb rfl)⟩ ⟨fun h9 => ?_, (fun h9 => False.elim (by omega))⟩
  refine And.intro ⟨(by omega), (zRb rfl)⟩ ⟨fun h19 => ?_, (fun h19 => False.elim (by omega))⟩
  refine And.intro (zA_234 hS) ⟨_, sn_G_ord.up (by decide), ?_⟩
  refine ⟨g, t, (1 : Int), (b : Int), rfl, hS, hR, h15, (by omega), xt, (by omega), (by omega), (by omega), ?_⟩
  intro I28o p28q0 p28bq1 p28bbq2 p28bbbq3 p28bbbbxt p28bbbbbfr
  refine And.intro (zA_234 hS) (zrd (v := g) ((p28bbbbbfr 234 15 (by omega) (by omega) (by omega) (by omega) (by omega) (by omega) (by omega)).trans h15) ?_)
  refine And.intro (zA_234 hS) (zrd (v := a) ((p28bbbbbfr 234 16 (by omega) (by omega) (by omega) (by omega) (by omega) (by omega) (by omega)).trans xa) ?_)
  refine And.intro (zA_234 hS) ⟨_, (zWi (by omega)), ?_⟩
  refine Exists.intro _ (And.intro (zinl_ok (zT12_29 4)) (And.intro rfl ?_))
  refine And.intro ⟨(by omega), (zRb rfl)⟩ ⟨(fun h3_55 => False.elim (by omega)), fun h3_55 => ?_⟩
  refine And.intro ⟨(by omega), (zRb rfl)⟩ ⟨(fun h9_55 => False.elim (by omega)), fun h9_55 => ?_⟩
  refine And.intro (Or.inr rfl) ?_
  refine And.intro (zRb rfl) (zbf rfl ?_)
  refine And.intro (zA_234 hS) (zrdR (v := some 240) (zR_234_8 hR) ?_)
  refine And.intro ⟨(zx0 rfl), (zP_240 hS (by omega) (by omega))⟩ ⟨_, (zWi (by omega)), ?_⟩
  refine And.intro ⟨(by omega), (zRb rfl)⟩ ⟨fun h90 => ?_, (fun h90 => False.elim (by omega))⟩
  rcases (Decidable.em (c (a + 1) = 61)) with hx61 | hx61
  · refine And.intro (zA_234 hS) ⟨_, sn_G_exZ.up (by decide), ?_⟩
    refine ⟨N, c, (a + 1), (61 : Int), rfl, hS, hR, (zTx_fr hT (fun c j h => (zxcj (by omega) (zxcj (by omega) ((p28bbbbbfr c j (by omega) (by omega) (by omega) (by omega) (by omega) (by omega) (by omega)).trans rfl))))), ((show _ = ((a + 1) : Int) from rfl).trans (by omega)), (Eq.trans (b := ((-1) : Int)) ((p28bbbbbfr 234 17 (by omega) (by omega) (by omega) (by omega) (by omega) (by omega) (by omega)).trans xw) (by omega)), (by omega), (by omega), ?_⟩
    intro pl157o I157o p157h16 p157bhpl p157bbfr
    refine And.intro (zA_234 hS) (zrd (v := (-1)) ((p157bbfr 234 17 (by omega)).trans ((p28bbbbbfr 234 17 (by omega) (by omega) (by omega) (by omega) (by omega) (by omega) (by omega)).trans xw)) ?_)
    refine And.intro ⟨(zRb rfl), (zRb rfl)⟩ (zbt rfl ?_)
    refine And.intro (zA_234 hS) (zrdR (v := some 242) (zR_234_10 hR) ?_)
    refine And.intro (zA_234 hS) ⟨_, sn_G_rc1.up (by decide), ?_⟩
    refine ⟨g, k, N, c, (a + 2), rfl, hS, hR, (zTx_fr hT (fun c j h => ((p157bbfr c j (by omega)).trans (zxcj (by omega) (zxcj (by omega) ((p28bbbbbfr c j (by omega) (by omega) (by omega) (by omega) (by omega) (by omega) (by omega)).trans rfl)))))), ((p157bbfr 234 15 (by omega)).trans ((p28bbbbbfr 234 15 (by omega) (by omega) (by omega) (by omega) (by omega) (by omega) (by omega)).trans h15)), (by omega), ((p157bbfr 234 19 (by omega)).trans ((p28bbbbbfr 234 19 (by omega) (by omega) (by omega) (by omega) (by omega) (by omega) (by omega)).trans xk)), ((show _ = (pl157o : Int) from p157h16).trans (by omega)), (Eq.trans (b := ((-1) : Int)) ((p157bbfr 234 17 (by omega)).trans ((p28bbbbbfr 234 17 (by omega) (by omega) (by omega) (by omega) (by omega) (by omega) (by omega)).trans xw)) (by omega)), (eTx_lt hT2 (by omega)), (by first | omega | (have z8 := hra.2.2.2.2.2; omega)), ?_⟩
    intro v177o I177o p177hv p177bhR p177bbfr
    have g177 : (exEx c 3 (a + 2)).2.1 ≤ N := (hxo _ (eTx_lt hT2 (by omega)))
    rcases p177bhR with hrc | hrc
    · refine And.intro ⟨(zx0 rfl), (zP_242 hS (by omega) (by omega))⟩ ⟨_, (zWi (by omega)), ?_⟩
      rcases (Decidable.em (c (exEx c 3 (a + 2)).2.1 = 59)) with hx59 | hx59
      · refine And.intro (zA_234 hS) ⟨_, sn_G_exZ.up (by decide), ?_⟩
        refine ⟨N, c, (exEx c 3 (a + 2)).2.1, (59 : Int), rfl, hS, hR, (zTx_fr hT (fun c j h => (zxcj (by omega) ((p177bbfr c j (by omega) (by omega) (by omega) (by omega) (by omega) (by omega) (by omega) (by omega)).trans ((p157bbfr c j (by omega)).trans (zxcj (by omega) (zxcj (by omega) ((p28bbbbbfr c j (by omega) (by omega) (by omega) (by omega) (by omega) (by omega) (by omega)).trans rfl)))))))), (((zxu (by omega) rfl).trans hrc.2.1).trans (by omega)), (Eq.trans (b := ((-1) : Int)) hrc.2.2.1 (by omega)), (by omega), (by omega), ?_⟩
        intro pl184o I184o p184h16 p184bhpl p184bbfr
        refine hQ _ ?_ (fun c j h0 h1 h2 h3 h4 h5 h6 h7 h8 h9 h10 h11 h12 h13 h14 h15 h16 h17 h18 h19 => ((p184bbfr c j h0).trans (zxcj (by omega) ((p177bbfr c j h0 h1 h3 h6 h7 (by omega) (by omega) h19).trans ((p157bbfr c j h0).trans (zxcj (by omega) (zxcj h0 ((p28bbbbbfr c j (by omega) (by omega) (by omega) (by omega) (by omega) (by omega) h2).trans rfl))))))))
        · refine zRd_x (rdSi_y (y := (1, (exEx c 3 (a + 2)).2.1 + 1, (exEx c 3 (a + 2)).2.2)) (d := (exEx c 3 (a + 2)).2.2.length + 1) ((sv2 hu hx61).trans (exT_y hrc.1 hx59)) rfl (stO_v hu).1 (stO_v hu).2).symm ?_
          exact zRd_G ((show _ = (pl184o : Int) from p184h16).trans (by show _ = (((exEx c 3 (a + 2)).2.1 + 1 : Nat) : Int); omega)) (((p184bbfr 234 _ (by omega)).trans (zxu (by omega) rfl)).trans hrc.2.2.1) ((show _ = ((t + 1) : Int) from ((p184bbfr 234 18 (by omega)).trans ((p177bbfr 234 18 (by omega) (by omega) (by omega) (by omega) (by omega) (by omega) (by omega) (by omega)).trans ((p157bbfr 234 18 (by omega)).trans p28bbbbxt)))).trans (by omega)) ((((p184bbfr 234 _ (by omega)).trans (zxu (by omega) rfl)).trans hrc.2.2.2.1).trans (rd_k.trans (by omega))) ((show _ = (n : Int) from ((p184bbfr 234 20 (by omega)).trans ((p177bbfr 234 20 (by omega) (by omega) (by omega) (by omega) (by omega) (by omega) (by omega) (by omega)).trans ((p157bbfr 234 20 (by omega)).trans ((p28bbbbbfr 234 20 (by omega) (by omega) (by omega) (by omega) (by omega) (by omega) (by omega)).trans xn))))).trans (by omega)) ((show _ = ((o.length) : Int) from ((p184bbfr 234 21 (by omega)).trans ((p177bbfr 234 21 (by omega) (by omega) (by omega) (by omega) (by omega) (by omega) (by omega) (by omega)).trans ((p157bbfr 234 21 (by omega)).trans ((p28bbbbbfr 234 21 (by omega) (by omega) (by omega) (by omega) (by omega) (by omega) (by omega)).trans xd))))).trans (by omega)) (zOs_fr hOs (fun c j h1 h2 => ((p184bbfr c j (by omega)).trans (zxcj (by omega) ((p177bbfr c j (by omega) (by omega) (by omega) (by omega) (by omega) (by omega) (by omega) (by omega)).trans ((p157bbfr c j (by omega)).trans (zxcj (by omega) (zxcj (by omega) ((p28bbbbbfr c j (by omega) (by omega) (by omega) (by omega) (by omega) (by omega) (by omega)).trans rfl))))))))) (orA_up hOr (by omega) (fun c j h1 h2 h3 => ((p184bbfr c j (by omega)).trans (zxcj (by omega) ((p177bbfr c j (by omega) (by omega) (by omega) (by omega) (by omega) (by omega) (by omega) (by omega)).trans ((p157bbfr c j (by omega)).trans (zxcj (by omega) (zxcj (by omega) ((p28bbbbbfr c j (by omega) (by omega) (by omega) (by omega) (by omega) (by omega) (by omega)).trans rfl)))))))) (fun c j h1 h2 => ((p184bbfr c j (by omega)).trans (zxcj (by omega) ((p177bbfr c j (by omega) (by omega) (by omega) (by omega) (by omega) (by omega) (by omega) (by omega)).trans ((p157bbfr c j (by omega)).trans (zxcj (by omega) (zxcj (by omega) ((p28bbbbbfr c j (by omega) (by omega) (by omega) (by omega) (by omega) (by omega) (by omega)).trans rfl)))))))) (zOr_2 (((p184bbfr 238 _ (by omega)).trans (zxu (by omega) ((p177bbfr 238 _ (by omega) (by omega) (by omega) (by omega) (by omega) (by omega) (by omega) (by omega)).trans ((p157bbfr 238 _ (by omega)).trans (zxu (by omega) (zxu (by omega) rfl)))))).trans (p28q0.trans (by omega))) ((((p184bbfr 239 _ (by omega)).trans (zxu (by omega) ((p177bbfr 239 _ (by omega) (by omega) (by omega) (by omega) (by omega) (by omega) (by omega) (by omega)).trans ((p157bbfr 239 _ (by omega)).trans (zxu (by omega) (zxu (by omega) rfl)))))).trans p28bq1).trans (by omega)) ((((p184bbfr 240 _ (by omega)).trans (zxu (by omega) ((p177bbfr 240 _ (by omega) (by omega) (by omega) (by omega) (by omega) (by omega) (by omega) (by omega)).trans rfl))).trans ((p157bbfr 240 _ (by omega)).trans (zxe' (by omega)))).trans (by omega)) (((p184bbfr 243 _ (by omega)).trans (zxu (by omega) ((p177bbfr 243 _ (by omega) (by omega) (by omega) (by omega) (by omega) (by omega) (by omega) (by omega)).trans ((p157bbfr 243 _ (by omega)).trans (zxu (by omega) (zxu (by omega) rfl)))))).trans p28bbbq3) (by decide) ⟨k, ((p184bbfr 242 _ (by omega)).trans (zxe' (by omega))).trans (p177hv.trans (by omega)), by omega, zCo_fr hrc.2.2.2.2.1 (fun c j h1 h2 => ((p184bbfr c j (by omega)).trans (zxcj (by omega) rfl))), cdH_ex hrc.1⟩)) (fun f hf => ((p184bbfr 244 _ (by omega)).trans (zxcj (by omega) ((p177bbfr 244 _ (by omega) (by omega) (by omega) (by omega) (by omega) (by omega) (by omega) (by omega)).trans ((p157bbfr 244 _ (by omega)).trans (zxcj (by omega) (zxcj (by omega) ((p28bbbbbfr 244 _ (by omega) (by omega) (by omega) (by omega) (by omega) (by omega) (by omega)).trans rfl))))))).trans (hFu f hf))
      · refine And.intro (zA_234 hS) ⟨_, sn_G_exM.up (by decide), ?_⟩
        refine ⟨N, c, (exEx c 3 (a + 2)).2.1, (59 : Int), rfl, hS, hR, (zTx_fr hT (fun c j h => (zxcj (by omega) ((p177bbfr c j (by omega) (by omega) (by omega) (by omega) (by omega) (by omega) (by omega) (by omega)).trans ((p157bbfr c j (by omega)).trans (zxcj (by omega) (zxcj (by omega) ((p28bbbbbfr c j (by omega) (by omega) (by omega) (by omega) (by omega) (by omega) (by omega)).trans rfl)))))))), (((zxu (by omega) rfl).trans hrc.2.1).trans (by omega)), (Eq.trans (b := ((-1) : Int)) hrc.2.2.1 (by omega)), (by omega), (by clear hQ; grind [xu]), (by omega), ?_⟩
        intro wl184o I184o p184h17 p184bhpl p184bbfr
        refine hQ _ ?_ (fun c j h0 h1 h2 h3 h4 h5 h6 h7 h8 h9 h10 h11 h12 h13 h14 h15 h16 h17 h18 h19 => ((p184bbfr c j h1).trans (zxcj (by omega) ((p177bbfr c j h0 h1 h3 h6 h7 (by omega) (by omega) h19).trans ((p157bbfr c j h0).trans (zxcj (by omega) (zxcj h0 ((p28bbbbbfr c j (by omega) (by omega) (by omega) (by omega) (by omega) (by omega) h2).trans rfl))))))))
        · refine zRd_x (rdSi_n (y := exF (exEx c 3 (a + 2)).2.1) ((sv2 hu hx61).trans (exT_n hrc.1 hx59)) (by first | omega | (show ¬ (0 : Nat) = 1; decide))).symm ?_
          show zRd g (0, (exEx c 3 (a + 2)).2.1, t, k, n, o, r, u) _
          exact zRd_H (p184h17.trans (by omega)) ((p184bbfr 234 _ (by omega)).trans (zxu (by omega) rfl)) (by omega)
    · refine And.intro ⟨(zx0 rfl), (zP_242 hS (by omega) (by omega))⟩ ⟨_, (zWi (by omega)), ?_⟩
      refine And.intro (zA_234 hS) ⟨_, sn_G_exF.up (by decide), ?_⟩
      refine ⟨(59 : Int), (((exEx c 3 (a + 2)).2.1) : Int), rfl, hS, hR, hrc.2.1, (by clear hQ; grind [xu]), ?_⟩
      refine hQ _ ?_ (fun c j h0 h1 h2 h3 h4 h5 h6 h7 h8 h9 h10 h11 h12 h13 h14 h15 h16 h17 h18 h19 => (zxcj (by omega) ((p177bbfr c j h0 h1 h3 h6 h7 (by omega) (by omega) h19).trans ((p157bbfr c j h0).trans (zxcj (by omega) (zxcj h0 ((p28bbbbbfr c j (by omega) (by omega) (by omega) (by omega) (by omega) (by omega) h2).trans rfl)))))))
      · refine zRd_x (rdSi_n (y := (exEx c 3 (a + 2))) ((sv2 hu hx61).trans (exT_f (by omega))) (by first | omega | (show ¬ (0 : Nat) = 1; decide))).symm ?_
        show zRd g (0, (exEx c 3 (a + 2)).2.1, t, k, n, o, r, u) _
        exact zRd_H ((zxu (by omega) rfl).trans hrc.2.1) (zxu (by omega) rfl) (by omega)
  · refine And.intro (zA_234 hS) ⟨_, sn_G_exM.up (by decide), ?_⟩
    refine ⟨N, c, (a + 1), (61 : Int), rfl, hS, hR, (zTx_fr hT (fun c j h => (zxcj (by omega) (zxcj (by omega) ((p28bbbbbfr c j (by omega) (by omega) (by omega) (by omega) (by omega) (by omega) (by omega)).trans rfl))))), ((show _ = ((a + 1) : Int) from rfl).trans (by omega)), (Eq.trans (b := ((-1) : Int)) ((p28bbbbbfr 234 17 (by omega) (by omega) (by omega) (by omega) (by omega) (by omega) (by omega)).trans xw) (by omega)), (by omega), (by clear hQ; grind [xu]), (by omega), ?_⟩
    intro wl157o I157o p157h17 p157bhpl p157bbfr
    refine And.intro (zA_234 hS) (zrd (v := wl157o) p157h17 ?_)
    refine And.intro ⟨(by omega), (zRb rfl)⟩ ⟨(fun h165 => False.elim (by omega)), fun h165 => ?_⟩
    refine hQ _ ?_ (fun c j h0 h1 h2 h3 h4 h5 h6 h7 h8 h9 h10 h11 h12 h13 h14 h15 h16 h17 h18 h19 => ((p157bbfr c j h1).trans (zxcj (by omega) (zxcj h0 ((p28bbbbbfr c j (by omega) (by omega) (by omega) (by omega) (by omega) (by omega) h2).trans rfl)))))
    · refine zRd_x (rdSi_n (y := exF (a + 1)) (sv1 hu hx61) (by first | omega | (show ¬ (0 : Nat) = 1; decide))).symm ?_
      show zRd g (0, (a + 1), t, k, n, o, r, u) _
      exact zRd_K (p157h17.trans (by omega)) (by first | exact zxe | exact zxu (by omega) zxe | exact (p157bbfr 234 16 (by omega)).trans (zxu (by omega) zxe)) (by omega))
def T_G_rsq : ZT := fun args I L R S Q => ∃ (g : Nat) (N : Nat) (c : Nat → Int) (a : Nat) (t : Nat) (k : Nat) (n : Nat) (o : List (Int × Nat)) (r : Nat → OrT) (u : Nat → Int) (b : Int), args = [zvr 234, zvi b] ∧ (zSh S) ∧ (zRs R) ∧ (zTx N c I) ∧ (I 234 15 = g) ∧ (g ≤ 1) ∧ (zRd g (1, a, t, k, n, o, r, u) I) ∧ (a ≤ N) ∧ (t ≤ 500 ∧ k ≤ a + 200 ∧ n ≤ 100 ∧ o.length ≤ 2) ∧ (k ≤ a + 198) ∧ (t ≤ 400) ∧ (c a = 39) ∧ (b = a) ∧ ∀ (I' : ZI), (zRd g (rdSi c a t k n o r u) I') → (∀ c j : Nat, ¬ (c = 234 ∧ j = 16) → ¬ (c = 234 ∧ j = 17) → ¬ (c = 234 ∧ j = 18) → ¬ (c = 234 ∧ j = 19) → ¬ (c = 234 ∧ j = 20) → ¬ (c = 234 ∧ j = 21) → ¬ (c = 234 ∧ j = 25) → ¬ (c = 234 ∧ j = 27) → ¬ (c = 238 ∧ 600 * g ≤ j ∧ j < 600 * g + 600) → ¬ (c = 239 ∧ 600 * g ≤ j ∧ j < 600 * g + 600) → ¬ (c = 240 ∧ 600 * g ≤ j ∧ j < 600 * g + 600) → ¬ (c = 241 ∧ 600 * g ≤ j ∧ j < 600 * g + 600) → ¬ (c = 242 ∧ 600 * g ≤ j ∧ j < 600 * g + 600) → ¬ (c = 243 ∧ 600 * g ≤ j ∧ j < 600 * g + 600) → ¬ (c = 244 ∧ 26 * g ≤ j ∧ j < 26 * g + 26) → ¬ (c = 245 ∧ 1000 * g ≤ j ∧ j < 1000 * g + 1000) → ¬ (c = 246 ∧ 1000 * g ≤ j ∧ j < 1000 * g + 1000) → ¬ c = 247 → ¬ c = 248 → ¬ c = 250 → I' c j = I c j) → Q none I' L R S
set_option maxHeartbeats 4000000 in
theorem sn_G_rsq : ZSnd 6 12 44 T_G_rsq := ZSnd.of (zT12_44 5) (by
  rintro args I L R S Q hz ⟨g, N, c, a, t, k, n, o, r, u, b, rfl, hS, hR, hT, h15, hg, hx, ha, hb, hk2, ht4, hu, hbb, hQ⟩
  obtain ⟨hT1, hT2, hT3⟩ := id hT
  have hn4 := hT2.1
  obtain ⟨⟨xa, xw, xt, xk, xn, xd⟩, hOs, hOr, hFu⟩ := zRd_1 hx
  have hb9 := hT2.2.2 a
  have hb8 := hT2.2.2 (a + 1)
  have ha1 : a + 1 ≤ N := eTx_lt hT2 (by omega)
  have hwo := exAt_ok hT2 (r := 3) ha1
  have hwn : (exAt c 3 (a + 1)).2.1 ≤ N := by unfold exOk at hwo; omega
  have hb7 := hT2.2.2 (exAt c 3 (a + 1)).2.1
  have hb6 := hT2.2.2 ((exAt c 3 (a + 1)).2.1 + 1)
  have hb5 := hT2.2.2 ((exAt c 3 (a + 1)).2.1 + 2)
  have hl1 := l1_len (l := (exAt c 3 (a + 1)).2.2)
  have hxo : ∀ q, q ≤ N → (exEx c 3 q).2.1 ≤ N := fun q hq => by have z := exEx_ok hT2 (r := 3) hq; unfold exOk at z; omega
  refine And.intro rfl ?_
  refine And.intro (zA_234 hS) ⟨_, sn_G_pk.up (by decide), ?_⟩
  refine ⟨N, c, a, rfl, hS, hR, (zTx_fr hT (fun c j h => rfl)), xa, (by omega), ?_⟩
  intro v1o p1hv p1bhv2
  have g1 : v1o = 39 := (by omega)
  refine And.intro ⟨(by omega), (zRb rfl)⟩ ⟨fun h9 => ?_, (fun h9 => False.elim (by omega))⟩
  refine And.intro ⟨(by omega), (zRb rfl)⟩ ⟨(fun h19 => False.elim (by omega)), fun h19 => ?_⟩
  refine And.intro (zA_234 hS) ⟨_, sn_G_ord.up (by decide), ?_⟩
  refine ⟨g, t, (3 : Int), (b : Int), rfl, hS, hR, h15, (by omega), xt, (by omega), (by omega), (by omega), ?_⟩
  intro I28o p28q0 p28bq1 p28bbq2 p28bbbq3 p28bbbbxt p28bbbbbfr
  refine And.intro (zA_234 hS) (zrd (v := g) ((p28bbbbbfr 234 15 (by omega) (by omega) (by omega) (by omega) (by omega) (by omega) (by omega)).trans h15) ?_)
  refine And.intro (zA_234 hS) (zrd (v := a) ((p28bbbbbfr 234 16 (by omega) (by omega) (by omega) (by omega) (by omega) (by omega) (by omega)).trans xa) ?_)
  refine And.intro (zA_234 hS) ⟨_, (zWi (by omega)), ?_⟩
  refine Exists.intro _ (And.intro (zinl_ok (zT12_29 4)) (And.intro rfl ?_))
  refine And.intro ⟨(by omega), (zRb rfl)⟩ ⟨fun h3_55 => ?_, (fun h3_55 => False.elim (by omega))⟩
  refine And.intro (Or.inl rfl) ?_
  refine And.intro (zRb rfl) (zbt rfl ?_)
  refine And.intro (zA_234 hS) (zrdR (v := some 241) (zR_234_9 hR) ?_)
  refine And.intro (zA_234 hS) ⟨_, sn_G_rc0.up (by decide), ?_⟩
  refine ⟨g, k, N, c, (a + 1), rfl, hS, hR, (zTx_fr hT (fun c j h => (zxcj (by omega) ((p28bbbbbfr c j (by omega) (by omega) (by omega) (by omega) (by omega) (by omega) (by omega)).trans rfl)))), ((p28bbbbbfr 234 15 (by omega) (by omega) (by omega) (by omega) (by omega) (by omega) (by omega)).trans h15), (by omega), ((p28bbbbbfr 234 19 (by omega) (by omega) (by omega) (by omega) (by omega) (by omega) (by omega)).trans xk), rfl, (Eq.trans (b := ((-1) : Int)) ((p28bbbbbfr 234 17 (by omega) (by omega) (by omega) (by omega) (by omega) (by omega) (by omega)).trans xw) (by omega)), (by omega), (by omega), ?_⟩
  intro v83o I83o p83hv p83bhR p83bbfr
  rcases p83bhR with hra | hra
  · refine And.intro ⟨(zx0 rfl), (zP_241 hS (by omega) (by omega))⟩ ⟨_, (zWi (by omega)), ?_⟩
    refine And.intro ⟨(by omega), (zRb rfl)⟩ ⟨fun h90 => ?_, (fun h90 => False.elim (by omega))⟩
    rcases (Decidable.em (c (exAt c 3 (a + 1)).2.1 = 61)) with hx61 | hx61
    · refine And.intro (zA_234 hS) ⟨_, sn_G_exZ.up (by decide), ?_⟩
      refine ⟨N, c, (exAt c 3 (a + 1)).2.1, (61 : Int), rfl, hS, hR, (zTx_fr hT (fun c j h => (zxcj (by omega) ((p83bbfr c j (by omega) (by omega) (by omega) (by omega) (by omega) (by omega) (by omega) (by omega)).trans (zxcj (by omega) ((p28bbbbbfr c j (by omega) (by omega) (by omega) (by omega) (by omega) (by omega) (by omega)).trans rfl)))))), ((show _ = (((exAt c 3 (a + 1)).2.1) : Int) from hra.2.1).trans (by omega)), (Eq.trans (b := ((-1) : Int)) hra.2.2.1 (by omega)), (by omega), (by omega), ?_⟩
      intro pl157o I157o p157h16 p157bhpl p157bbfr
      refine And.intro (zA_234 hS) (zrd (v := (-1)) ((p157bbfr 234 17 (by omega)).trans hra.2.2.1) ?_)
      refine And.intro ⟨(zRb rfl), (zRb rfl)⟩ (zbt rfl ?_)
      refine And.intro (zA_234 hS) (zrdR (v := some 242) (zR_234_10 hR) ?_)
      refine And.intro (zA_234 hS) ⟨_, sn_G_rc1.up (by decide), ?_⟩
      refine ⟨g, (k + ((exAt c 3 (a + 1)).2.2.length + 1)), N, c, ((exAt c 3 (a + 1)).2.1 + 1), rfl, hS, hR, (zTx_fr hT (fun c j h => ((p157bbfr c j (by omega)).trans (zxcj (by omega) ((p83bbfr c j (by omega) (by omega) (by omega) (by omega) (by omega) (by omega) (by omega) (by omega)).trans (zxcj (by omega) ((p28bbbbbfr c j (by omega) (by omega) (by omega) (by omega) (by omega) (by omega) (by omega)).trans rfl))))))), ((p157bbfr 234 15 (by omega)).trans ((p83bbfr 234 15 (by omega) (by omega) (by omega) (by omega) (by omega) (by omega) (by omega) (by omega)).trans ((p28bbbbbfr 234 15 (by omega) (by omega) (by omega) (by omega) (by omega) (by omega) (by omega)).trans h15))), (by omega), ((p157bbfr 234 19 (by omega)).trans (hra.2.2.2.1.trans (rd_k.trans (by omega)))), ((show _ = (pl157o : Int) from p157h16).trans (by omega)), (Eq.trans (b := ((-1) : Int)) ((p157bbfr 234 17 (by omega)).trans hra.2.2.1) (by omega)), (eTx_lt hT2 (by omega)), (by first | omega | (have z8 := hra.2.2.2.2.2; omega)), ?_⟩
      intro v177o I177o p177hv p177bhR p177bbfr
      have g177 : (exEx c 3 ((exAt c 3 (a + 1)).2.1 + 1)).2.1 ≤ N := (hxo _ (eTx_lt hT2 (by omega)))
      rcases p177bhR with hrc | hrc
      · refine And.intro ⟨(zx0 rfl), (zP_242 hS (by omega) (by omega))⟩ ⟨_, (zWi (by omega)), ?_⟩
        rcases (Decidable.em (c (exEx c 3 ((exAt c 3 (a + 1)).2.1 + 1)).2.1 = 59)) with hx59 | hx59
        · refine And.intro (zA_234 hS) ⟨_, sn_G_exZ.up (by decide), ?_⟩
          refine ⟨N, c, (exEx c 3 ((exAt c 3 (a + 1)).2.1 + 1)).2.1, (59 : Int), rfl, hS, hR, (zTx_fr hT (fun c j h => (zxcj (by omega) ((p177bbfr c j (by omega) (by omega) (by omega) (by omega) (by omega) (by omega) (by omega) (by omega)).trans ((p157bbfr c j (by omega)).trans (zxcj (by omega) ((p83bbfr c j (by omega) (by omega) (by omega) (by omega) (by omega) (by omega) (by omega) (by omega)).trans (zxcj (by omega) ((p28bbbbbfr c j (by omega) (by omega) (by omega) (by omega) (by omega) (by omega) (by omega)).trans rfl))))))))), (((zxu (by omega) rfl).trans hrc.2.1).trans (by omega)), (Eq.trans (b := ((-1) : Int)) hrc.2.2.1 (by omega)), (by omega), (by omega), ?_⟩
          intro pl184o I184o p184h16 p184bhpl p184bbfr
          refine hQ _ ?_ (fun c j h0 h1 h2 h3 h4 h5 h6 h7 h8 h9 h10 h11 h12 h13 h14 h15 h16 h17 h18 h19 => ((p184bbfr c j h0).trans (zxcj (by omega) ((p177bbfr c j h0 h1 h3 h6 h7 (by omega) (by omega) h19).trans ((p157bbfr c j h0).trans (zxcj (by omega) ((p83bbfr c j h0 h1 h3 h6 h7 (by omega) (by omega) h19).trans (zxcj h0 ((p28bbbbbfr c j (by omega) (by omega) (by omega) (by omega) (by omega) (by omega) h2).trans rfl)))))))))
          · refine zRd_x (rdSi_y (y := (1, (exEx c 3 ((exAt c 3 (a + 1)).2.1 + 1)).2.1 + 1, (exEx c 3 ((exAt c 3 (a + 1)).2.1 + 1)).2.2)) (d := (exAt c 3 (a + 1)).2.2.length + 1 + ((exEx c 3 ((exAt c 3 (a + 1)).2.1 + 1)).2.2.length + 1)) ((sq3 hu hra.1 hx61).trans (exT_y hrc.1 hx59)) rfl (stO_q hu).1 (stO_q hu).2).symm ?_
            exact zRd_G ((show _ = (pl184o : Int) from p184h16).trans (by show _ = (((exEx c 3 ((exAt c 3 (a + 1)).2.1 + 1)).2.1 + 1 : Nat) : Int); omega)) (((p184bbfr 234 _ (by omega)).trans (zxu (by omega) rfl)).trans hrc.2.2.1) ((show _ = ((t + 1) : Int) from ((p184bbfr 234 18 (by omega)).trans ((p177bbfr 234 18 (by omega) (by omega) (by omega) (by omega) (by omega) (by omega) (by omega) (by omega)).trans ((p157bbfr 234 18 (by omega)).trans ((p83bbfr 234 18 (by omega) (by omega) (by omega) (by omega) (by omega) (by omega) (by omega) (by omega)).trans p28bbbbxt))))).trans (by omega)) ((((p184bbfr 234 _ (by omega)).trans (zxu (by omega) rfl)).trans hrc.2.2.2.1).trans (rd_k.trans (by omega))) ((show _ = (n : Int) from ((p184bbfr 234 20 (by omega)).trans ((p177bbfr 234 20 (by omega) (by omega) (by omega) (by omega) (by omega) (by omega) (by omega) (by omega)).trans ((p157bbfr 234 20 (by omega)).trans ((p83bbfr 234 20 (by omega) (by omega) (by omega) (by omega) (by omega) (by omega) (by omega) (by omega)).trans ((p28bbbbbfr 234 20 (by omega) (by omega) (by omega) (by omega) (by omega) (by omega) (by omega)).trans xn)))))).trans (by omega)) ((show _ = ((o.length) : Int) from ((p184bbfr 234 21 (by omega)).trans ((p177bbfr 234 21 (by omega) (by omega) (by omega) (by omega) (by omega) (by omega) (by omega) (by omega)).trans ((p157bbfr 234 21 (by omega)).trans ((p83bbfr 234 21 (by omega) (by omega) (by omega) (by omega) (by omega) (by omega) (by omega) (by omega)).trans ((p28bbbbbfr 234 21 (by omega) (by omega) (by omega) (by omega) (by omega) (by omega) (by omega)).trans xd)))))).trans (by omega)) (zOs_fr hOs (fun c j h1 h2 => ((p184bbfr c j (by omega)).trans (zxcj (by omega) ((p177bbfr c j (by omega) (by omega) (by omega) (by omega) (by omega) (by omega) (by omega) (by omega)).trans ((p157bbfr c j (by omega)).trans (zxcj (by omega) ((p83bbfr c j (by omega) (by omega) (by omega) (by omega) (by omega) (by omega) (by omega) (by omega)).trans (zxcj (by omega) ((p28bbbbbfr c j (by omega) (by omega) (by omega) (by omega) (by omega) (by omega) (by omega)).trans rfl)))))))))) (orA_up hOr (by omega) (fun c j h1 h2 h3 => ((p184bbfr c j (by omega)).trans (zxcj (by omega) ((p177bbfr c j (by omega) (by omega) (by omega) (by omega) (by omega) (by omega) (by omega) (by omega)).trans ((p157bbfr c j (by omega)).trans (zxcj (by omega) ((p83bbfr c j (by omega) (by omega) (by omega) (by omega) (by omega) (by omega) (by omega) (by omega)).trans (zxcj (by omega) ((p28bbbbbfr c j (by omega) (by omega) (by omega) (by omega) (by omega) (by omega) (by omega)).trans rfl))))))))) (fun c j h1 h2 => ((p184bbfr c j (by omega)).trans (zxcj (by omega) ((p177bbfr c j (by omega) (by omega) (by omega) (by omega) (by omega) (by omega) (by omega) (by omega)).trans ((p157bbfr c j (by omega)).trans (zxcj (by omega) ((p83bbfr c j (by omega) (by omega) (by omega) (by omega) (by omega) (by omega) (by omega) (by omega)).trans (zxcj (by omega) ((p28bbbbbfr c j (by omega) (by omega) (by omega) (by omega) (by omega) (by omega) (by omega)).trans rfl))))))))) (zOr_3 (((p184bbfr 238 _ (by omega)).trans (zxu (by omega) ((p177bbfr 238 _ (by omega) (by omega) (by omega) (by omega) (by omega) (by omega) (by omega) (by omega)).trans ((p157bbfr 238 _ (by omega)).trans (zxu (by omega) ((p83bbfr 238 _ (by omega) (by omega) (by omega) (by omega) (by omega) (by omega) (by omega) (by omega)).trans (zxu (by omega) rfl))))))).trans (p28q0.trans (by omega))) ((((p184bbfr 239 _ (by omega)).trans (zxu (by omega) ((p177bbfr 239 _ (by omega) (by omega) (by omega) (by omega) (by omega) (by omega) (by omega) (by omega)).trans ((p157bbfr 239 _ (by omega)).trans (zxu (by omega) ((p83bbfr 239 _ (by omega) (by omega) (by omega) (by omega) (by omega) (by omega) (by omega) (by omega)).trans (zxu (by omega) rfl))))))).trans p28bq1).trans (by omega)) (((p184bbfr 240 _ (by omega)).trans (zxu (by omega) ((p177bbfr 240 _ (by omega) (by omega) (by omega) (by omega) (by omega) (by omega) (by omega) (by omega)).trans ((p157bbfr 240 _ (by omega)).trans (zxu (by omega) ((p83bbfr 240 _ (by omega) (by omega) (by omega) (by omega) (by omega) (by omega) (by omega) (by omega)).trans (zxu (by omega) rfl))))))).trans p28bbq2) (((p184bbfr 243 _ (by omega)).trans (zxu (by omega) ((p177bbfr 243 _ (by omega) (by omega) (by omega) (by omega) (by omega) (by omega) (by omega) (by omega)).trans ((p157bbfr 243 _ (by omega)).trans (zxu (by omega) ((p83bbfr 243 _ (by omega) (by omega) (by omega) (by omega) (by omega) (by omega) (by omega) (by omega)).trans (zxu (by omega) rfl))))))).trans p28bbbq3) ⟨k, ((((p184bbfr 241 _ (by omega)).trans (zxu (by omega) ((p177bbfr 241 _ (by omega) (by omega) (by omega) (by omega) (by omega) (by omega) (by omega) (by omega)).trans rfl))).trans ((p157bbfr 241 _ (by omega)).trans (zxe' (by omega)))).trans p83hv), by omega, zCo_fr hra.2.2.2.2.1 (fun c j h1 h2 => ((p184bbfr c j (by omega)).trans (zxcj (by omega) ((p177bbfr c j (by omega) (by omega) (by omega) (by omega) (by omega) (by omega) (by omega) (by omega)).trans ((p157bbfr c j (by omega)).trans (zxcj (by omega) rfl)))))), cdH_at hra.1⟩ ⟨(k + ((exAt c 3 (a + 1)).2.2.length + 1)), ((p184bbfr 242 _ (by omega)).trans (zxe' (by omega))).trans (p177hv.trans (by omega)), by omega, zCo_fr hrc.2.2.2.2.1 (fun c j h1 h2 => ((p184bbfr c j (by omega)).trans (zxcj (by omega) rfl))), cdH_ex hrc.1⟩)) (fun f hf => ((p184bbfr 244 _ (by omega)).trans (zxcj (by omega) ((p177bbfr 244 _ (by omega) (by omega) (by omega) (by omega) (by omega) (by omega) (by omega) (by omega)).trans ((p157bbfr 244 _ (by omega)).trans (zxcj (by omega) ((p83bbfr 244 _ (by omega) (by omega) (by omega) (by omega) (by omega) (by omega) (by omega) (by omega)).trans (zxcj (by omega) ((p28bbbbbfr 244 _ (by omega) (by omega) (by omega) (by omega) (by omega) (by omega) (by omega)).trans rfl)))))))).trans (hFu f hf))
        · refine And.intro (zA_234 hS) ⟨_, sn_G_exM.up (by decide), ?_⟩
          refine ⟨N, c, (exEx c 3 ((exAt c 3 (a + 1)).2.1 + 1)).2.1, (59 : Int), rfl, hS, hR, (zTx_fr hT (fun c j h => (zxcj (by omega) ((p177bbfr c j (by omega) (by omega) (by omega) (by omega) (by omega) (by omega) (by omega) (by omega)).trans ((p157bbfr c j (by omega)).trans (zxcj (by omega) ((p83bbfr c j (by omega) (by omega) (by omega) (by omega) (by omega) (by omega) (by omega) (by omega)).trans (zxcj (by omega) ((p28bbbbbfr c j (by omega) (by omega) (by omega) (by omega) (by omega) (by omega) (by omega)).trans rfl))))))))), (((zxu (by omega) rfl).trans hrc.2.1).trans (by omega)), (Eq.trans (b := ((-1) : Int)) hrc.2.2.1 (by omega)), (by omega), (by clear hQ; grind [xu]), (by omega), ?_⟩
          intro wl184o I184o p184h17 p184bhpl p184bbfr
          refine hQ _ ?_ (fun c j h0 h1 h2 h3 h4 h5 h6 h7 h8 h9 h10 h11 h12 h13 h14 h15 h16 h17 h18 h19 => ((p184bbfr c j h1).trans (zxcj (by omega) ((p177bbfr c j h0 h1 h3 h6 h7 (by omega) (by omega) h19).trans ((p157bbfr c j h0).trans (zxcj (by omega) ((p83bbfr c j h0 h1 h3 h6 h7 (by omega) (by omega) h19).trans (zxcj h0 ((p28bbbbbfr c j (by omega) (by omega) (by omega) (by omega) (by omega) (by omega) h2).trans rfl)))))))))
          · refine zRd_x (rdSi_n (y := exF (exEx c 3 ((exAt c 3 (a + 1)).2.1 + 1)).2.1) ((sq3 hu hra.1 hx61).trans (exT_n hrc.1 hx59)) (by first | omega | (show ¬ (0 : Nat) = 1; decide))).symm ?_
            show zRd g (0, (exEx c 3 ((exAt c 3 (a + 1)).2.1 + 1)).2.1, t, k, n, o, r, u) _
            exact zRd_H (p184h17.trans (by omega)) ((p184bbfr 234 _ (by omega)).trans (zxu (by omega) rfl)) (by omega)
      · refine And.intro ⟨(zx0 rfl), (zP_242 hS (by omega) (by omega))⟩ ⟨_, (zWi (by omega)), ?_⟩
        refine And.intro (zA_234 hS) ⟨_, sn_G_exF.up (by decide), ?_⟩
        refine ⟨(59 : Int), (((exEx c 3 ((exAt c 3 (a + 1)).2.1 + 1)).2.1) : Int), rfl, hS, hR, hrc.2.1, (by clear hQ; grind [xu]), ?_⟩
        refine hQ _ ?_ (fun c j h0 h1 h2 h3 h4 h5 h6 h7 h8 h9 h10 h11 h12 h13 h14 h15 h16 h17 h18 h19 => (zxcj (by omega) ((p177bbfr c j h0 h1 h3 h6 h7 (by omega) (by omega) h19).trans ((p157bbfr c j h0).trans (zxcj (by omega) ((p83bbfr c j h0 h1 h3 h6 h7 (by omega) (by omega) h19).trans (zxcj h0 ((p28bbbbbfr c j (by omega) (by omega) (by omega) (by omega) (by omega) (by omega) h2).trans rfl))))))))
        · refine zRd_x (rdSi_n (y := (exEx c 3 ((exAt c 3 (a + 1)).2.1 + 1))) ((sq3 hu hra.1 hx61).trans (exT_f (by omega))) (by first | omega | (show ¬ (0 : Nat) = 1; decide))).symm ?_
          show zRd g (0, (exEx c 3 ((exAt c 3 (a + 1)).2.1 + 1)).2.1, t, k, n, o, r, u) _
          exact zRd_H ((zxu (by omega) rfl).trans hrc.2.1) (zxu (by omega) rfl) (by omega)
    · refine And.intro (zA_234 hS) ⟨_, sn_G_exM.up (by decide), ?_⟩
      refine ⟨N, c, (exAt c 3 (a + 1)).2.1, (61 : Int), rfl, hS, hR, (zTx_fr hT (fun c j h => (zxcj (by omega) ((p83bbfr c j (by omega) (by omega) (by omega) (by omega) (by omega) (by omega) (by omega) (by omega)).trans (zxcj (by omega) ((p28bbbbbfr c j (by omega) (by omega) (by omega) (by omega) (by omega) (by omega) (by omega)).trans rfl)))))), ((show _ = (((exAt c 3 (a + 1)).2.1) : Int) from hra.2.1).trans (by omega)), (Eq.trans (b := ((-1) : Int)) hra.2.2.1 (by omega)), (by omega), (by clear hQ; grind [xu]), (by omega), ?_⟩
      intro wl157o I157o p157h17 p157bhpl p157bbfr
      refine And.intro (zA_234 hS) (zrd (v := wl157o) p157h17 ?_)
      refine And.intro ⟨(by omega), (zRb rfl)⟩ ⟨fun h165 => ?_, fun h165 => ?_⟩
      · exact False.elim (by omega)
      · refine hQ _ ?_ (fun c j h0 h1 h2 h3 h4 h5 h6 h7 h8 h9 h10 h11 h12 h13 h14 h15 h16 h17 h18 h19 => ((p157bbfr c j h1).trans (zxcj (by omega) ((p83bbfr c j h0 h1 h3 h6 h7 (by omega) (by omega) h19).trans (zxcj h0 ((p28bbbbbfr c j (by omega) (by omega) (by omega) (by omega) (by omega) (by omega) h2).trans rfl))))))
        · refine zRd_x (rdSi_n (y := exF (exAt c 3 (a + 1)).2.1) (sq2 hu hra.1 hx61) (by first | omega | (show ¬ (0 : Nat) = 1; decide))).symm ?_
          show zRd g (0, (exAt c 3 (a + 1)).2.1, t, k, n, o, r, u) _
          exact zRd_H (p157h17.trans (by omega)) ((p157bbfr 234 _ (by omega)).trans (zxu (by omega) rfl)) (by omega)
  · refine And.intro ⟨(zx0 rfl), (zP_241 hS (by omega) (by omega))⟩ ⟨_, (zWi (by omega)), ?_⟩
    refine And.intro ⟨(by omega), (zRb rfl)⟩ ⟨fun h90 => ?_, (fun h90 => False.elim (by omega))⟩
    refine And.intro (zA_234 hS) ⟨_, sn_G_exF.up (by decide), ?_⟩
    refine ⟨(61 : Int), (((exAt c 3 (a + 1)).2.1) : Int), rfl, hS, hR, hra.2.1, (by clear hQ; grind [xu]), ?_⟩
    refine And.intro (zA_234 hS) (zrd (v := ((exAt c 3 (a + 1)).2.1)) hra.2.1 ?_)
    refine And.intro ⟨(by omega), (zRb rfl)⟩ ⟨fun h165 => ?_, fun h165 => ?_⟩
    · exact False.elim (by omega)
    · refine hQ _ ?_ (fun c j h0 h1 h2 h3 h4 h5 h6 h7 h8 h9 h10 h11 h12 h13 h14 h15 h16 h17 h18 h19 => (zxcj (by omega) ((p83bbfr c j h0 h1 h3 h6 h7 (by omega) (by omega) h19).trans (zxcj h0 ((p28bbbbbfr c j (by omega) (by omega) (by omega) (by omega) (by omega) (by omega) h2).trans rfl)))))
      · refine zRd_x (rdSi_n (y := (exAt c 3 (a + 1))) (sq1 hu (by omega)) (by first | omega | (show ¬ (0 : Nat) = 1; decide))).symm ?_
        show zRd g (0, (exAt c 3 (a + 1)).2.1, t, k, n, o, r, u) _
        exact zRd_H ((zxu (by omega) rfl).trans hra.2.1) (zxu (by omega) rfl) (by omega))
