/-! to_ -/
def T_G_rsa : ZT := fun args I L R S Q => ∃ (g : Nat) (N : Nat) (c : Nat → Int) (a : Nat) (t : Nat) (k : Nat) (n : Nat) (o : List (Int × Nat)) (r : Nat → OrT) (u : Nat → Int) (b : Int), args = [zvr 234, zvi b] ∧ (zSh S) ∧ (zRs R) ∧ (zTx N c I) ∧ (I 234 15 = g) ∧ (g ≤ 1) ∧ (zRd g (1, a, t, k, n, o, r, u) I) ∧ (a ≤ N) ∧ (t ≤ 500 ∧ k ≤ a + 200 ∧ n ≤ 100 ∧ o.length ≤ 2) ∧ (k ≤ a + 198) ∧ (t ≤ 400) ∧ (c a = 64) ∧ (b = a) ∧ ∀ (I' : ZI), (zRd g (rdSi c a t k n o r u) I') → (∀ c j : Nat, ¬ (c = 234 ∧ j = 16) → ¬ (c = 234 ∧ j = 17) → ¬ (c = 234 ∧ j = 18) → ¬ (c = 234 ∧ j = 19) → ¬ (c = 234 ∧ j = 20) → ¬ (c = 234 ∧ j = 21) → ¬ (c = 234 ∧ j = 25) → ¬ (c = 234 ∧ j = 27) → ¬ (c = 238 ∧ 600 * g ≤ j ∧ j < 600 * g + 600) → ¬ (c = 239 ∧ 600 * g ≤ j ∧ j < 600 * g + 600) → ¬ (c = 240 ∧ 600 * g ≤ j ∧ j < 600 * g + 600) → ¬ (c = 241 ∧ 600 * g ≤ j ∧ j < 600 * g + 600) → ¬ (c = 242 ∧ 600 * g ≤ j ∧ j < 600 * g + 600) → ¬ (c = 243 ∧ 600 * g ≤ j ∧ j < 600 * g + 600) → ¬ (c = 244 ∧ 26 * g ≤ j ∧ j < 26 * g + 26) → ¬ (c = 245 ∧ 1000 * g ≤ j ∧ j < 1000 * g + 1000) → ¬ (c = 246 ∧ 1000 * g ≤ j ∧ j < 1000 * g + 1000) → ¬ c = 247 → ¬ c = 248 → ¬ c = 250 → I' c j = I c j) → Q none I' L R S
set_option maxHeartbeats 4000000 in
theorem sn_G_rsa : ZSnd 6 12 44 T_G_rsa := ZSnd.of (zT12_44 5) (by
  rintro args I L R S Q hz ⟨g, N, c, a, t, k, n, o, r, u, b, rfl, hS, hR, hT, h15, hg, hx, ha, hb, hk2, ht4, hu, hbb, hQ⟩
  obtain ⟨hT1, hT2, hT3⟩ := id hT
  have hn4 := hT2.1
  obtain ⟨⟨xa, xw, xt, xk, xn, xd⟩, hOs, hOr, hFu⟩ := zRd_1 hx
  have hb9 := hT2.2.2 a
  have hb8 := hT2.2.2 (a + 1)
  have ha1 : a + 1 ≤ N := eTx_lt hT2 (by omega)
  have hwo := exAt_ok hT2 (r := 3) ha1
  have hwn : (exAt c 3 (a + 1)).2.1 ≤ N := by unfold exOk at hwo; omega
  have hb7 := hT2.2.2 (exAt c 3 (a + 1)).2.1
  have hb6 := hT2.2.2 ((exAt c 3 (a + 1)).2.1 + 1)
  have hb5 := hT2.2.2 ((exAt c 3 (a + 1)).2.1 + 2)
  have hl1 := l1_len (l := (exAt c 3 (a + 1)).2.2)
  have hxo : ∀ q, q ≤ N → (exEx c 3 q).2.1 ≤ N := fun q hq => by have z := exEx_ok hT2 (r := 3) hq; unfold exOk at z; omega
  refine And.intro rfl ?_
  refine And.intro (zA_234 hS) ⟨_, sn_G_pk.up (by decide), ?_⟩
  refine ⟨N, c, a, rfl, hS, hR, (zTx_fr hT (fun c j h => rfl)), xa, (by omega), ?_⟩
  intro v1o p1hv p1bhv2
  have g1 : v1o = 64 := (by omega)
  refine And.intro ⟨(by omega), (zRb rfl)⟩ ⟨(fun h9 => False.elim (by omega)), fun h9 => ?_⟩
  refine And.intro (zA_234 hS) ⟨_, sn_G_ord.up (by decide), ?_⟩
  refine ⟨g, t, (2 : Int), (b : Int), rfl, hS, hR, h15, (by omega), xt, (by omega), (by omega), (by omega), ?_⟩
  intro I28o p28q0 p28bq1 p28bbq2 p28bbbq3 p28bbbbxt p28bbbbbfr
  refine And.intro (zA_234 hS) (zrd (v := g) ((p28bbbbbfr 234 15 (by omega) (by omega) (by omega) (by omega) (by omega) (by omega) (by omega)).trans h15) ?_)
  refine And.intro (zA_234 hS) (zrd (v := a) ((p28bbbbbfr 234 16 (by omega) (by omega) (by omega) (by omega) (by omega) (by omega) (by omega)).trans xa) ?_)
  refine And.intro (zA_234 hS) ⟨_, (zWi (by omega)), ?_⟩
  refine Exists.intro _ (And.intro (zinl_ok (zT12_29 4)) (And.intro rfl ?_))
  refine And.intro ⟨(by omega), (zRb rfl)⟩ ⟨fun h3_55 => ?_, (fun h3_55 => False.elim (by omega))⟩
  refine And.intro (Or.inl rfl) ?_
  refine And.intro (zRb rfl) (zbt rfl ?_)
  refine And.intro (zA_234 hS) (zrdR (v := some 241) (zR_234_9 hR) ?_)
  refine And.intro (zA_234 hS) ⟨_, sn_G_rc0.up (by decide), ?_⟩
  refine ⟨g, k, N, c, (a + 1), rfl, hS, hR, (zTx_fr hT (fun c j h => (zxcj (by omega) ((p28bbbbbfr c j (by omega) (by omega) (by omega) (by omega) (by omega) (by omega) (by omega)).trans rfl)))), ((p28bbbbbfr 234 15 (by omega) (by omega) (by omega) (by omega) (by omega) (by omega) (by omega)).trans h15), (by omega), ((p28bbbbbfr 234 19 (by omega) (by omega) (by omega) (by omega) (by omega) (by omega) (by omega)).trans xk), rfl, (Eq.trans (b := ((-1) : Int)) ((p28bbbbbfr 234 17 (by omega) (by omega) (by omega) (by omega) (by omega) (by omega) (by omega)).trans xw) (by omega)), (by omega), (by omega), ?_⟩
  intro v83o I83o p83hv p83bhR p83bbfr
  rcases p83bhR with hra | hra
  · refine And.intro ⟨(zx0 rfl), (zP_241 hS (by omega) (by omega))⟩ ⟨_, (zWi (by omega)), ?_⟩
    refine And.intro ⟨(by omega), (zRb rfl)⟩ ⟨(fun h90 => False.elim (by omega)), fun h90 => ?_⟩
    rcases (Decidable.em (c (exAt c 3 (a + 1)).2.1 = 58)) with hq58 | hq58
    · refine And.intro (zA_234 hS) ⟨_, sn_G_exZ.up (by decide), ?_⟩
      refine ⟨N, c, (exAt c 3 (a + 1)).2.1, (58 : Int), rfl, hS, hR, (zTx_fr hT (fun c j h => (zxcj (by omega) ((p83bbfr c j (by omega) (by omega) (by omega) (by omega) (by omega) (by omega) (by omega) (by omega)).trans (zxcj (by omega) ((p28bbbbbfr c j (by omega) (by omega) (by omega) (by omega) (by omega) (by omega) (by omega)).trans rfl)))))), hra.2.1, (Eq.trans (b := ((-1) : Int)) hra.2.2.1 (by omega)), (by omega), (by omega), ?_⟩
      intro pl96o I96o p96h16 p96bhpl p96bbfr
      refine And.intro (zA_234 hS) ⟨_, sn_G_pk.up (by decide), ?_⟩
      refine ⟨N, c, ((exAt c 3 (a + 1)).2.1 + 1), rfl, hS, hR, (zTx_fr hT (fun c j h => ((p96bbfr c j (by omega)).trans (zxcj (by omega) ((p83bbfr c j (by omega) (by omega) (by omega) (by omega) (by omega) (by omega) (by omega) (by omega)).trans (zxcj (by omega) ((p28bbbbbfr c j (by omega) (by omega) (by omega) (by omega) (by omega) (by omega) (by omega)).trans rfl))))))), (by first | exact p96h16.trans (by omega) | exact (((p96bbfr 234 _ (by omega)).trans (zxu (by omega) rfl)).trans hra.2.1).trans (by omega) | exact (((p96bbfr 234 _ (by omega)).trans (zxu (by omega) rfl)).trans (by have z8 := hra.2.2; omega))), (by first | omega | (have z8 := hra.2.2; omega)), ?_⟩
      intro v100o p100hv p100bhv2
      have g100 : v100o = c ((exAt c 3 (a + 1)).2.1 + 1) ∨ ¬ c (exAt c 3 (a + 1)).2.1 = 58 ∨ ¬ (exAt c 3 (a + 1)).1 = 1 := (by by_cases q1 : c (exAt c 3 (a + 1)).2.1 = 58; (by_cases q2 : (exAt c 3 (a + 1)).1 = 1; (exact Or.inl (p100hv.trans (congrArg c (by omega)))); exact Or.inr (Or.inr q2)); exact Or.inr (Or.inl q1))
      rcases (Decidable.em (48 ≤ c ((exAt c 3 (a + 1)).2.1 + 1) ∧ c ((exAt c 3 (a + 1)).2.1 + 1) ≤ 53)) with hdg | hdg
      · refine And.intro (zA_234 hS) (zrd (v := (-1)) ((p96bbfr 234 17 (by omega)).trans hra.2.2.1) ?_)
        refine And.intro ⟨(zRb rfl), (zRb rfl)⟩ (zbf rfl ?_)
        refine And.intro (by omega) ⟨(fun h118 => False.elim (by omega)), fun h118 => ?_⟩
        refine And.intro ⟨(by omega), (zRb rfl)⟩ ⟨fun h124 => ?_, (fun h124 => False.elim (by omega))⟩
        refine And.intro (zA_234 hS) (zrd (v := pl96o) p96h16 ?_)
        refine And.intro (zA_234 hS) ⟨_, (zWi (by omega)), ?_⟩
        refine And.intro (zA_234 hS) (zrdR (v := some 240) (zR_234_8 hR) ?_)
        refine And.intro ⟨(zx0 rfl), (zP_240 hS (by omega) (by omega))⟩ ⟨_, (zWi (by omega)), ?_⟩
        rcases (Decidable.em (c ((exAt c 3 (a + 1)).2.1 + 2) = 61)) with hx61 | hx61
        · refine And.intro (zA_234 hS) ⟨_, sn_G_exZ.up (by decide), ?_⟩
          refine ⟨N, c, ((exAt c 3 (a + 1)).2.1 + 2), (61 : Int), rfl, hS, hR, (zTx_fr hT (fun c j h => (zxcj (by omega) (zxcj (by omega) ((p96bbfr c j (by omega)).trans (zxcj (by omega) ((p83bbfr c j (by omega) (by omega) (by omega) (by omega) (by omega) (by omega) (by omega) (by omega)).trans (zxcj (by omega) ((p28bbbbbfr c j (by omega) (by omega) (by omega) (by omega) (by omega) (by omega) (by omega)).trans rfl))))))))), ((show _ = ((pl96o + 1) : Int) from rfl).trans (by omega)), (Eq.trans (b := ((-1) : Int)) ((p96bbfr 234 17 (by omega)).trans hra.2.2.1) (by omega)), (by omega), (by omega), ?_⟩
          intro pl157o I157o p157h16 p157bhpl p157bbfr
          refine And.intro (zA_234 hS) (zrd (v := (-1)) ((p157bbfr 234 17 (by omega)).trans ((p96bbfr 234 17 (by omega)).trans hra.2.2.1)) ?_)
          refine And.intro ⟨(zRb rfl), (zRb rfl)⟩ (zbt rfl ?_)
          refine And.intro (zA_234 hS) (zrdR (v := some 242) (zR_234_10 hR) ?_)
          refine And.intro (zA_234 hS) ⟨_, sn_G_rc1.up (by decide), ?_⟩
          refine ⟨g, (k + ((exAt c 3 (a + 1)).2.2.length + 1)), N, c, ((exAt c 3 (a + 1)).2.1 + 3), rfl, hS, hR, (zTx_fr hT (fun c j h => ((p157bbfr c j (by omega)).trans (zxcj (by omega) (zxcj (by omega) ((p96bbfr c j (by omega)).trans (zxcj (by omega) ((p83bbfr c j (by omega) (by omega) (by omega) (by omega) (by omega) (by omega) (by omega) (by omega)).trans (zxcj (by omega) ((p28bbbbbfr c j (by omega) (by omega) (by omega) (by omega) (by omega) (by omega) (by omega)).trans rfl)))))))))), ((p157bbfr 234 15 (by omega)).trans ((p96bbfr 234 15 (by omega)).trans ((p83bbfr 234 15 (by omega) (by omega) (by omega) (by omega) (by omega) (by omega) (by omega) (by omega)).trans ((p28bbbbbfr 234 15 (by omega) (by omega) (by omega) (by omega) (by omega) (by omega) (by omega)).trans h15)))), (by omega), ((p157bbfr 234 19 (by omega)).trans ((p96bbfr 234 19 (by omega)).trans (hra.2.2.2.1.trans (rd_k.trans (by omega))))), ((show _ = (pl157o : Int) from p157h16).trans (by omega)), (Eq.trans (b := ((-1) : Int)) ((p157bbfr 234 17 (by omega)).trans ((p96bbfr 234 17 (by omega)).trans hra.2.2.1)) (by omega)), (eTx_lt hT2 (by omega)), (by first | omega | (have z8 := hra.2.2.2.2.2; omega)), ?_⟩
          intro v177o I177o p177hv p177bhR p177bbfr
          have g177 : (exEx c 3 ((exAt c 3 (a + 1)).2.1 + 3)).2.1 ≤ N := (hxo _ (eTx_lt hT2 (by omega)))
          rcases p177bhR with hrc | hrc
          · refine And.intro ⟨(zx0 rfl), (zP_242 hS (by omega) (by omega))⟩ ⟨_, (zWi (by omega)), ?_⟩
            rcases (Decidable.em (c (exEx c 3 ((exAt c 3 (a + 1)).2.1 + 3)).2.1 = 59)) with hx59 | hx59
            · refine And.intro (zA_234 hS) ⟨_, sn_G_exZ.up (by decide), ?_⟩
              refine ⟨N, c, (exEx c 3 ((exAt c 3 (a + 1)).2.1 + 3)).2.1, (59 : Int), rfl, hS, hR, (zTx_fr hT (fun c j h => (zxcj (by omega) ((p177bbfr c j (by omega) (by omega) (by omega) (by omega) (by omega) (by omega) (by omega) (by omega)).trans ((p157bbfr c j (by omega)).trans (zxcj (by omega) (zxcj (by omega) ((p96bbfr c j (by omega)).trans (zxcj (by omega) ((p83bbfr c j (by omega) (by omega) (by omega) (by omega) (by omega) (by omega) (by omega) (by omega)).trans (zxcj (by omega) ((p28bbbbbfr c j (by omega) (by omega) (by omega) (by omega) (by omega) (by omega) (by omega)).trans rfl)))))))))))), (((zxu (by omega) rfl).trans hrc.2.1).trans (by omega)), (Eq.trans (b := ((-1) : Int)) hrc.2.2.1 (by omega)), (by omega), (by omega), ?_⟩
              intro pl184o I184o p184h16 p184bhpl p184bbfr
              refine hQ _ ?_ (fun c j h0 h1 h2 h3 h4 h5 h6 h7 h8 h9 h10 h11 h12 h13 h14 h15 h16 h17 h18 h19 => ((p184bbfr c j h0).trans (zxcj (by omega) ((p177bbfr c j h0 h1 h3 h6 h7 (by omega) (by omega) h19).trans ((p157bbfr c j h0).trans (zxcj (by omega) (zxcj h0 ((p96bbfr c j h0).trans (zxcj (by omega) ((p83bbfr c j h0 h1 h3 h6 h7 (by omega) (by omega) h19).trans (zxcj h0 ((p28bbbbbfr c j (by omega) (by omega) (by omega) (by omega) (by omega) (by omega) h2).trans rfl))))))))))))
              · refine zRd_x (rdSi_y (y := (1, (exEx c 3 ((exAt c 3 (a + 1)).2.1 + 3)).2.1 + 1, (exEx c 3 ((exAt c 3 (a + 1)).2.1 + 3)).2.2)) (d := (exAt c 3 (a + 1)).2.2.length + 1 + ((exEx c 3 ((exAt c 3 (a + 1)).2.1 + 3)).2.2.length + 1)) ((sa5 hu hra.1 hq58 hdg hx61).trans (exT_y hrc.1 hx59)) rfl (stO_a hu).1 (stO_a hu).2).symm ?_
                exact zRd_G ((show _ = (pl184o : Int) from p184h16).trans (by show _ = (((exEx c 3 ((exAt c 3 (a + 1)).2.1 + 3)).2.1 + 1 : Nat) : Int); omega)) (((p184bbfr 234 _ (by omega)).trans (zxu (by omega) rfl)).trans hrc.2.2.1) ((show _ = ((t + 1) : Int) from ((p184bbfr 234 18 (by omega)).trans ((p177bbfr 234 18 (by omega) (by omega) (by omega) (by omega) (by omega) (by omega) (by omega) (by omega)).trans ((p157bbfr 234 18 (by omega)).trans ((p96bbfr 234 18 (by omega)).trans ((p83bbfr 234 18 (by omega) (by omega) (by omega) (by omega) (by omega) (by omega) (by omega) (by omega)).trans p28bbbbxt)))))).trans (by omega)) ((((p184bbfr 234 _ (by omega)).trans (zxu (by omega) rfl)).trans hrc.2.2.2.1).trans (rd_k.trans (by omega))) ((show _ = (n : Int) from ((p184bbfr 234 20 (by omega)).trans ((p177bbfr 234 20 (by omega) (by omega) (by omega) (by omega) (by omega) (by omega) (by omega) (by omega)).trans ((p157bbfr 234 20 (by omega)).trans ((p96bbfr 234 20 (by omega)).trans ((p83bbfr 234 20 (by omega) (by omega) (by omega) (by omega) (by omega) (by omega) (by omega) (by omega)).trans ((p28bbbbbfr 234 20 (by omega) (by omega) (by omega) (by omega) (by omega) (by omega) (by omega)).trans xn))))))).trans (by omega)) ((show _ = ((o.length) : Int) from ((p184bbfr 234 21 (by omega)).trans ((p177bbfr 234 21 (by omega) (by omega) (by omega) (by omega) (by omega) (by omega) (by omega) (by omega)).trans ((p157bbfr 234 21 (by omega)).trans ((p96bbfr 234 21 (by omega)).trans ((p83bbfr 234 21 (by omega) (by omega) (by omega) (by omega) (by omega) (by omega) (by omega) (by omega)).trans ((p28bbbbbfr 234 21 (by omega) (by omega) (by omega) (by omega) (by omega) (by omega) (by omega)).trans xd))))))).trans (by omega)) (zOs_fr hOs (fun c j h1 h2 => ((p184bbfr c j (by omega)).trans (zxcj (by omega) ((p177bbfr c j (by omega) (by omega) (by omega) (by omega) (by omega) (by omega) (by omega) (by omega)).trans ((p157bbfr c j (by omega)).trans (zxcj (by omega) (zxcj (by omega) ((p96bbfr c j (by omega)).trans (zxcj (by omega) ((p83bbfr c j (by omega) (by omega) (by omega) (by omega) (by omega) (by omega) (by omega) (by omega)).trans (zxcj (by omega) ((p28bbbbbfr c j (by omega) (by omega) (by omega) (by omega) (by omega) (by omega) (by omega)).trans rfl))))))))))))) (orA_up hOr (by omega) (fun c j h1 h2 h3 => ((p184bbfr c j (by omega)).trans (zxcj (by omega) ((p177bbfr c j (by omega) (by omega) (by omega) (by omega) (by omega) (by omega) (by omega) (by omega)).trans ((p157bbfr c j (by omega)).trans (zxcj (by omega) (zxcj (by omega) ((p96bbfr c j (by omega)).trans (zxcj (by omega) ((p83bbfr c j (by omega) (by omega) (by omega) (by omega) (by omega) (by omega) (by omega) (by omega)).trans (zxcj (by omega) ((p28bbbbbfr c j (by omega) (by omega) (by omega) (by omega) (by omega) (by omega) (by omega)).trans rfl)))))))))))) (fun c j h1 h2 => ((p184bbfr c j (by omega)).trans (zxcj (by omega) ((p177bbfr c j (by omega) (by omega) (by omega) (by omega) (by omega) (by omega) (by omega) (by omega)).trans ((p157bbfr c j (by omega)).trans (zxcj (by omega) (zxcj (by omega) ((p96bbfr c j (by omega)).trans (zxcj (by omega) ((p83bbfr c j (by omega) (by omega) (by omega) (by omega) (by omega) (by omega) (by omega) (by omega)).trans (zxcj (by omega) ((p28bbbbbfr c j (by omega) (by omega) (by omega) (by omega) (by omega) (by omega) (by omega)).trans rfl)))))))))))) (zOr_3 (((p184bbfr 238 _ (by omega)).trans (zxu (by omega) ((p177bbfr 238 _ (by omega) (by omega) (by omega) (by omega) (by omega) (by omega) (by omega) (by omega)).trans ((p157bbfr 238 _ (by omega)).trans (zxu (by omega) (zxu (by omega) ((p96bbfr 238 _ (by omega)).trans (zxu (by omega) ((p83bbfr 238 _ (by omega) (by omega) (by omega) (by omega) (by omega) (by omega) (by omega) (by omega)).trans (zxu (by omega) rfl)))))))))).trans (p28q0.trans (by omega))) ((((p184bbfr 239 _ (by omega)).trans (zxu (by omega) ((p177bbfr 239 _ (by omega) (by omega) (by omega) (by omega) (by omega) (by omega) (by omega) (by omega)).trans ((p157bbfr 239 _ (by omega)).trans (zxu (by omega) (zxu (by omega) ((p96bbfr 239 _ (by omega)).trans (zxu (by omega) ((p83bbfr 239 _ (by omega) (by omega) (by omega) (by omega) (by omega) (by omega) (by omega) (by omega)).trans (zxu (by omega) rfl)))))))))).trans p28bq1).trans (by omega)) ((((p184bbfr 240 _ (by omega)).trans (zxu (by omega) ((p177bbfr 240 _ (by omega) (by omega) (by omega) (by omega) (by omega) (by omega) (by omega) (by omega)).trans rfl))).trans ((p157bbfr 240 _ (by omega)).trans (zxe' (by omega)))).trans (by omega)) (((p184bbfr 243 _ (by omega)).trans (zxu (by omega) ((p177bbfr 243 _ (by omega) (by omega) (by omega) (by omega) (by omega) (by omega) (by omega) (by omega)).trans ((p157bbfr 243 _ (by omega)).trans (zxu (by omega) (zxu (by omega) ((p96bbfr 243 _ (by omega)).trans (zxu (by omega) ((p83bbfr 243 _ (by omega) (by omega) (by omega) (by omega) (by omega) (by omega) (by omega) (by omega)).trans (zxu (by omega) rfl)))))))))).trans p28bbbq3) ⟨k, ((((p184bbfr 241 _ (by omega)).trans (zxu (by omega) ((p177bbfr 241 _ (by omega) (by omega) (by omega) (by omega) (by omega) (by omega) (by omega) (by omega)).trans ((p157bbfr 241 _ (by omega)).trans (zxu (by omega) (zxu (by omega) rfl)))))).trans ((p96bbfr 241 _ (by omega)).trans (zxe' (by omega)))).trans p83hv), by omega, zCo_fr hra.2.2.2.2.1 (fun c j h1 h2 => ((p184bbfr c j (by omega)).trans (zxcj (by omega) ((p177bbfr c j (by omega) (by omega) (by omega) (by omega) (by omega) (by omega) (by omega) (by omega)).trans ((p157bbfr c j (by omega)).trans (zxcj (by omega) (zxcj (by omega) ((p96bbfr c j (by omega)).trans (zxcj (by omega) rfl))))))))), cdH_at hra.1⟩ ⟨(k + ((exAt c 3 (a + 1)).2.2.length + 1)), ((p184bbfr 242 _ (by omega)).trans (zxe' (by omega))).trans (p177hv.trans (by omega)), by omega, zCo_fr hrc.2.2.2.2.1 (fun c j h1 h2 => ((p184bbfr c j (by omega)).trans (zxcj (by omega) rfl))), cdH_ex hrc.1⟩)) (fun f hf => ((p184bbfr 244 _ (by omega)).trans (zxcj (by omega) ((p177bbfr 244 _ (by omega) (by omega) (by omega) (by omega) (by omega) (by omega) (by omega) (by omega)).trans ((p157bbfr 244 _ (by omega)).trans (zxcj (by omega) (zxcj (by omega) ((p96bbfr 244 _ (by omega)).trans (zxcj (by omega) ((p83bbfr 244 _ (by omega) (by omega) (by omega) (by omega) (by omega) (by omega) (by omega) (by omega)).trans (zxcj (by omega) ((p28bbbbbfr 244 _ (by omega) (by omega) (by omega) (by omega) (by omega) (by omega) (by omega)).trans rfl))))))))))).trans (hFu f hf))
            · refine And.intro (zA_234 hS) ⟨_, sn_G_exM.up (by decide), ?_⟩
              refine ⟨N, c, (exEx c 3 ((exAt c 3 (a + 1)).2.1 + 3)).2.1, (59 : Int), rfl, hS, hR, (zTx_fr hT (fun c j h => (zxcj (by omega) ((p177bbfr c j (by omega) (by omega) (by omega) (by omega) (by omega) (by omega) (by omega) (by omega)).trans ((p157bbfr c j (by omega)).trans (zxcj (by omega) (zxcj (by omega) ((p96bbfr c j (by omega)).trans (zxcj (by omega) ((p83bbfr c j (by omega) (by omega) (by omega) (by omega) (by omega) (by omega) (by omega) (by omega)).trans (zxcj (by omega) ((p28bbbbbfr c j (by omega) (by omega) (by omega) (by omega) (by omega) (by omega) (by omega)).trans rfl)))))))))))), (((zxu (by omega) rfl).trans hrc.2.1).trans (by omega)), (Eq.trans (b := ((-1) : Int)) hrc.2.2.1 (by omega)), (by omega), (by clear hQ; grind [xu]), (by omega), ?_⟩
              intro wl184o I184o p184h17 p184bhpl p184bbfr
              refine hQ _ ?_ (fun c j h0 h1 h2 h3 h4 h5 h6 h7 h8 h9 h10 h11 h12 h13 h14 h15 h16 h17 h18 h19 => ((p184bbfr c j h1).trans (zxcj (by omega) ((p177bbfr c j h0 h1 h3 h6 h7 (by omega) (by omega) h19).trans ((p157bbfr c j h0).trans (zxcj (by omega) (zxcj h0 ((p96bbfr c j h0).trans (zxcj (by omega) ((p83bbfr c j h0 h1 h3 h6 h7 (by omega) (by omega) h19).trans (zxcj h0 ((p28bbbbbfr c j (by omega) (by omega) (by omega) (by omega) (by omega) (by omega) h2).trans rfl))))))))))))
              · refine zRd_x (rdSi_n (y := exF (exEx c 3 ((exAt c 3 (a + 1)).2.1 + 3)).2.1) ((sa5 hu hra.1 hq58 hdg hx61).trans (exT_n hrc.1 hx59)) (by first | omega | (show ¬ (0 : Nat) = 1; decide))).symm ?_
                show zRd g (0, (exEx c 3 ((exAt c 3 (a + 1)).2.1 + 3)).2.1, t, k, n, o, r, u) _
                exact zRd_H (p184h17.trans (by omega)) ((p184bbfr 234 _ (by omega)).trans (zxu (by omega) rfl)) (by omega)
          · refine And.intro ⟨(zx0 rfl), (zP_242 hS (by omega) (by omega))⟩ ⟨_, (zWi (by omega)), ?_⟩
            refine And.intro (zA_234 hS) ⟨_, sn_G_exF.up (by decide), ?_⟩
            refine ⟨(59 : Int), (((exEx c 3 ((exAt c 3 (a + 1)).2.1 + 3)).2.1) : Int), rfl, hS, hR, hrc.2.1, (by clear hQ; grind [xu]), ?_⟩
            refine hQ _ ?_ (fun c j h0 h1 h2 h3 h4 h5 h6 h7 h8 h9 h10 h11 h12 h13 h14 h15 h16 h17 h18 h19 => (zxcj (by omega) ((p177bbfr c j h0 h1 h3 h6 h7 (by omega) (by omega) h19).trans ((p157bbfr c j h0).trans (zxcj (by omega) (zxcj h0 ((p96bbfr c j h0).trans (zxcj (by omega) ((p83bbfr c j h0 h1 h3 h6 h7 (by omega) (by omega) h19).trans (zxcj h0 ((p28bbbbbfr c j (by omega) (by omega) (by omega) (by omega) (by omega) (by omega) h2).trans rfl)))))))))))
            · refine zRd_x (rdSi_n (y := (exEx c 3 ((exAt c 3 (a + 1)).2.1 + 3))) ((sa5 hu hra.1 hq58 hdg hx61).trans (exT_f (by omega))) (by first | omega | (show ¬ (0 : Nat) = 1; decide))).symm ?_
              show zRd g (0, (exEx c 3 ((exAt c 3 (a + 1)).2.1 + 3)).2.1, t, k, n, o, r, u) _
              exact zRd_H ((zxu (by omega) rfl).trans hrc.2.1) (zxu (by omega) rfl) (by omega)
        · refine And.intro (zA_234 hS) ⟨_, sn_G_exM.up (by decide), ?_⟩
          refine ⟨N, c, ((exAt c 3 (a + 1)).2.1 + 2), (61 : Int), rfl, hS, hR, (zTx_fr hT (fun c j h => (zxcj (by omega) (zxcj (by omega) ((p96bbfr c j (by omega)).trans (zxcj (by omega) ((p83bbfr c j (by omega) (by omega) (by omega) (by omega) (by omega) (by omega) (by omega) (by omega)).trans (zxcj (by omega) ((p28bbbbbfr c j (by omega) (by omega) (by omega) (by omega) (by omega) (by omega) (by omega)).trans rfl))))))))), ((show _ = ((pl96o + 1) : Int) from rfl).trans (by omega)), (Eq.trans (b := ((-1) : Int)) ((p96bbfr 234 17 (by omega)).trans hra.2.2.1) (by omega)), (by omega), (by clear hQ; grind [xu]), (by omega), ?_⟩
          intro wl157o I157o p157h17 p157bhpl p157bbfr
          refine And.intro (zA_234 hS) (zrd (v := wl157o) p157h17 ?_)
          refine And.intro ⟨(by omega), (zRb rfl)⟩ ⟨fun h165 => ?_, fun h165 => ?_⟩
          · exact False.elim (by omega)
          · refine hQ _ ?_ (fun c j h0 h1 h2 h3 h4 h5 h6 h7 h8 h9 h10 h11 h12 h13 h14 h15 h16 h17 h18 h19 => ((p157bbfr c j h1).trans (zxcj (by omega) (zxcj h0 ((p96bbfr c j h0).trans (zxcj (by omega) ((p83bbfr c j h0 h1 h3 h6 h7 (by omega) (by omega) h19).trans (zxcj h0 ((p28bbbbbfr c j (by omega) (by omega) (by omega) (by omega) (by omega) (by omega) h2).trans rfl)))))))))
            · refine zRd_x (rdSi_n (y := exF ((exAt c 3 (a + 1)).2.1 + 2)) (sa4 hu hra.1 hq58 hdg hx61) (by first | omega | (show ¬ (0 : Nat) = 1; decide))).symm ?_
              show zRd g (0, ((exAt c 3 (a + 1)).2.1 + 2), t, k, n, o, r, u) _
              exact zRd_K (p157h17.trans (by omega)) (by first | exact zxe | exact zxu (by omega) zxe | exact (p157bbfr 234 16 (by omega)).trans (zxu (by omega) zxe)) (by omega)
      · refine And.intro (zA_234 hS) (zrd (v := (-1)) ((p96bbfr 234 17 (by omega)).trans hra.2.2.1) ?_)
        refine And.intro ⟨(zRb rfl), (zRb rfl)⟩ (zbf rfl ?_)
        refine And.intro (by omega) ⟨fun h118 => ?_, fun h118 => ?_⟩
        · refine And.intro (zA_234 hS) (zrd (v := pl96o) p96h16 ?_)
          refine And.intro (zA_234 hS) ⟨_, (zWi (by omega)), ?_⟩
          refine And.intro (zA_234 hS) (zrd (v := pl96o) p96h16 ?_)
          refine And.intro (zA_234 hS) ⟨_, (zWi (by omega)), ?_⟩
          refine And.intro (zA_234 hS) (zrdR (v := some 240) (zR_234_8 hR) ?_)
          refine And.intro ⟨(zx0 rfl), (zP_240 hS (by omega) (by omega))⟩ ⟨_, (zWi (by omega)), ?_⟩
          refine And.intro (zA_234 hS) ⟨_, sn_G_exF.up (by decide), ?_⟩
          refine ⟨(61 : Int), (pl96o : Int), rfl, hS, hR, rfl, (by clear hQ; grind [xu]), ?_⟩
          refine And.intro (zA_234 hS) (zrd (v := pl96o) rfl ?_)
          refine And.intro ⟨(by omega), (zRb rfl)⟩ ⟨fun h165 => ?_, fun h165 => ?_⟩
          · exact False.elim (by omega)
          · refine hQ _ ?_ (fun c j h0 h1 h2 h3 h4 h5 h6 h7 h8 h9 h10 h11 h12 h13 h14 h15 h16 h17 h18 h19 => (zxcj (by omega) (zxcj h0 (zxcj h1 ((p96bbfr c j h0).trans (zxcj (by omega) ((p83bbfr c j h0 h1 h3 h6 h7 (by omega) (by omega) h19).trans (zxcj h0 ((p28bbbbbfr c j (by omega) (by omega) (by omega) (by omega) (by omega) (by omega) h2).trans rfl)))))))))
            · refine zRd_x (rdSi_n (y := exF ((exAt c 3 (a + 1)).2.1 + 1)) (sa3 hu hra.1 hq58 hdg) (by first | omega | (show ¬ (0 : Nat) = 1; decide))).symm ?_
              show zRd g (0, ((exAt c 3 (a + 1)).2.1 + 1), t, k, n, o, r, u) _
              exact zRd_K ((show _ = (pl96o : Int) from rfl).trans (by omega)) (by first | exact zxe | exact zxu (by omega) zxe | exact (p157bbfr 234 16 (by omega)).trans (zxu (by omega) zxe)) (by omega)
        · refine And.intro ⟨(by omega), (zRb rfl)⟩ ⟨fun h124 => ?_, fun h124 => ?_⟩
          · exact False.elim (by omega)
          · refine And.intro (zA_234 hS) (zrd (v := pl96o) p96h16 ?_)
            refine And.intro (zA_234 hS) ⟨_, (zWi (by omega)), ?_⟩
            refine And.intro (zA_234 hS) (zrd (v := pl96o) p96h16 ?_)
            refine And.intro (zA_234 hS) ⟨_, (zWi (by omega)), ?_⟩
            refine And.intro (zA_234 hS) (zrdR (v := some 240) (zR_234_8 hR) ?_)
            refine And.intro ⟨(zx0 rfl), (zP_240 hS (by omega) (by omega))⟩ ⟨_, (zWi (by omega)), ?_⟩
            refine And.intro (zA_234 hS) ⟨_, sn_G_exF.up (by decide), ?_⟩
            refine ⟨(61 : Int), (pl96o : Int), rfl, hS, hR, rfl, (by clear hQ; grind [xu]), ?_⟩
            refine And.intro (zA_234 hS) (zrd (v := pl96o) rfl ?_)
            refine And.intro ⟨(by omega), (zRb rfl)⟩ ⟨fun h165 => ?_, fun h165 => ?_⟩
            · exact False.elim (by omega)
            · refine hQ _ ?_ (fun c j h0 h1 h2 h3 h4 h5 h6 h7 h8 h9 h10 h11 h12 h13 h14 h15 h16 h17 h18 h19 => (zxcj (by omega) (zxcj h0 (zxcj h1 ((p96bbfr c j h0).trans (zxcj (by omega) ((p83bbfr c j h0 h1 h3 h6 h7 (by omega) (by omega) h19).trans (zxcj h0 ((p28bbbbbfr c j (by omega) (by omega) (by omega) (by omega) (by omega) (by omega) h2).trans rfl)))))))))
              · refine zRd_x (rdSi_n (y := exF ((exAt c 3 (a + 1)).2.1 + 1)) (sa3 hu hra.1 hq58 hdg) (by first | omega | (show ¬ (0 : Nat) = 1; decide))).symm ?_
                show zRd g (0, ((exAt c 3 (a + 1)).2.1 + 1), t, k, n, o, r, u) _
                exact zRd_K ((show _ = (pl96o : Int) from rfl).trans (by omega)) (by first | exact zxe | exact zxu (by omega) zxe | exact (p157bbfr 234 16 (by omega)).trans (zxu (by omega) zxe)) (by omega)
    · refine And.intro (zA_234 hS) ⟨_, sn_G_exM.up (by decide), ?_⟩
      refine ⟨N, c, (exAt c 3 (a + 1)).2.1, (58 : Int), rfl, hS, hR, (zTx_fr hT (fun c j h => (zxcj (by omega) ((p83bbfr c j (by omega) (by omega) (by omega) (by omega) (by omega) (by omega) (by omega) (by omega)).trans (zxcj (by omega) ((p28bbbbbfr c j (by omega) (by omega) (by omega) (by omega) (by omega) (by omega) (by omega)).trans rfl)))))), hra.2.1, (Eq.trans (b := ((-1) : Int)) hra.2.2.1 (by omega)), (by omega), (by clear hQ; grind [xu]), (by omega), ?_⟩
      intro wl96o I96o p96h17 p96bhpl p96bbfr
      refine And.intro (zA_234 hS) ⟨_, sn_G_pk.up (by decide), ?_⟩
      refine ⟨N, c, (exAt c 3 (a + 1)).2.1, rfl, hS, hR, (zTx_fr hT (fun c j h => ((p96bbfr c j (by omega)).trans (zxcj (by omega) ((p83bbfr c j (by omega) (by omega) (by omega) (by omega) (by omega) (by omega) (by omega) (by omega)).trans (zxcj (by omega) ((p28bbbbbfr c j (by omega) (by omega) (by omega) (by omega) (by omega) (by omega) (by omega)).trans rfl))))))), (by first | exact p96h16.trans (by omega) | exact (((p96bbfr 234 _ (by omega)).trans (zxu (by omega) rfl)).trans hra.2.1).trans (by omega) | exact (((p96bbfr 234 _ (by omega)).trans (zxu (by omega) rfl)).trans (by have z8 := hra.2.2; omega))), (by first | omega | (have z8 := hra.2.2; omega)), ?_⟩
      intro v100o p100hv p100bhv2
      have g100 : v100o = c ((exAt c 3 (a + 1)).2.1 + 1) ∨ ¬ c (exAt c 3 (a + 1)).2.1 = 58 ∨ ¬ (exAt c 3 (a + 1)).1 = 1 := (by by_cases q1 : c (exAt c 3 (a + 1)).2.1 = 58; (by_cases q2 : (exAt c 3 (a + 1)).1 = 1; (exact Or.inl (p100hv.trans (congrArg c (by omega)))); exact Or.inr (Or.inr q2)); exact Or.inr (Or.inl q1))
      refine And.intro (zA_234 hS) (zrd (v := wl96o) p96h17 ?_)
      refine And.intro ⟨(by omega), (zRb rfl)⟩ ⟨fun h113 => ?_, fun h113 => ?_⟩
      · refine And.intro (zA_234 hS) (zrd (v := ((exAt c 3 (a + 1)).2.1)) ((p96bbfr 234 16 (by omega)).trans hra.2.1) ?_)
        refine And.intro (zA_234 hS) ⟨_, (zWi (by omega)), ?_⟩
        refine And.intro (zA_234 hS) (zrdR (v := some 240) (zR_234_8 hR) ?_)
        refine And.intro ⟨(zx0 rfl), (zP_240 hS (by omega) (by omega))⟩ ⟨_, (zWi (by omega)), ?_⟩
        refine And.intro (zA_234 hS) ⟨_, sn_G_exF.up (by decide), ?_⟩
        refine ⟨(61 : Int), (wl96o : Int), rfl, hS, hR, p96h17, (by clear hQ; grind [xu]), ?_⟩
        refine And.intro (zA_234 hS) (zrd (v := wl96o) p96h17 ?_)
        refine And.intro ⟨(by omega), (zRb rfl)⟩ ⟨(fun h165 => False.elim (by omega)), fun h165 => ?_⟩
        refine hQ _ ?_ (fun c j h0 h1 h2 h3 h4 h5 h6 h7 h8 h9 h10 h11 h12 h13 h14 h15 h16 h17 h18 h19 => (zxcj (by omega) (zxcj h0 ((p96bbfr c j h1).trans (zxcj (by omega) ((p83bbfr c j h0 h1 h3 h6 h7 (by omega) (by omega) h19).trans (zxcj h0 ((p28bbbbbfr c j (by omega) (by omega) (by omega) (by omega) (by omega) (by omega) h2).trans rfl))))))))
        · refine zRd_x (rdSi_n (y := exF (exAt c 3 (a + 1)).2.1) (sa2 hu hra.1 hq58) (by first | omega | (show ¬ (0 : Nat) = 1; decide))).symm ?_
          show zRd g (0, (exAt c 3 (a + 1)).2.1, t, k, n, o, r, u) _
          exact zRd_K ((show _ = (wl96o : Int) from p96h17).trans (by omega)) (by first | exact zxe | exact zxu (by omega) zxe | exact (p157bbfr 234 16 (by omega)).trans (zxu (by omega) zxe)) (by omega)
      · exact False.elim (by omega)
  · refine And.intro ⟨(zx0 rfl), (zP_241 hS (by omega) (by omega))⟩ ⟨_, (zWi (by omega)), ?_⟩
    refine And.intro ⟨(by omega), (zRb rfl)⟩ ⟨(fun h90 => False.elim (by omega)), fun h90 => ?_⟩
    refine And.intro (zA_234 hS) ⟨_, sn_G_exF.up (by decide), ?_⟩
    refine ⟨(58 : Int), (((exAt c 3 (a + 1)).2.1) : Int), rfl, hS, hR, hra.2.1, (by clear hQ; grind [xu]), ?_⟩
    refine And.intro (zA_234 hS) ⟨_, sn_G_pk.up (by decide), ?_⟩
    refine ⟨N, c, (I83o 234 16).toNat, rfl, hS, hR, (zTx_fr hT (fun c j h => (zxcj (by omega) ((p83bbfr c j (by omega) (by omega) (by omega) (by omega) (by omega) (by omega) (by omega) (by omega)).trans (zxcj (by omega) ((p28bbbbbfr c j (by omega) (by omega) (by omega) (by omega) (by omega) (by omega) (by omega)).trans rfl)))))), (by first | exact p96h16.trans (by omega) | exact ((zxu (by omega) rfl).trans hra.2.1).trans (by omega) | exact ((zxu (by omega) rfl).trans (by have z8 := hra.2.2; omega))), (by first | omega | (have z8 := hra.2.2; omega)), ?_⟩
    intro v100o p100hv p100bhv2
    have g100 : v100o = c ((exAt c 3 (a + 1)).2.1 + 1) ∨ ¬ c (exAt c 3 (a + 1)).2.1 = 58 ∨ ¬ (exAt c 3 (a + 1)).1 = 1 := (by by_cases q1 : c (exAt c 3 (a + 1)).2.1 = 58; (by_cases q2 : (exAt c 3 (a + 1)).1 = 1; (exact Or.inl (p100hv.trans (congrArg c (by omega)))); exact Or.inr (Or.inr q2)); exact Or.inr (Or.inl q1))
    refine And.intro (zA_234 hS) (zrd (v := ((exAt c 3 (a + 1)).2.1)) hra.2.1 ?_)
    refine And.intro ⟨(by omega), (zRb rfl)⟩ ⟨fun h113 => ?_, fun h113 => ?_⟩
    · refine And.intro (zA_234 hS) (fun v137 e137 r137 => ?_)
      have f137 : 0 ≤ v137 ∧ v137 ≤ 450 := (by have z9 := (e137.trans (zxu (by omega) rfl)); have z8 := hra.2.2; omega)
      refine And.intro (zA_234 hS) ⟨_, (zWi (by omega)), ?_⟩
      refine And.intro (zA_234 hS) (zrdR (v := some 240) (zR_234_8 hR) ?_)
      refine And.intro ⟨(zx0 rfl), (zP_240 hS (by omega) (by omega))⟩ ⟨_, (zWi (by omega)), ?_⟩
      refine And.intro (zA_234 hS) ⟨_, sn_G_exF.up (by decide), ?_⟩
      refine ⟨(61 : Int), (((exAt c 3 (a + 1)).2.1) : Int), rfl, hS, hR, hra.2.1, (by clear hQ; grind [xu]), ?_⟩
      refine And.intro (zA_234 hS) (zrd (v := ((exAt c 3 (a + 1)).2.1)) hra.2.1 ?_)
      refine And.intro ⟨(by omega), (zRb rfl)⟩ ⟨(fun h165 => False.elim (by omega)), fun h165 => ?_⟩
      refine hQ _ ?_ (fun c j h0 h1 h2 h3 h4 h5 h6 h7 h8 h9 h10 h11 h12 h13 h14 h15 h16 h17 h18 h19 => (zxcj (by omega) (zxcj h0 (zxcj (by omega) ((p83bbfr c j h0 h1 h3 h6 h7 (by omega) (by omega) h19).trans (zxcj h0 ((p28bbbbbfr c j (by omega) (by omega) (by omega) (by omega) (by omega) (by omega) h2).trans rfl)))))))
      · refine zRd_x (rdSi_n (y := (exAt c 3 (a + 1))) (sa1 hu (by omega)) (by first | omega | (show ¬ (0 : Nat) = 1; decide))).symm ?_
        show zRd g (0, (exAt c 3 (a + 1)).2.1, t, k, n, o, r, u) _
        exact zRd_K ((show _ = (((exAt c 3 (a + 1)).2.1) : Int) from hra.2.1).trans (by omega)) (by first | exact zxe | exact zxu (by omega) zxe | exact (p157bbfr 234 16 (by omega)).trans (zxu (by omega) zxe)) (by omega)
    · exact False.elim (by omega))
