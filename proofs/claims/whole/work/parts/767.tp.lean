/-! tp -/
def T_G_sta : ZT := fun args I L R S Q => ∃ (g : Nat) (N : Nat) (c : Nat → Int) (a : Nat) (t : Nat) (k : Nat) (n : Nat) (o : List (Int × Nat)) (r : Nat → OrT) (u : Nat → Int), args = [zvr 234] ∧ (zSh S) ∧ (zRs R) ∧ (zTx N c I) ∧ (I 234 15 = g) ∧ (g ≤ 1) ∧ (zRd g (1, a, t, k, n, o, r, u) I) ∧ (a ≤ N) ∧ (t ≤ 300 ∧ k ≤ a + 2 * n ∧ n ≤ 100 ∧ o.length ≤ 2) ∧ ∀ (I' : ZI), (zRd g (rdTs c a t k n o r u) I') → (∀ c j : Nat, ¬ (c = 234 ∧ j = 16) → ¬ (c = 234 ∧ j = 17) → ¬ (c = 234 ∧ j = 18) → ¬ (c = 234 ∧ j = 19) → ¬ (c = 234 ∧ j = 20) → ¬ (c = 234 ∧ j = 21) → ¬ (c = 234 ∧ j = 25) → ¬ (c = 234 ∧ j = 27) → ¬ (c = 238 ∧ 600 * g ≤ j ∧ j < 600 * g + 600) → ¬ (c = 239 ∧ 600 * g ≤ j ∧ j < 600 * g + 600) → ¬ (c = 240 ∧ 600 * g ≤ j ∧ j < 600 * g + 600) → ¬ (c = 241 ∧ 600 * g ≤ j ∧ j < 600 * g + 600) → ¬ (c = 242 ∧ 600 * g ≤ j ∧ j < 600 * g + 600) → ¬ (c = 243 ∧ 600 * g ≤ j ∧ j < 600 * g + 600) → ¬ (c = 244 ∧ 26 * g ≤ j ∧ j < 26 * g + 26) → ¬ (c = 245 ∧ 1000 * g ≤ j ∧ j < 1000 * g + 1000) → ¬ (c = 246 ∧ 1000 * g ≤ j ∧ j < 1000 * g + 1000) → ¬ c = 247 → ¬ c = 248 → ¬ c = 250 → I' c j = I c j) → Q none I' L R S
set_option maxHeartbeats 4000000 in
theorem sn_G_sta : ZSnd 7 12 46 T_G_sta := ZSnd.of (zT12_46 6) (by
  rintro args I L R S Q hz ⟨g, N, c, a, t, k, n, o, r, u, rfl, hS, hR, hT, h15, hg, hx, ha, hb, hQ⟩
  obtain ⟨hT1, hT2, hT3⟩ := id hT
  have hn4 := hT2.1
  obtain ⟨⟨xa, xw, xt, xk, xn, xd⟩, hOs, hOr, hFu⟩ := zRd_1 hx
  have hb9 := hT2.2.2 a
  have hb8 := hT2.2.2 (a + 1)
  refine And.intro rfl ?_
  refine And.intro (zA_234 hS) (zrd (v := a) xa ?_)
  refine And.intro (zA_234 hS) ⟨_, sn_G_pk.up (by decide), ?_⟩
  refine ⟨N, c, a, rfl, hS, hR, (zTx_fr hT (fun c j h => rfl)), xa, (by omega), ?_⟩
  intro v6o p6hv p6bhv2
  refine And.intro (zA_234 hS) (zrd (v := n) xn ?_)
  refine And.intro ⟨(by omega), (zRb rfl)⟩ ⟨fun h16 => ?_, fun h16 => ?_⟩
  · refine And.intro (zA_234 hS) (zrd (v := n) xn ?_)
    refine And.intro (zA_234 hS) ⟨_, (zWi (by omega)), ?_⟩
    refine Exists.intro _ (And.intro (zinl_ok (zT12_29 5)) (And.intro rfl ?_))
    refine And.intro ⟨(by omega), (zRb rfl)⟩ ⟨fun h3_39 => ?_, fun h3_39 => ?_⟩
    · refine And.intro (Or.inl rfl) ?_
      refine And.intro (zRb rfl) (zbf rfl ?_)
      refine And.intro ⟨(by omega), (zRb rfl)⟩ ⟨fun h48 => ?_, fun h48 => ?_⟩
      · have t48 : True := trivial
        refine And.intro (zA_234 hS) ⟨_, sn_G_rsa.up (by decide), ?_⟩
        refine ⟨g, N, c, a, t, k, (n + 1), o, r, u, (a : Int), rfl, hS, hR, (zTx_fr hT (fun c j h => (zxcj (by omega) rfl))), h15, (by omega), (zRd_G ((show _ = (a : Int) from xa).trans (by omega)) ((show _ = ((-1) : Int) from xw).trans (by omega)) ((show _ = (t : Int) from xt).trans (by omega)) ((show _ = (k : Int) from xk).trans (by omega)) ((show _ = ((n + 1) : Int) from rfl).trans (by omega)) ((show _ = ((o.length) : Int) from xd).trans (by omega)) (zOs_fr hOs (fun c j h1 h2 => (zxcj (by omega) rfl))) (orA_fr hOr (by omega) (fun c j h1 h2 h3 => (zxcj (by omega) rfl)) (fun c j h1 h2 => (zxcj (by omega) rfl))) (fun f hf => (zxcj (by omega) rfl).trans (hFu f hf))), (by omega), (by omega), (by omega), (by omega), (by omega), (by omega), ?_⟩
        intro I59o p59hR p59bfr
        refine hQ _ ?_ (fun c j h0 h1 h2 h3 h4 h5 h6 h7 h8 h9 h10 h11 h12 h13 h14 h15 h16 h17 h18 h19 => ((p59bfr c j h0 h1 h2 h3 h4 h5 h6 h7 (by omega) (by omega) (by omega) (by omega) (by omega) (by omega) (by omega) (by omega) (by omega) h17 h18 h19).trans (zxcj h4 rfl)))
        · exact zRd_x (rdTs_s (by omega) (by omega)).symm p59hR
      · refine And.intro ⟨(by omega), (zRb rfl)⟩ ⟨fun h54 => ?_, fun h54 => ?_⟩
        · refine ⟨_, sn_G_smp.up (by decide), ?_⟩
          refine ⟨(v6o : Int), rfl, hS, hR, (by omega), ?_⟩
          intro v66o p66hv p66bhv2
          refine And.intro (by omega) ⟨fun h69 => ?_, fun h69 => ?_⟩
          · have t69 : ¬ (c a = 33 ∨ c a = 94 ∨ c a = 43 ∨ c a = 38 ∨ c a = 124 ∨ c a = 60) := (smK_i.mp (by rw [← p6hv, ← p66hv]; exact h69))
            refine And.intro ⟨(by omega), (zRb rfl)⟩ ⟨fun h88 => ?_, fun h88 => ?_⟩
            · refine And.intro ⟨(by omega), (zRb rfl)⟩ ⟨fun h104 => ?_, fun h104 => ?_⟩
              · refine And.intro ⟨(by omega), (zRb rfl)⟩ ⟨fun h121 => ?_, fun h121 => ?_⟩
                · refine And.intro ⟨(by omega), (zRb rfl)⟩ ⟨fun h146 => ?_, (fun h146 => False.elim (by omega))⟩
                  refine And.intro ⟨(by omega), (zRb rfl)⟩ ⟨fun h181 => ?_, fun h181 => ?_⟩
                  · refine Exists.intro _ (And.intro (zinl_ok (zT12_26 5)) (And.intro rfl ?_))
                    refine And.intro ⟨(by omega), (zRb rfl)⟩ ⟨fun h3_193 => ?_, fun h3_193 => ?_⟩
                    · refine And.intro (Or.inl rfl) ?_
                      refine And.intro (zRb rfl) (zbt rfl ?_)
                      refine And.intro (zA_234 hS) (zrd (v := a) xa ?_)
                      refine And.intro (zA_234 hS) ⟨_, (zWi (by omega)), ?_⟩
                      refine hQ _ ?_ (fun c j h0 h1 h2 h3 h4 h5 h6 h7 h8 h9 h10 h11 h12 h13 h14 h15 h16 h17 h18 h19 => (zxcj h1 (zxcj h4 rfl)))
                      · first
                        | (refine zRd_x (rdTs_0 (by omega)).symm ?_
                           exact zRd_K zxe (zxs (by omega) xa) (by omega))
                        | (refine zRd_x ((rdTs_s (by omega) (by omega)).trans (rdSi_n (y := exF a) (stS_f (by omega) (by omega) (by omega) (by omega) t69) (by show ¬ (0 : Nat) = 1; decide))).symm ?_
                           exact zRd_K zxe (zxs (by omega) (zxs (by omega) xa)) (by omega))
                    · refine And.intro ⟨(by omega), (zRb rfl)⟩ ⟨fun h9_193 => ?_, fun h9_193 => ?_⟩
                      · refine And.intro (Or.inl rfl) ?_
                        refine And.intro (zRb rfl) (zbt rfl ?_)
                        refine And.intro (zA_234 hS) (zrd (v := a) xa ?_)
                        refine And.intro (zA_234 hS) ⟨_, (zWi (by omega)), ?_⟩
                        refine hQ _ ?_ (fun c j h0 h1 h2 h3 h4 h5 h6 h7 h8 h9 h10 h11 h12 h13 h14 h15 h16 h17 h18 h19 => (zxcj h1 (zxcj h4 rfl)))
                        · first
                          | (refine zRd_x (rdTs_0 (by omega)).symm ?_
                             exact zRd_K zxe (zxs (by omega) xa) (by omega))
                          | (refine zRd_x ((rdTs_s (by omega) (by omega)).trans (rdSi_n (y := exF a) (stS_f (by omega) (by omega) (by omega) (by omega) t69) (by show ¬ (0 : Nat) = 1; decide))).symm ?_
                             exact zRd_K zxe (zxs (by omega) (zxs (by omega) xa)) (by omega))
                      · refine And.intro (Or.inr rfl) ?_
                        refine And.intro (zRb rfl) (zbf rfl ?_)
                        refine And.intro (zA_234 hS) ⟨_, sn_G_ord.up (by decide), ?_⟩
                        refine ⟨g, t, (18 : Int), (a : Int), rfl, hS, hR, h15, (by omega), xt, (by omega), (by omega), (by omega), ?_⟩
                        intro I203o p203q0 p203bq1 p203bbq2 p203bbbq3 p203bbbbxt p203bbbbbfr
                        refine And.intro (zA_234 hS) (zrdR (v := some 240) (zR_234_8 hR) ?_)
                        refine And.intro (zA_234 hS) (zrd (v := g) ((p203bbbbbfr 234 15 (by omega) (by omega) (by omega) (by omega) (by omega) (by omega) (by omega)).trans h15) ?_)
                        refine And.intro ⟨(zx0 rfl), (zP_240 hS (by omega) (by omega))⟩ ⟨_, (zWi (by omega)), ?_⟩
                        refine And.intro (zA_234 hS) (zrd (v := a) ((p203bbbbbfr 234 16 (by omega) (by omega) (by omega) (by omega) (by omega) (by omega) (by omega)).trans xa) ?_)
                        refine And.intro (zA_234 hS) ⟨_, (zWi (by omega)), ?_⟩
                        rcases (Decidable.em (c (a + 1) = 59)) with hx59 | hx59
                        · refine And.intro (zA_234 hS) ⟨_, sn_G_exY.up (by decide), ?_⟩
                          refine ⟨N, c, (a + 1), (59 : Int), rfl, hS, hR, (zTx_fr hT (fun c j h => (zxcj (by omega) (zxcj (by omega) ((p203bbbbbfr c j (by omega) (by omega) (by omega) (by omega) (by omega) (by omega) (by omega)).trans (zxcj (by omega) rfl)))))), rfl, (Eq.trans (b := ((-1) : Int)) ((p203bbbbbfr 234 17 (by omega) (by omega) (by omega) (by omega) (by omega) (by omega) (by omega)).trans xw) (by omega)), (by omega), (by omega), ?_⟩
                          intro I239o p239h16 p239bfr
                          refine hQ _ ?_ (fun c j h0 h1 h2 h3 h4 h5 h6 h7 h8 h9 h10 h11 h12 h13 h14 h15 h16 h17 h18 h19 => ((p239bfr c j h0).trans (zxcj h0 (zxcj (by omega) ((p203bbbbbfr c j (by omega) (by omega) (by omega) (by omega) (by omega) (by omega) h2).trans (zxcj h4 rfl))))))
                          · refine zRd_x ((rdTs_s (by omega) (by omega)).trans (rdSi_y (y := (1, a + 2, [])) (d := 0) ((stS_c (by omega)).trans (exT_y rfl hx59)) rfl (stO_c (by omega)).1 (stO_c (by omega)).2)).symm ?_
                            show zRd g (1, a + 2, t + 1, k + 0, n + 1, o, upF r t (18, (a : Int), c a - 65, [], [], 0), u) _
                            exact (zRd_G ((show _ = (((a + 1) + 1) : Int) from p239h16).trans (by omega)) ((show _ = ((-1) : Int) from ((p239bfr 234 17 (by omega)).trans ((p203bbbbbfr 234 17 (by omega) (by omega) (by omega) (by omega) (by omega) (by omega) (by omega)).trans xw))).trans (by omega)) ((show _ = ((t + 1) : Int) from ((p239bfr 234 18 (by omega)).trans p203bbbbxt)).trans (by omega)) ((show _ = (k : Int) from ((p239bfr 234 19 (by omega)).trans ((p203bbbbbfr 234 19 (by omega) (by omega) (by omega) (by omega) (by omega) (by omega) (by omega)).trans xk))).trans (by omega)) ((show _ = ((n + 1) : Int) from ((p239bfr 234 20 (by omega)).trans ((p203bbbbbfr 234 20 (by omega) (by omega) (by omega) (by omega) (by omega) (by omega) (by omega)).trans rfl))).trans (by omega)) ((show _ = ((o.length) : Int) from ((p239bfr 234 21 (by omega)).trans ((p203bbbbbfr 234 21 (by omega) (by omega) (by omega) (by omega) (by omega) (by omega) (by omega)).trans xd))).trans (by omega)) (zOs_fr hOs (fun c j h1 h2 => ((p239bfr c j (by omega)).trans (zxcj (by omega) (zxcj (by omega) ((p203bbbbbfr c j (by omega) (by omega) (by omega) (by omega) (by omega) (by omega) (by omega)).trans (zxcj (by omega) rfl))))))) (orA_up hOr (by omega) (fun c j h1 h2 h3 => ((p239bfr c j (by omega)).trans (zxcj (by omega) (zxcj (by omega) ((p203bbbbbfr c j (by omega) (by omega) (by omega) (by omega) (by omega) (by omega) (by omega)).trans (zxcj (by omega) rfl)))))) (fun c j h1 h2 => ((p239bfr c j (by omega)).trans (zxcj (by omega) (zxcj (by omega) ((p203bbbbbfr c j (by omega) (by omega) (by omega) (by omega) (by omega) (by omega) (by omega)).trans (zxcj (by omega) rfl)))))) (zOr_0 (((p239bfr 238 _ (by omega)).trans (zxu (by omega) (zxu (by omega) rfl))).trans p203q0) ((((p239bfr 239 _ (by omega)).trans (zxu (by omega) (zxu (by omega) rfl))).trans p203bq1).trans (by omega)) ((rfl.trans ((p239bfr 240 _ (by omega)).trans (zxu (by omega) (zxe' (by omega))))).trans (by omega)) (((p239bfr 243 _ (by omega)).trans (zxu (by omega) (zxu (by omega) rfl))).trans p203bbbq3) (by unfold hsL; omega))) (fun f hf => ((p239bfr 244 _ (by omega)).trans (zxcj (by omega) (zxcj (by omega) ((p203bbbbbfr 244 _ (by omega) (by omega) (by omega) (by omega) (by omega) (by omega) (by omega)).trans (zxcj (by omega) rfl))))).trans (hFu f hf)))
                        · refine And.intro (zA_234 hS) ⟨_, sn_G_exN.up (by decide), ?_⟩
                          refine ⟨N, c, (a + 1), (59 : Int), rfl, hS, hR, (zTx_fr hT (fun c j h => (zxcj (by omega) (zxcj (by omega) ((p203bbbbbfr c j (by omega) (by omega) (by omega) (by omega) (by omega) (by omega) (by omega)).trans (zxcj (by omega) rfl)))))), rfl, (Eq.trans (b := ((-1) : Int)) ((p203bbbbbfr 234 17 (by omega) (by omega) (by omega) (by omega) (by omega) (by omega) (by omega)).trans xw) (by omega)), (by omega), (by clear hQ; grind [xu]), (by omega), ?_⟩
                          intro I239o p239h17 p239bfr
                          refine hQ _ ?_ (fun c j h0 h1 h2 h3 h4 h5 h6 h7 h8 h9 h10 h11 h12 h13 h14 h15 h16 h17 h18 h19 => ((p239bfr c j h1).trans (zxcj h0 (zxcj (by omega) ((p203bbbbbfr c j (by omega) (by omega) (by omega) (by omega) (by omega) (by omega) h2).trans (zxcj h4 rfl))))))
                          · refine zRd_x ((rdTs_s (by omega) (by omega)).trans (rdSi_n (y := exF (a + 1)) ((stS_c (by omega)).trans (exT_n rfl hx59)) (by show ¬ (0 : Nat) = 1; decide))).symm ?_
                            exact zRd_K p239h17 ((p239bfr 234 16 (by omega)).trans zxe) (by omega)
                  · refine And.intro (zA_234 hS) ⟨_, sn_G_rfn.up (by decide), ?_⟩
                    refine ⟨g, N, c, a, t, k, (n + 1), o, r, u, (a : Int), rfl, hS, hR, (zTx_fr hT (fun c j h => (zxcj (by omega) rfl))), h15, (by omega), (zRd_G ((show _ = (a : Int) from xa).trans (by omega)) ((show _ = ((-1) : Int) from xw).trans (by omega)) ((show _ = (t : Int) from xt).trans (by omega)) ((show _ = (k : Int) from xk).trans (by omega)) ((show _ = ((n + 1) : Int) from rfl).trans (by omega)) ((show _ = ((o.length) : Int) from xd).trans (by omega)) (zOs_fr hOs (fun c j h1 h2 => (zxcj (by omega) rfl))) (orA_fr hOr (by omega) (fun c j h1 h2 h3 => (zxcj (by omega) rfl)) (fun c j h1 h2 => (zxcj (by omega) rfl))) (fun f hf => (zxcj (by omega) rfl).trans (hFu f hf))), (by omega), (by omega), (by omega), (by omega), (by omega), (by omega), ?_⟩
                    intro I186o p186hR p186bfr
                    refine hQ _ ?_ (fun c j h0 h1 h2 h3 h4 h5 h6 h7 h8 h9 h10 h11 h12 h13 h14 h15 h16 h17 h18 h19 => ((p186bfr c j h0 h1 h2 h3 h4 h5 h6 h7 (by omega) (by omega) (by omega) (by omega) (by omega) (by omega) (by omega) (by omega) (by omega) h17 h18 h19).trans (zxcj h4 rfl)))
                    · exact zRd_x (rdTs_f (by omega) (by omega)).symm p186hR
                · refine And.intro (zA_234 hS) ⟨_, sn_G_ord.up (by decide), ?_⟩
                  refine ⟨g, t, (7 : Int), (a : Int), rfl, hS, hR, h15, (by omega), xt, (by omega), (by omega), (by omega), ?_⟩
                  intro I128o p128q0 p128bq1 p128bbq2 p128bbbq3 p128bbbbxt p128bbbbbfr
                  refine And.intro (zA_234 hS) ⟨_, sn_G_opn.up (by decide), ?_⟩
                  refine ⟨g, N, c, a, (t + 1), k, (n + 1), o, (upF r t (7, (a : Int), 0, [], [], 0)), u, (4 : Int), (91 : Int), t, (t : Int), rfl, hS, hR, (zTx_fr hT (fun c j h => ((p128bbbbbfr c j (by omega) (by omega) (by omega) (by omega) (by omega) (by omega) (by omega)).trans (zxcj (by omega) rfl)))), ((p128bbbbbfr 234 15 (by omega) (by omega) (by omega) (by omega) (by omega) (by omega) (by omega)).trans h15), (by omega), (zRd_G ((show _ = (a : Int) from ((p128bbbbbfr 234 16 (by omega) (by omega) (by omega) (by omega) (by omega) (by omega) (by omega)).trans xa)).trans (by omega)) ((show _ = ((-1) : Int) from ((p128bbbbbfr 234 17 (by omega) (by omega) (by omega) (by omega) (by omega) (by omega) (by omega)).trans xw)).trans (by omega)) ((show _ = ((t + 1) : Int) from p128bbbbxt).trans (by omega)) ((show _ = (k : Int) from ((p128bbbbbfr 234 19 (by omega) (by omega) (by omega) (by omega) (by omega) (by omega) (by omega)).trans xk)).trans (by omega)) ((show _ = ((n + 1) : Int) from ((p128bbbbbfr 234 20 (by omega) (by omega) (by omega) (by omega) (by omega) (by omega) (by omega)).trans rfl)).trans (by omega)) ((show _ = ((o.length) : Int) from ((p128bbbbbfr 234 21 (by omega) (by omega) (by omega) (by omega) (by omega) (by omega) (by omega)).trans xd)).trans (by omega)) (zOs_fr hOs (fun c j h1 h2 => ((p128bbbbbfr c j (by omega) (by omega) (by omega) (by omega) (by omega) (by omega) (by omega)).trans (zxcj (by omega) rfl)))) (orA_up hOr (by omega) (fun c j h1 h2 h3 => ((p128bbbbbfr c j (by omega) (by omega) (by omega) (by omega) (by omega) (by omega) (by omega)).trans (zxcj (by omega) rfl))) (fun c j h1 h2 => ((p128bbbbbfr c j (by omega) (by omega) (by omega) (by omega) (by omega) (by omega) (by omega)).trans (zxcj (by omega) rfl))) (zOr_0 (rfl.trans p128q0) ((rfl.trans p128bq1).trans (by omega)) (rfl.trans p128bbq2) (rfl.trans p128bbbq3) (by unfold hsL; omega))) (fun f hf => ((p128bbbbbfr 244 _ (by omega) (by omega) (by omega) (by omega) (by omega) (by omega) (by omega)).trans (zxcj (by omega) rfl)).trans (hFu f hf))), (by omega), (by omega), (by omega), (by omega), (by omega), ?_⟩
                  intro I137o p137hR p137bfr
                  refine hQ _ ?_ (fun c j h0 h1 h2 h3 h4 h5 h6 h7 h8 h9 h10 h11 h12 h13 h14 h15 h16 h17 h18 h19 => ((p137bfr c j h0 h1 h5 h17 h18).trans ((p128bbbbbfr c j (by omega) (by omega) (by omega) (by omega) (by omega) (by omega) h2).trans (zxcj h4 rfl))))
                  · exact zRd_x (rdTs_b (by omega) (by omega)).symm p137hR
              · refine And.intro (zA_234 hS) ⟨_, sn_G_rbw.up (by decide), ?_⟩
                refine ⟨g, N, c, a, t, k, (n + 1), o, r, u, (6 : Int), (3 : Int), (a : Int), rfl, hS, hR, (zTx_fr hT (fun c j h => (zxcj (by omega) rfl))), h15, (by omega), (zRd_G ((show _ = (a : Int) from xa).trans (by omega)) ((show _ = ((-1) : Int) from xw).trans (by omega)) ((show _ = (t : Int) from xt).trans (by omega)) ((show _ = (k : Int) from xk).trans (by omega)) ((show _ = ((n + 1) : Int) from rfl).trans (by omega)) ((show _ = ((o.length) : Int) from xd).trans (by omega)) (zOs_fr hOs (fun c j h1 h2 => (zxcj (by omega) rfl))) (orA_fr hOr (by omega) (fun c j h1 h2 h3 => (zxcj (by omega) rfl)) (fun c j h1 h2 => (zxcj (by omega) rfl))) (fun f hf => (zxcj (by omega) rfl).trans (hFu f hf))), (by omega), (by omega), (by omega), (by omega), (Or.inr rfl), (by omega), (by omega), (by omega), ?_⟩
                intro I112o p112hR p112bfr
                refine hQ _ ?_ (fun c j h0 h1 h2 h3 h4 h5 h6 h7 h8 h9 h10 h11 h12 h13 h14 h15 h16 h17 h18 h19 => ((p112bfr c j h0 h1 h2 h3 h4 h5 h6 h7 (by omega) (by omega) (by omega) (by omega) (by omega) (by omega) (by omega) (by omega) (by omega) h17 h18 h19).trans (zxcj h4 rfl)))
                · exact zRd_x (rdTs_l (by omega) (by omega)).symm p112hR
            · refine And.intro (zA_234 hS) ⟨_, sn_G_rbw.up (by decide), ?_⟩
              refine ⟨g, N, c, a, t, k, (n + 1), o, r, u, (5 : Int), (1 : Int), (a : Int), rfl, hS, hR, (zTx_fr hT (fun c j h => (zxcj (by omega) rfl))), h15, (by omega), (zRd_G ((show _ = (a : Int) from xa).trans (by omega)) ((show _ = ((-1) : Int) from xw).trans (by omega)) ((show _ = (t : Int) from xt).trans (by omega)) ((show _ = (k : Int) from xk).trans (by omega)) ((show _ = ((n + 1) : Int) from rfl).trans (by omega)) ((show _ = ((o.length) : Int) from xd).trans (by omega)) (zOs_fr hOs (fun c j h1 h2 => (zxcj (by omega) rfl))) (orA_fr hOr (by omega) (fun c j h1 h2 h3 => (zxcj (by omega) rfl)) (fun c j h1 h2 => (zxcj (by omega) rfl))) (fun f hf => (zxcj (by omega) rfl).trans (hFu f hf))), (by omega), (by omega), (by omega), (by omega), (Or.inl rfl), (by omega), (by omega), (by omega), ?_⟩
              intro I95o p95hR p95bfr
              refine hQ _ ?_ (fun c j h0 h1 h2 h3 h4 h5 h6 h7 h8 h9 h10 h11 h12 h13 h14 h15 h16 h17 h18 h19 => ((p95bfr c j h0 h1 h2 h3 h4 h5 h6 h7 (by omega) (by omega) (by omega) (by omega) (by omega) (by omega) (by omega) (by omega) (by omega) h17 h18 h19).trans (zxcj h4 rfl)))
              · exact zRd_x (rdTs_q (by omega) (by omega)).symm p95hR
          · have t69 : c a = 33 ∨ c a = 94 ∨ c a = 43 ∨ c a = 38 ∨ c a = 124 ∨ c a = 60 := (Decidable.byContradiction (fun q => h69 (by rw [p66hv, p6hv]; exact smK_i.mpr q)))
            refine ⟨_, sn_G_smp.up (by decide), ?_⟩
            refine ⟨(v6o : Int), rfl, hS, hR, (by omega), ?_⟩
            intro v74o p74hv p74bhv2
            refine And.intro (zA_234 hS) ⟨_, sn_G_rsi.up (by decide), ?_⟩
            refine ⟨g, N, c, a, t, k, (n + 1), o, r, u, (v74o : Int), (a : Int), rfl, hS, hR, (zTx_fr hT (fun c j h => (zxcj (by omega) rfl))), h15, (by omega), (zRd_G ((show _ = (a : Int) from xa).trans (by omega)) ((show _ = ((-1) : Int) from xw).trans (by omega)) ((show _ = (t : Int) from xt).trans (by omega)) ((show _ = (k : Int) from xk).trans (by omega)) ((show _ = ((n + 1) : Int) from rfl).trans (by omega)) ((show _ = ((o.length) : Int) from xd).trans (by omega)) (zOs_fr hOs (fun c j h1 h2 => (zxcj (by omega) rfl))) (orA_fr hOr (by omega) (fun c j h1 h2 h3 => (zxcj (by omega) rfl)) (fun c j h1 h2 => (zxcj (by omega) rfl))) (fun f hf => (zxcj (by omega) rfl).trans (hFu f hf))), (by omega), (by omega), (by omega), ⟨by rw [p74hv, p6hv], by omega⟩, t69, (by omega), ?_⟩
            intro I78o p78hR p78bfr
            refine hQ _ ?_ (fun c j h0 h1 h2 h3 h4 h5 h6 h7 h8 h9 h10 h11 h12 h13 h14 h15 h16 h17 h18 h19 => ((p78bfr c j h0 h1 h2 h3 h4 h5 h6 h7 (by omega) (by omega) (by omega) (by omega) (by omega) (by omega) (by omega) (by omega) (by omega) h17 h18 h19).trans (zxcj h4 rfl)))
            · exact zRd_x (rdTs_s (by omega) (by omega)).symm p78hR
        · refine And.intro (zA_234 hS) ⟨_, sn_G_rsq.up (by decide), ?_⟩
          refine ⟨g, N, c, a, t, k, (n + 1), o, r, u, (a : Int), rfl, hS, hR, (zTx_fr hT (fun c j h => (zxcj (by omega) rfl))), h15, (by omega), (zRd_G ((show _ = (a : Int) from xa).trans (by omega)) ((show _ = ((-1) : Int) from xw).trans (by omega)) ((show _ = (t : Int) from xt).trans (by omega)) ((show _ = (k : Int) from xk).trans (by omega)) ((show _ = ((n + 1) : Int) from rfl).trans (by omega)) ((show _ = ((o.length) : Int) from xd).trans (by omega)) (zOs_fr hOs (fun c j h1 h2 => (zxcj (by omega) rfl))) (orA_fr hOr (by omega) (fun c j h1 h2 h3 => (zxcj (by omega) rfl)) (fun c j h1 h2 => (zxcj (by omega) rfl))) (fun f hf => (zxcj (by omega) rfl).trans (hFu f hf))), (by omega), (by omega), (by omega), (by omega), (by omega), (by omega), ?_⟩
          intro I59o p59hR p59bfr
          refine hQ _ ?_ (fun c j h0 h1 h2 h3 h4 h5 h6 h7 h8 h9 h10 h11 h12 h13 h14 h15 h16 h17 h18 h19 => ((p59bfr c j h0 h1 h2 h3 h4 h5 h6 h7 (by omega) (by omega) (by omega) (by omega) (by omega) (by omega) (by omega) (by omega) (by omega) h17 h18 h19).trans (zxcj h4 rfl)))
          · exact zRd_x (rdTs_s (by omega) (by omega)).symm p59hR
    · refine And.intro ⟨(by omega), (zRb rfl)⟩ ⟨fun h9_39 => ?_, fun h9_39 => ?_⟩
      · refine And.intro (Or.inl rfl) ?_
        refine And.intro (zRb rfl) (zbf rfl ?_)
        refine And.intro ⟨(by omega), (zRb rfl)⟩ ⟨(fun h48 => False.elim (by omega)), fun h48 => ?_⟩
        refine And.intro ⟨(by omega), (zRb rfl)⟩ ⟨fun h54 => ?_, (fun h54 => False.elim (by omega))⟩
        refine ⟨_, sn_G_smp.up (by decide), ?_⟩
        refine ⟨(v6o : Int), rfl, hS, hR, (by omega), ?_⟩
        intro v66o p66hv p66bhv2
        refine And.intro (by omega) ⟨fun h69 => ?_, fun h69 => ?_⟩
        · have t69 : ¬ (c a = 33 ∨ c a = 94 ∨ c a = 43 ∨ c a = 38 ∨ c a = 124 ∨ c a = 60) := (smK_i.mp (by rw [← p6hv, ← p66hv]; exact h69))
          refine And.intro ⟨(by omega), (zRb rfl)⟩ ⟨fun h88 => ?_, (fun h88 => False.elim (by omega))⟩
          refine And.intro ⟨(by omega), (zRb rfl)⟩ ⟨fun h104 => ?_, (fun h104 => False.elim (by omega))⟩
          refine And.intro ⟨(by omega), (zRb rfl)⟩ ⟨fun h121 => ?_, (fun h121 => False.elim (by omega))⟩
          refine And.intro ⟨(by omega), (zRb rfl)⟩ ⟨fun h146 => ?_, fun h146 => ?_⟩
          · refine And.intro ⟨(by omega), (zRb rfl)⟩ ⟨fun h181 => ?_, (fun h181 => False.elim (by omega))⟩
            refine Exists.intro _ (And.intro (zinl_ok (zT12_26 5)) (And.intro rfl ?_))
            refine And.intro ⟨(by omega), (zRb rfl)⟩ ⟨(fun h3_193 => False.elim (by omega)), fun h3_193 => ?_⟩
            refine And.intro ⟨(by omega), (zRb rfl)⟩ ⟨fun h9_193 => ?_, (fun h9_193 => False.elim (by omega))⟩
            refine And.intro (Or.inl rfl) ?_
            refine And.intro (zRb rfl) (zbt rfl ?_)
            refine And.intro (zA_234 hS) (zrd (v := a) xa ?_)
            refine And.intro (zA_234 hS) ⟨_, (zWi (by omega)), ?_⟩
            refine hQ _ ?_ (fun c j h0 h1 h2 h3 h4 h5 h6 h7 h8 h9 h10 h11 h12 h13 h14 h15 h16 h17 h18 h19 => (zxcj h1 (zxcj h4 rfl)))
            · first
              | (refine zRd_x (rdTs_0 (by omega)).symm ?_
                 exact zRd_K zxe (zxs (by omega) xa) (by omega))
              | (refine zRd_x ((rdTs_s (by omega) (by omega)).trans (rdSi_n (y := exF a) (stS_f (by omega) (by omega) (by omega) (by omega) t69) (by show ¬ (0 : Nat) = 1; decide))).symm ?_
                 exact zRd_K zxe (zxs (by omega) (zxs (by omega) xa)) (by omega))
          · refine And.intro (zA_234 hS) ⟨_, sn_G_ord.up (by decide), ?_⟩
            refine ⟨g, t, (9 : Int), (a : Int), rfl, hS, hR, h15, (by omega), xt, (by omega), (by omega), (by omega), ?_⟩
            intro I153o p153q0 p153bq1 p153bbq2 p153bbbq3 p153bbbbxt p153bbbbbfr
            refine And.intro (zA_234 hS) (zrd (v := a) ((p153bbbbbfr 234 16 (by omega) (by omega) (by omega) (by omega) (by omega) (by omega) (by omega)).trans xa) ?_)
            refine And.intro (zA_234 hS) ⟨_, (zWi (by omega)), ?_⟩
            refine And.intro (zA_234 hS) ⟨_, sn_G_opn.up (by decide), ?_⟩
            refine ⟨g, N, c, (a + 1), (t + 1), k, (n + 1), o, (upF r t (9, (a : Int), 0, [], [], 0)), u, (5 : Int), (123 : Int), t, (t : Int), rfl, hS, hR, (zTx_fr hT (fun c j h => (zxcj (by omega) ((p153bbbbbfr c j (by omega) (by omega) (by omega) (by omega) (by omega) (by omega) (by omega)).trans (zxcj (by omega) rfl))))), ((p153bbbbbfr 234 15 (by omega) (by omega) (by omega) (by omega) (by omega) (by omega) (by omega)).trans h15), (by omega), (zRd_G ((show _ = ((a + 1) : Int) from rfl).trans (by omega)) ((show _ = ((-1) : Int) from ((p153bbbbbfr 234 17 (by omega) (by omega) (by omega) (by omega) (by omega) (by omega) (by omega)).trans xw)).trans (by omega)) ((show _ = ((t + 1) : Int) from p153bbbbxt).trans (by omega)) ((show _ = (k : Int) from ((p153bbbbbfr 234 19 (by omega) (by omega) (by omega) (by omega) (by omega) (by omega) (by omega)).trans xk)).trans (by omega)) ((show _ = ((n + 1) : Int) from ((p153bbbbbfr 234 20 (by omega) (by omega) (by omega) (by omega) (by omega) (by omega) (by omega)).trans rfl)).trans (by omega)) ((show _ = ((o.length) : Int) from ((p153bbbbbfr 234 21 (by omega) (by omega) (by omega) (by omega) (by omega) (by omega) (by omega)).trans xd)).trans (by omega)) (zOs_fr hOs (fun c j h1 h2 => (zxcj (by omega) ((p153bbbbbfr c j (by omega) (by omega) (by omega) (by omega) (by omega) (by omega) (by omega)).trans (zxcj (by omega) rfl))))) (orA_up hOr (by omega) (fun c j h1 h2 h3 => (zxcj (by omega) ((p153bbbbbfr c j (by omega) (by omega) (by omega) (by omega) (by omega) (by omega) (by omega)).trans (zxcj (by omega) rfl)))) (fun c j h1 h2 => (zxcj (by omega) ((p153bbbbbfr c j (by omega) (by omega) (by omega) (by omega) (by omega) (by omega) (by omega)).trans (zxcj (by omega) rfl)))) (zOr_0 ((zxu (by omega) rfl).trans p153q0) (((zxu (by omega) rfl).trans p153bq1).trans (by omega)) ((zxu (by omega) rfl).trans p153bbq2) ((zxu (by omega) rfl).trans p153bbbq3) (by unfold hsL; omega))) (fun f hf => (zxcj (by omega) ((p153bbbbbfr 244 _ (by omega) (by omega) (by omega) (by omega) (by omega) (by omega) (by omega)).trans (zxcj (by omega) rfl))).trans (hFu f hf))), (eTx_lt hT2 (by omega)), (by omega), (by omega), (by omega), (by omega), ?_⟩
            intro I172o p172hR p172bfr
            refine hQ _ ?_ (fun c j h0 h1 h2 h3 h4 h5 h6 h7 h8 h9 h10 h11 h12 h13 h14 h15 h16 h17 h18 h19 => ((p172bfr c j h0 h1 h5 h17 h18).trans (zxcj h0 ((p153bbbbbfr c j (by omega) (by omega) (by omega) (by omega) (by omega) (by omega) h2).trans (zxcj h4 rfl)))))
            · exact zRd_x (rdTs_t (by omega) (by omega)).symm p172hR
        · have t69 : c a = 33 ∨ c a = 94 ∨ c a = 43 ∨ c a = 38 ∨ c a = 124 ∨ c a = 60 := (Decidable.byContradiction (fun q => h69 (by rw [p66hv, p6hv]; exact smK_i.mpr q)))
          refine ⟨_, sn_G_smp.up (by decide), ?_⟩
          refine ⟨(v6o : Int), rfl, hS, hR, (by omega), ?_⟩
          intro v74o p74hv p74bhv2
          refine And.intro (zA_234 hS) ⟨_, sn_G_rsi.up (by decide), ?_⟩
          refine ⟨g, N, c, a, t, k, (n + 1), o, r, u, (v74o : Int), (a : Int), rfl, hS, hR, (zTx_fr hT (fun c j h => (zxcj (by omega) rfl))), h15, (by omega), (zRd_G ((show _ = (a : Int) from xa).trans (by omega)) ((show _ = ((-1) : Int) from xw).trans (by omega)) ((show _ = (t : Int) from xt).trans (by omega)) ((show _ = (k : Int) from xk).trans (by omega)) ((show _ = ((n + 1) : Int) from rfl).trans (by omega)) ((show _ = ((o.length) : Int) from xd).trans (by omega)) (zOs_fr hOs (fun c j h1 h2 => (zxcj (by omega) rfl))) (orA_fr hOr (by omega) (fun c j h1 h2 h3 => (zxcj (by omega) rfl)) (fun c j h1 h2 => (zxcj (by omega) rfl))) (fun f hf => (zxcj (by omega) rfl).trans (hFu f hf))), (by omega), (by omega), (by omega), ⟨by rw [p74hv, p6hv], by omega⟩, t69, (by omega), ?_⟩
          intro I78o p78hR p78bfr
          refine hQ _ ?_ (fun c j h0 h1 h2 h3 h4 h5 h6 h7 h8 h9 h10 h11 h12 h13 h14 h15 h16 h17 h18 h19 => ((p78bfr c j h0 h1 h2 h3 h4 h5 h6 h7 (by omega) (by omega) (by omega) (by omega) (by omega) (by omega) (by omega) (by omega) (by omega) h17 h18 h19).trans (zxcj h4 rfl)))
          · exact zRd_x (rdTs_s (by omega) (by omega)).symm p78hR
      · have t9_39 : True := trivial
        refine And.intro (Or.inr rfl) ?_
        refine And.intro (zRb rfl) (zbt rfl ?_)
        refine And.intro (zA_234 hS) ⟨_, sn_G_rsv.up (by decide), ?_⟩
        refine ⟨g, N, c, a, t, k, (n + 1), o, r, u, (a : Int), rfl, hS, hR, (zTx_fr hT (fun c j h => (zxcj (by omega) rfl))), h15, (by omega), (zRd_G ((show _ = (a : Int) from xa).trans (by omega)) ((show _ = ((-1) : Int) from xw).trans (by omega)) ((show _ = (t : Int) from xt).trans (by omega)) ((show _ = (k : Int) from xk).trans (by omega)) ((show _ = ((n + 1) : Int) from rfl).trans (by omega)) ((show _ = ((o.length) : Int) from xd).trans (by omega)) (zOs_fr hOs (fun c j h1 h2 => (zxcj (by omega) rfl))) (orA_fr hOr (by omega) (fun c j h1 h2 h3 => (zxcj (by omega) rfl)) (fun c j h1 h2 => (zxcj (by omega) rfl))) (fun f hf => (zxcj (by omega) rfl).trans (hFu f hf))), (by omega), (by omega), (by omega), (by omega), (by omega), (by omega), ?_⟩
        intro I59o p59hR p59bfr
        refine hQ _ ?_ (fun c j h0 h1 h2 h3 h4 h5 h6 h7 h8 h9 h10 h11 h12 h13 h14 h15 h16 h17 h18 h19 => ((p59bfr c j h0 h1 h2 h3 h4 h5 h6 h7 (by omega) (by omega) (by omega) (by omega) (by omega) (by omega) (by omega) (by omega) (by omega) h17 h18 h19).trans (zxcj h4 rfl)))
        · exact zRd_x (rdTs_s (by omega) (by omega)).symm p59hR
  · refine And.intro (zA_234 hS) (zrd (v := a) xa ?_)
    refine And.intro (zA_234 hS) ⟨_, (zWi (by omega)), ?_⟩
    refine hQ _ ?_ (fun c j h0 h1 h2 h3 h4 h5 h6 h7 h8 h9 h10 h11 h12 h13 h14 h15 h16 h17 h18 h19 => (zxcj h1 rfl))
    · first
      | (refine zRd_x (rdTs_0 (by omega)).symm ?_
         exact zRd_K zxe (zxs (by omega) xa) (by omega))
      | (refine zRd_x ((rdTs_s (by omega) (by omega)).trans (rdSi_n (y := exF a) (stS_f (by omega) (by omega) (by omega) (by omega) t69) (by show ¬ (0 : Nat) = 1; decide))).symm ?_
         exact zRd_K zxe (zxs (by omega) (zxs (by omega) xa)) (by omega)))
