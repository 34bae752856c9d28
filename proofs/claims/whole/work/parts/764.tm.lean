/-! tm -/
def T_G_rbw : ZT := fun args I L R S Q => ∃ (g : Nat) (N : Nat) (c : Nat → Int) (a : Nat) (t : Nat) (k : Nat) (n : Nat) (o : List (Int × Nat)) (r : Nat → OrT) (u : Nat → Int) (kd : Int) (bk : Int) (b : Int), args = [zvr 234, zvi kd, zvi bk, zvi b] ∧ (zSh S) ∧ (zRs R) ∧ (zTx N c I) ∧ (I 234 15 = g) ∧ (g ≤ 1) ∧ (zRd g (1, a, t, k, n, o, r, u) I) ∧ (a ≤ N) ∧ (t ≤ 500 ∧ k ≤ a + 200 ∧ n ≤ 100 ∧ o.length ≤ 2) ∧ (k ≤ a + 198) ∧ (t ≤ 400) ∧ (kd = 5 ∨ kd = 6) ∧ (1 ≤ bk ∧ bk ≤ 7) ∧ (c a ≠ -1) ∧ (b = a) ∧ ∀ (I' : ZI), (zRd g (rdBw c kd bk a t k n o r u) I') → (∀ c j : Nat, ¬ (c = 234 ∧ j = 16) → ¬ (c = 234 ∧ j = 17) → ¬ (c = 234 ∧ j = 18) → ¬ (c = 234 ∧ j = 19) → ¬ (c = 234 ∧ j = 20) → ¬ (c = 234 ∧ j = 21) → ¬ (c = 234 ∧ j = 25) → ¬ (c = 234 ∧ j = 27) → ¬ (c = 238 ∧ 600 * g ≤ j ∧ j < 600 * g + 600) → ¬ (c = 239 ∧ 600 * g ≤ j ∧ j < 600 * g + 600) → ¬ (c = 240 ∧ 600 * g ≤ j ∧ j < 600 * g + 600) → ¬ (c = 241 ∧ 600 * g ≤ j ∧ j < 600 * g + 600) → ¬ (c = 242 ∧ 600 * g ≤ j ∧ j < 600 * g + 600) → ¬ (c = 243 ∧ 600 * g ≤ j ∧ j < 600 * g + 600) → ¬ (c = 244 ∧ 26 * g ≤ j ∧ j < 26 * g + 26) → ¬ (c = 245 ∧ 1000 * g ≤ j ∧ j < 1000 * g + 1000) → ¬ (c = 246 ∧ 1000 * g ≤ j ∧ j < 1000 * g + 1000) → ¬ c = 247 → ¬ c = 248 → ¬ c = 250 → I' c j = I c j) → Q none I' L R S
theorem sn_G_rbw : ZSnd 6 12 40 T_G_rbw := ZSnd.of (zT12_40 5) (by
  rintro args I L R S Q hz ⟨g, N, c, a, t, k, n, o, r, u, kd, bk, b, rfl, hS, hR, hT, h15, hg, hx, ha, hb, hk2, ht4, hkd, hbk, hu, hbb, hQ⟩
  obtain ⟨hT1, hT2, hT3⟩ := id hT
  have hn4 := hT2.1
  obtain ⟨⟨xa, xw, xt, xk, xn, xd⟩, hOs, hOr, hFu⟩ := zRd_1 hx
  have hb9 := hT2.2.2 a
  have hb8 := hT2.2.2 (a + 1)
  have ha1 : a + 1 ≤ N := eTx_lt hT2 (by omega)
  have hxo := exEx_ok hT2 (r := 3) ha1
  have hxn : (exEx c 3 (a + 1)).2.1 ≤ N := by unfold exOk at hxo; omega
  refine And.intro rfl ?_
  refine And.intro (zA_234 hS) (zrd (v := a) xa ?_)
  refine And.intro (zA_234 hS) ⟨_, (zWi (by omega)), ?_⟩
  refine And.intro (zA_234 hS) ⟨_, sn_G_ord.up (by decide), ?_⟩
  refine ⟨g, t, (kd : Int), (b : Int), rfl, hS, hR, h15, (by omega), xt, (by omega), (by omega), (by omega), ?_⟩
  intro I13o p13q0 p13bq1 p13bbq2 p13bbbq3 p13bbbbxt p13bbbbbfr
  refine And.intro (zA_234 hS) (zrdR (v := some 242) (zR_234_10 hR) ?_)
  refine And.intro (zA_234 hS) (zrd (v := g) ((p13bbbbbfr 234 15 (by omega) (by omega) (by omega) (by omega) (by omega) (by omega) (by omega)).trans h15) ?_)
  refine And.intro (zA_234 hS) ⟨_, sn_G_rc1.up (by decide), ?_⟩
  refine ⟨g, k, N, c, (a + 1), rfl, hS, hR, (zTx_fr hT (fun c j h => ((p13bbbbbfr c j (by omega) (by omega) (by omega) (by omega) (by omega) (by omega) (by omega)).trans (zxcj (by omega) rfl)))), ((p13bbbbbfr 234 15 (by omega) (by omega) (by omega) (by omega) (by omega) (by omega) (by omega)).trans h15), (by omega), ((p13bbbbbfr 234 19 (by omega) (by omega) (by omega) (by omega) (by omega) (by omega) (by omega)).trans xk), ((p13bbbbbfr 234 16 (by omega) (by omega) (by omega) (by omega) (by omega) (by omega) (by omega)).trans rfl), (Eq.trans (b := ((-1) : Int)) ((p13bbbbbfr 234 17 (by omega) (by omega) (by omega) (by omega) (by omega) (by omega) (by omega)).trans xw) (by omega)), (by omega), (by omega), ?_⟩
  intro v35o I35o p35hv p35bhR p35bbfr
  rcases p35bhR with hrc | hrc
  · refine And.intro ⟨(zx0 rfl), (zP_242 hS (by omega) (by omega))⟩ ⟨_, (zWi (by omega)), ?_⟩
    refine And.intro (zA_234 hS) ⟨_, sn_G_opn.up (by decide), ?_⟩
    refine ⟨g, N, c, (exEx c 3 (a + 1)).2.1, (t + 1), (k + ((exEx c 3 (a + 1)).2.2.length + 1)), n, o, (upF r t (kd, (a : Int), 0, [], (exEx c 3 (a + 1)).2.2, 0)), u, (bk : Int), (123 : Int), t, (t : Int), rfl, hS, hR, (zTx_fr hT (fun c j h => (zxcj (by omega) ((p35bbfr c j (by omega) (by omega) (by omega) (by omega) (by omega) (by omega) (by omega) (by omega)).trans ((p13bbbbbfr c j (by omega) (by omega) (by omega) (by omega) (by omega) (by omega) (by omega)).trans (zxcj (by omega) rfl)))))), ((p35bbfr 234 15 (by omega) (by omega) (by omega) (by omega) (by omega) (by omega) (by omega) (by omega)).trans ((p13bbbbbfr 234 15 (by omega) (by omega) (by omega) (by omega) (by omega) (by omega) (by omega)).trans h15)), (by omega), (zRd_G ((zxu (by omega) rfl).trans hrc.2.1) ((zxu (by omega) rfl).trans hrc.2.2.1) (((zxu (by omega) ((p35bbfr 234 _ (by omega) (by omega) (by omega) (by omega) (by omega) (by omega) (by omega) (by omega)).trans rfl)).trans p13bbbbxt).trans (by omega)) (((zxu (by omega) rfl).trans hrc.2.2.2.1).trans rd_k) ((zxcj (by omega) ((p35bbfr 234 _ (by omega) (by omega) (by omega) (by omega) (by omega) (by omega) (by omega) (by omega)).trans ((p13bbbbbfr 234 _ (by omega) (by omega) (by omega) (by omega) (by omega) (by omega) (by omega)).trans (zxcj (by omega) rfl)))).trans xn) ((zxcj (by omega) ((p35bbfr 234 _ (by omega) (by omega) (by omega) (by omega) (by omega) (by omega) (by omega) (by omega)).trans ((p13bbbbbfr 234 _ (by omega) (by omega) (by omega) (by omega) (by omega) (by omega) (by omega)).trans (zxcj (by omega) rfl)))).trans xd) (zOs_fr hOs (fun c j h1 h2 => (zxcj (by omega) ((p35bbfr c j (by omega) (by omega) (by omega) (by omega) (by omega) (by omega) (by omega) (by omega)).trans ((p13bbbbbfr c j (by omega) (by omega) (by omega) (by omega) (by omega) (by omega) (by omega)).trans (zxcj (by omega) rfl)))))) (orA_up hOr (by omega) (fun c j h1 h2 h3 => (zxcj (by omega) ((p35bbfr c j (by omega) (by omega) (by omega) (by omega) (by omega) (by omega) (by omega) (by omega)).trans ((p13bbbbbfr c j (by omega) (by omega) (by omega) (by omega) (by omega) (by omega) (by omega)).trans (zxcj (by omega) rfl))))) (fun c j h1 h2 => (zxcj (by omega) ((p35bbfr c j (by omega) (by omega) (by omega) (by omega) (by omega) (by omega) (by omega) (by omega)).trans ((p13bbbbbfr c j (by omega) (by omega) (by omega) (by omega) (by omega) (by omega) (by omega)).trans (zxcj (by omega) rfl))))) (zOr_2 ((zxu (by omega) ((p35bbfr 238 _ (by omega) (by omega) (by omega) (by omega) (by omega) (by omega) (by omega) (by omega)).trans rfl)).trans p13q0) (((zxu (by omega) ((p35bbfr 239 _ (by omega) (by omega) (by omega) (by omega) (by omega) (by omega) (by omega) (by omega)).trans rfl)).trans p13bq1).trans (by omega)) ((zxu (by omega) ((p35bbfr 240 _ (by omega) (by omega) (by omega) (by omega) (by omega) (by omega) (by omega) (by omega)).trans rfl)).trans p13bbq2) ((zxu (by omega) ((p35bbfr 243 _ (by omega) (by omega) (by omega) (by omega) (by omega) (by omega) (by omega) (by omega)).trans rfl)).trans p13bbbq3) (by omega) ⟨k, (zxe' (by omega)).trans p35hv, by omega, zCo_fr hrc.2.2.2.2.1 (fun c j h1 h2 => (zxcj (by omega) rfl)), cdH_ex hrc.1⟩)) (fun f hf => (zxcj (by omega) ((p35bbfr 244 _ (by omega) (by omega) (by omega) (by omega) (by omega) (by omega) (by omega) (by omega)).trans ((p13bbbbbfr 244 _ (by omega) (by omega) (by omega) (by omega) (by omega) (by omega) (by omega)).trans (zxcj (by omega) rfl)))).trans (hFu f hf))), hxn, (by have z9 := hrc.2.2.2.2.2; omega), (by omega), (by omega), (by omega), ?_⟩
    intro I45o p45hR p45bfr
    refine hQ _ ?_ (fun c j h0 h1 h2 h3 h4 h5 h6 h7 h8 h9 h10 h11 h12 h13 h14 h15 h16 h17 h18 h19 => ((p45bfr c j h0 h1 h5 h17 h18).trans (zxcj (by omega) ((p35bbfr c j h0 h1 h3 h6 h7 (by omega) (by omega) h19).trans ((p13bbbbbfr c j (by omega) (by omega) (by omega) (by omega) (by omega) (by omega) h2).trans (zxcj h0 rfl))))))
    · first
      | (refine zRd_x (show _ = rdBw c kd bk a t k n o r u from (if_neg (by omega)).symm) ?_
         exact zRd_H (((p45bfr 234 _ (by omega) (by omega) (by omega) (by omega) (by omega)).trans (zxu (by omega) rfl)).trans hrc.2.1) ((p45bfr 234 _ (by omega) (by omega) (by omega) (by omega) (by omega)).trans (zxu (by omega) rfl)) (by omega))
      | (refine zRd_x (show _ = rdBw c kd bk a t k n o r u from (if_pos hrc.1).symm) ?_
         exact p45hR)
  · refine And.intro ⟨(zx0 rfl), (zP_242 hS (by omega) (by omega))⟩ ⟨_, (zWi (by omega)), ?_⟩
    refine And.intro (zA_234 hS) ⟨_, sn_G_opF.up (by decide), ?_⟩
    refine ⟨(((exEx c 3 (a + 1)).2.1) : Int), (bk : Int), (123 : Int), (t : Int), rfl, hS, hR, hrc.2.1, (by clear hQ; grind [xu]), ?_⟩
    refine hQ _ ?_ (fun c j h0 h1 h2 h3 h4 h5 h6 h7 h8 h9 h10 h11 h12 h13 h14 h15 h16 h17 h18 h19 => (zxcj (by omega) ((p35bbfr c j h0 h1 h3 h6 h7 (by omega) (by omega) h19).trans ((p13bbbbbfr c j (by omega) (by omega) (by omega) (by omega) (by omega) (by omega) h2).trans (zxcj h0 rfl)))))
    · first
      | (refine zRd_x (show _ = rdBw c kd bk a t k n o r u from (if_neg (by omega)).symm) ?_
         exact zRd_H ((zxu (by omega) rfl).trans hrc.2.1) (zxu (by omega) rfl) (by omega))
      | (refine zRd_x (show _ = rdBw c kd bk a t k n o r u from (if_pos hrc.1).symm) ?_
         exact p45hR))
def T_G_rfn : ZT := fun args I L R S Q => ∃ (g : Nat) (N : Nat) (c : Nat → Int) (a : Nat) (t : Nat) (k : Nat) (n : Nat) (o : List (Int × Nat)) (r : Nat → OrT) (u : Nat → Int) (b : Int), args = [zvr 234, zvi b] ∧ (zSh S) ∧ (zRs R) ∧ (zTx N c I) ∧ (I 234 15 = g) ∧ (g ≤ 1) ∧ (zRd g (1, a, t, k, n, o, r, u) I) ∧ (a ≤ N) ∧ (t ≤ 500 ∧ k ≤ a + 200 ∧ n ≤ 100 ∧ o.length ≤ 2) ∧ (k ≤ a + 198) ∧ (t ≤ 400) ∧ (c a = 58) ∧ (b = a) ∧ ∀ (I' : ZI), (zRd g (rdFn c a t k n o r u) I') → (∀ c j : Nat, ¬ (c = 234 ∧ j = 16) → ¬ (c = 234 ∧ j = 17) → ¬ (c = 234 ∧ j = 18) → ¬ (c = 234 ∧ j = 19) → ¬ (c = 234 ∧ j = 20) → ¬ (c = 234 ∧ j = 21) → ¬ (c = 234 ∧ j = 25) → ¬ (c = 234 ∧ j = 27) → ¬ (c = 238 ∧ 600 * g ≤ j ∧ j < 600 * g + 600) → ¬ (c = 239 ∧ 600 * g ≤ j ∧ j < 600 * g + 600) → ¬ (c = 240 ∧ 600 * g ≤ j ∧ j < 600 * g + 600) → ¬ (c = 241 ∧ 600 * g ≤ j ∧ j < 600 * g + 600) → ¬ (c = 242 ∧ 600 * g ≤ j ∧ j < 600 * g + 600) → ¬ (c = 243 ∧ 600 * g ≤ j ∧ j < 600 * g + 600) → ¬ (c = 244 ∧ 26 * g ≤ j ∧ j < 26 * g + 26) → ¬ (c = 245 ∧ 1000 * g ≤ j ∧ j < 1000 * g + 1000) → ¬ (c = 246 ∧ 1000 * g ≤ j ∧ j < 1000 * g + 1000) → ¬ c = 247 → ¬ c = 248 → ¬ c = 250 → I' c j = I c j) → Q none I' L R S
theorem sn_G_rfn : ZSnd 3 12 42 T_G_rfn := ZSnd.of (zT12_42 2) (by
  rintro args I L R S Q hz ⟨g, N, c, a, t, k, n, o, r, u, b, rfl, hS, hR, hT, h15, hg, hx, ha, hb, hk2, ht4, hu, hbb, hQ⟩
  obtain ⟨hT1, hT2, hT3⟩ := id hT
  have hn4 := hT2.1
  obtain ⟨⟨xa, xw, xt, xk, xn, xd⟩, hOs, hOr, hFu⟩ := zRd_1 hx
  have hb9 := hT2.2.2 a
  have hb8 := hT2.2.2 (a + 1)
  have ha1 : a + 1 ≤ N := eTx_lt hT2 (by omega)
  refine And.intro rfl ?_
  refine And.intro (zA_234 hS) (zrd (v := a) xa ?_)
  refine And.intro (zA_234 hS) ⟨_, (zWi (by omega)), ?_⟩
  refine And.intro (zA_234 hS) ⟨_, sn_G_pk.up (by decide), ?_⟩
  refine ⟨N, c, (a + 1), rfl, hS, hR, (zTx_fr hT (fun c j h => (zxcj (by omega) rfl))), rfl, (by omega), ?_⟩
  intro v11o p11hv p11bhv2
  refine And.intro (zA_234 hS) ⟨_, sn_G_pk.up (by decide), ?_⟩
  refine ⟨N, c, (a + 1), rfl, hS, hR, (zTx_fr hT (fun c j h => (zxcj (by omega) rfl))), rfl, (by omega), ?_⟩
  intro v19o p19hv p19bhv2
  refine Exists.intro _ (And.intro (zinl_ok (zT12_26 1)) (And.intro rfl ?_))
  refine And.intro ⟨(by omega), (zRb rfl)⟩ ⟨fun h3_22 => ?_, fun h3_22 => ?_⟩
  · refine And.intro (Or.inl rfl) ?_
    refine And.intro (zRb rfl) (zbf rfl ?_)
    refine And.intro (zA_234 hS) (zrd (v := (a + 1)) rfl ?_)
    refine And.intro (zA_234 hS) ⟨_, (zWi (by omega)), ?_⟩
    refine hQ _ ?_ (fun c j h0 h1 h2 h3 h4 h5 h6 h7 h8 h9 h10 h11 h12 h13 h14 h15 h16 h17 h18 h19 => (zxcj h1 (zxcj h0 rfl)))
    · first
      | (refine zRd_x (show _ = rdFn c a t k n o r u from ((if_pos (by omega)).trans (if_pos ⟨by omega, by omega⟩)).symm) ?_
         exact p110hR)
      | (refine zRd_x (show _ = rdFn c a t k n o r u from (if_neg (by omega)).symm) ?_
         exact zRd_H (zxe.trans (by omega)) (J := xu I 234 16 (a + 1)) (zxs (by omega) rfl) (by rw [show (xu I 234 16 (a + 1 : Int)) 234 16 = a + 1 from zxe]; omega))
      | (refine zRd_x (show _ = rdFn c a t k n o r u from ((if_pos (by omega)).trans (if_neg (by omega))).symm) ?_
         exact zRd_H (zxe.trans (by omega)) (J := xu I 234 16 (a + 1)) (zxs (by omega) rfl) (by rw [show (xu I 234 16 (a + 1 : Int)) 234 16 = a + 1 from zxe]; omega))
  · refine And.intro ⟨(by omega), (zRb rfl)⟩ ⟨fun h9_22 => ?_, fun h9_22 => ?_⟩
    · refine And.intro (Or.inl rfl) ?_
      refine And.intro (zRb rfl) (zbf rfl ?_)
      refine And.intro (zA_234 hS) (zrd (v := (a + 1)) rfl ?_)
      refine And.intro (zA_234 hS) ⟨_, (zWi (by omega)), ?_⟩
      refine hQ _ ?_ (fun c j h0 h1 h2 h3 h4 h5 h6 h7 h8 h9 h10 h11 h12 h13 h14 h15 h16 h17 h18 h19 => (zxcj h1 (zxcj h0 rfl)))
      · first
        | (refine zRd_x (show _ = rdFn c a t k n o r u from ((if_pos (by omega)).trans (if_pos ⟨by omega, by omega⟩)).symm) ?_
           exact p110hR)
        | (refine zRd_x (show _ = rdFn c a t k n o r u from (if_neg (by omega)).symm) ?_
           exact zRd_H (zxe.trans (by omega)) (J := xu I 234 16 (a + 1)) (zxs (by omega) rfl) (by rw [show (xu I 234 16 (a + 1 : Int)) 234 16 = a + 1 from zxe]; omega))
        | (refine zRd_x (show _ = rdFn c a t k n o r u from ((if_pos (by omega)).trans (if_neg (by omega))).symm) ?_
           exact zRd_H (zxe.trans (by omega)) (J := xu I 234 16 (a + 1)) (zxs (by omega) rfl) (by rw [show (xu I 234 16 (a + 1 : Int)) 234 16 = a + 1 from zxe]; omega))
    · refine And.intro (Or.inr rfl) ?_
      refine And.intro (zRb rfl) (zbt rfl ?_)
      refine And.intro (zA_234 hS) (zrd (v := (o.length)) xd ?_)
      refine And.intro (by omega) ⟨fun h41 => ?_, fun h41 => ?_⟩
      · refine And.intro (zA_234 hS) ⟨_, (zWi (by omega)), ?_⟩
        refine hQ _ ?_ (fun c j h0 h1 h2 h3 h4 h5 h6 h7 h8 h9 h10 h11 h12 h13 h14 h15 h16 h17 h18 h19 => (zxcj h1 (zxcj h0 rfl)))
        · first
          | (refine zRd_x (show _ = rdFn c a t k n o r u from ((if_pos (by omega)).trans (if_pos ⟨by omega, by omega⟩)).symm) ?_
             exact p110hR)
          | (refine zRd_x (show _ = rdFn c a t k n o r u from (if_neg (by omega)).symm) ?_
             exact zRd_H (zxe.trans (by omega)) (J := xu I 234 16 (a + 1)) (zxs (by omega) rfl) (by rw [show (xu I 234 16 (a + 1 : Int)) 234 16 = a + 1 from zxe]; omega))
          | (refine zRd_x (show _ = rdFn c a t k n o r u from ((if_pos (by omega)).trans (if_neg (by omega))).symm) ?_
             exact zRd_H (zxe.trans (by omega)) (J := xu I 234 16 (a + 1)) (zxs (by omega) rfl) (by rw [show (xu I 234 16 (a + 1 : Int)) 234 16 = a + 1 from zxe]; omega))
      · refine And.intro (zA_234 hS) (zrdR (v := some 244) (zR_234_12 hR) ?_)
        refine And.intro (zA_234 hS) (zrd (v := g) h15 ?_)
        refine And.intro (zP_244 hS (by omega) (by omega)) (fun v57 e57 r57 => ?_)
        have f57 : v57 = u (c (a + 1) - 65).toNat := (e57.trans (zxu (by omega) ((congrArg (I 244) (show _ = 26 * g + (c (a + 1) - 65).toNat by omega)).trans (hFu (c (a + 1) - 65).toNat (by omega)))))
        refine And.intro ⟨r57, (zRb rfl)⟩ ⟨fun h59 => ?_, fun h59 => ?_⟩
        · refine And.intro (zA_234 hS) (zrd (v := (a + 1)) rfl ?_)
          refine And.intro (zA_234 hS) ⟨_, (zWi (by omega)), ?_⟩
          refine And.intro (zA_234 hS) ⟨_, sn_G_ord.up (by decide), ?_⟩
          refine ⟨g, t, (17 : Int), (b : Int), rfl, hS, hR, h15, (by omega), xt, (by omega), (by omega), (by omega), ?_⟩
          intro I82o p82q0 p82bq1 p82bbq2 p82bbbq3 p82bbbbxt p82bbbbbfr
          refine And.intro (zA_234 hS) (zrdR (v := some 244) (zR_234_12 hR) ?_)
          refine And.intro (zA_234 hS) (zrd (v := g) ((p82bbbbbfr 234 15 (by omega) (by omega) (by omega) (by omega) (by omega) (by omega) (by omega)).trans h15) ?_)
          refine And.intro (zA_234 hS) (zrd (v := (t + 1)) p82bbbbxt ?_)
          refine And.intro ⟨(zx0 rfl), (zP_244 hS (by omega) (by omega))⟩ ⟨_, (zWi (by omega)), ?_⟩
          refine And.intro (zA_234 hS) ⟨_, sn_G_opn.up (by decide), ?_⟩
          refine ⟨g, N, c, (a + 2), (t + 1), k, n, o, (upF r t (17, (a : Int), 0, [], [], 0)), (upF u (c (a + 1) - 65).toNat ((t + 1 : Nat) : Int)), (7 : Int), (123 : Int), t, (t : Int), rfl, hS, hR, (zTx_fr hT (fun c j h => (zxcj (by omega) ((p82bbbbbfr c j (by omega) (by omega) (by omega) (by omega) (by omega) (by omega) (by omega)).trans (zxcj (by omega) (zxcj (by omega) rfl)))))), ((p82bbbbbfr 234 15 (by omega) (by omega) (by omega) (by omega) (by omega) (by omega) (by omega)).trans h15), (by omega), (zRd_G ((zxu (by omega) ((p82bbbbbfr 234 16 (by omega) (by omega) (by omega) (by omega) (by omega) (by omega) (by omega)).trans zxe)).trans (by omega)) ((zxcj (by omega) ((p82bbbbbfr 234 _ (by omega) (by omega) (by omega) (by omega) (by omega) (by omega) (by omega)).trans (zxcj (by omega) (zxcj (by omega) rfl)))).trans xw) (((zxu (by omega) rfl).trans p82bbbbxt).trans (by omega)) ((zxcj (by omega) ((p82bbbbbfr 234 _ (by omega) (by omega) (by omega) (by omega) (by omega) (by omega) (by omega)).trans (zxcj (by omega) (zxcj (by omega) rfl)))).trans xk) ((zxcj (by omega) ((p82bbbbbfr 234 _ (by omega) (by omega) (by omega) (by omega) (by omega) (by omega) (by omega)).trans (zxcj (by omega) (zxcj (by omega) rfl)))).trans xn) ((zxcj (by omega) ((p82bbbbbfr 234 _ (by omega) (by omega) (by omega) (by omega) (by omega) (by omega) (by omega)).trans (zxcj (by omega) (zxcj (by omega) rfl)))).trans xd) (zOs_fr hOs (fun c j h1 h2 => (zxcj (by omega) ((p82bbbbbfr c j (by omega) (by omega) (by omega) (by omega) (by omega) (by omega) (by omega)).trans (zxcj (by omega) (zxcj (by omega) rfl)))))) (orA_up hOr (by omega) (fun c j h1 h2 h3 => (zxcj (by omega) ((p82bbbbbfr c j (by omega) (by omega) (by omega) (by omega) (by omega) (by omega) (by omega)).trans (zxcj (by omega) (zxcj (by omega) rfl))))) (fun c j h1 h2 => (zxcj (by omega) ((p82bbbbbfr c j (by omega) (by omega) (by omega) (by omega) (by omega) (by omega) (by omega)).trans (zxcj (by omega) (zxcj (by omega) rfl))))) (zOr_0 ((zxu (by omega) rfl).trans p82q0) (((zxu (by omega) rfl).trans p82bq1).trans (by omega)) ((zxu (by omega) rfl).trans p82bbq2) ((zxu (by omega) rfl).trans p82bbbq3) (by unfold hsL; omega))) (fun f hf => by unfold upF; by_cases e9 : f = (c (a + 1) - 65).toNat; (rw [if_pos e9, e9]; exact (zxe' (by omega)).trans (by omega)); (rw [if_neg e9]; exact (zxs (by omega) (((p82bbbbbfr 244 _ (by omega) (by omega) (by omega) (by omega) (by omega) (by omega) (by omega)).trans (zxu (by omega) (zxu (by omega) (hFu f hf))))))))), (eTx_lt hT2 (by omega)), (by omega), (by omega), (by omega), (by omega), ?_⟩
          intro I110o p110hR p110bfr
          refine hQ _ ?_ (fun c j h0 h1 h2 h3 h4 h5 h6 h7 h8 h9 h10 h11 h12 h13 h14 h15 h16 h17 h18 h19 => ((p110bfr c j h0 h1 h5 h17 h18).trans (zxcj (by omega) ((p82bbbbbfr c j (by omega) (by omega) (by omega) (by omega) (by omega) (by omega) h2).trans (zxcj h0 (zxcj h0 rfl))))))
          · first
            | (refine zRd_x (show _ = rdFn c a t k n o r u from ((if_pos (by omega)).trans (if_pos ⟨by omega, by omega⟩)).symm) ?_
               exact p110hR)
            | (refine zRd_x (show _ = rdFn c a t k n o r u from (if_neg (by omega)).symm) ?_
               exact zRd_H (zxe.trans (by omega)) (J := xu I 234 16 (a + 1)) (zxs (by omega) rfl) (by rw [show (xu I 234 16 (a + 1 : Int)) 234 16 = a + 1 from zxe]; omega))
            | (refine zRd_x (show _ = rdFn c a t k n o r u from ((if_pos (by omega)).trans (if_neg (by omega))).symm) ?_
               exact zRd_H (zxe.trans (by omega)) (J := xu I 234 16 (a + 1)) (zxs (by omega) rfl) (by rw [show (xu I 234 16 (a + 1 : Int)) 234 16 = a + 1 from zxe]; omega))
        · refine And.intro (zA_234 hS) ⟨_, (zWi (by omega)), ?_⟩
          refine hQ _ ?_ (fun c j h0 h1 h2 h3 h4 h5 h6 h7 h8 h9 h10 h11 h12 h13 h14 h15 h16 h17 h18 h19 => (zxcj h1 (zxcj h0 rfl)))
          · first
            | (refine zRd_x (show _ = rdFn c a t k n o r u from ((if_pos (by omega)).trans (if_pos ⟨by omega, by omega⟩)).symm) ?_
               exact p110hR)
            | (refine zRd_x (show _ = rdFn c a t k n o r u from (if_neg (by omega)).symm) ?_
               exact zRd_H (zxe.trans (by omega)) (J := xu I 234 16 (a + 1)) (zxs (by omega) rfl) (by rw [show (xu I 234 16 (a + 1 : Int)) 234 16 = a + 1 from zxe]; omega))
            | (refine zRd_x (show _ = rdFn c a t k n o r u from ((if_pos (by omega)).trans (if_neg (by omega))).symm) ?_
               exact zRd_H (zxe.trans (by omega)) (J := xu I 234 16 (a + 1)) (zxs (by omega) rfl) (by rw [show (xu I 234 16 (a + 1 : Int)) 234 16 = a + 1 from zxe]; omega)))
def T_G_smp : ZT := fun args I L R S Q => ∃ (w : Int), args = [zvi w] ∧ (zSh S) ∧ (zRs R) ∧ (r32 w) ∧ ∀ (v : Int), (v = smK w) → (0 ≤ v ∧ v ≤ 20) → Q (some (zvi (v))) I L R S
theorem sn_G_smp : ZSnd 1 12 49 T_G_smp := ZSnd.of (zT12_49 0) (by
  rintro args I L R S Q hz ⟨w, rfl, hS, hR, hw, hQ⟩
  refine And.intro rfl ?_
  refine And.intro (by omega) (And.intro (fun h1 => ?_) (fun h1n0 => (And.intro (fun h1 => ?_) (fun h1n1 => (And.intro (fun h1 => ?_) (fun h1n2 => (And.intro (fun h1 => ?_) (fun h1n3 => (And.intro (fun h1 => ?_) (fun h1n4 => (And.intro (fun h1 => ?_) (fun h1n5 => ?_))))))))))))
  · refine hQ _ ?_ (by omega)
    · unfold smK
      first
      | (rw [if_pos (by omega)])
      | (rw [if_neg (by omega), if_pos (by omega)])
      | (rw [if_neg (by omega), if_neg (by omega), if_pos (by omega)])
      | (rw [if_neg (by omega), if_neg (by omega), if_neg (by omega), if_pos (by omega)])
      | (rw [if_neg (by omega), if_neg (by omega), if_neg (by omega), if_neg (by omega), if_pos (by omega)])
      | (rw [if_neg (by omega), if_neg (by omega), if_neg (by omega), if_neg (by omega), if_neg (by omega), if_pos (by omega)])
      | (rw [if_neg (by omega), if_neg (by omega), if_neg (by omega), if_neg (by omega), if_neg (by omega), if_neg (by omega)])
  · refine hQ _ ?_ (by omega)
    · unfold smK
      first
      | (rw [if_pos (by omega)])
      | (rw [if_neg (by omega), if_pos (by omega)])
      | (rw [if_neg (by omega), if_neg (by omega), if_pos (by omega)])
      | (rw [if_neg (by omega), if_neg (by omega), if_neg (by omega), if_pos (by omega)])
      | (rw [if_neg (by omega), if_neg (by omega), if_neg (by omega), if_neg (by omega), if_pos (by omega)])
      | (rw [if_neg (by omega), if_neg (by omega), if_neg (by omega), if_neg (by omega), if_neg (by omega), if_pos (by omega)])
      | (rw [if_neg (by omega), if_neg (by omega), if_neg (by omega), if_neg (by omega), if_neg (by omega), if_neg (by omega)])
  · refine hQ _ ?_ (by omega)
    · unfold smK
      first
      | (rw [if_pos (by omega)])
      | (rw [if_neg (by omega), if_pos (by omega)])
      | (rw [if_neg (by omega), if_neg (by omega), if_pos (by omega)])
      | (rw [if_neg (by omega), if_neg (by omega), if_neg (by omega), if_pos (by omega)])
      | (rw [if_neg (by omega), if_neg (by omega), if_neg (by omega), if_neg (by omega), if_pos (by omega)])
      | (rw [if_neg (by omega), if_neg (by omega), if_neg (by omega), if_neg (by omega), if_neg (by omega), if_pos (by omega)])
      | (rw [if_neg (by omega), if_neg (by omega), if_neg (by omega), if_neg (by omega), if_neg (by omega), if_neg (by omega)])
  · refine hQ _ ?_ (by omega)
    · unfold smK
      first
      | (rw [if_pos (by omega)])
      | (rw [if_neg (by omega), if_pos (by omega)])
      | (rw [if_neg (by omega), if_neg (by omega), if_pos (by omega)])
      | (rw [if_neg (by omega), if_neg (by omega), if_neg (by omega), if_pos (by omega)])
      | (rw [if_neg (by omega), if_neg (by omega), if_neg (by omega), if_neg (by omega), if_pos (by omega)])
      | (rw [if_neg (by omega), if_neg (by omega), if_neg (by omega), if_neg (by omega), if_neg (by omega), if_pos (by omega)])
      | (rw [if_neg (by omega), if_neg (by omega), if_neg (by omega), if_neg (by omega), if_neg (by omega), if_neg (by omega)])
  · refine hQ _ ?_ (by omega)
    · unfold smK
      first
      | (rw [if_pos (by omega)])
      | (rw [if_neg (by omega), if_pos (by omega)])
      | (rw [if_neg (by omega), if_neg (by omega), if_pos (by omega)])
      | (rw [if_neg (by omega), if_neg (by omega), if_neg (by omega), if_pos (by omega)])
      | (rw [if_neg (by omega), if_neg (by omega), if_neg (by omega), if_neg (by omega), if_pos (by omega)])
      | (rw [if_neg (by omega), if_neg (by omega), if_neg (by omega), if_neg (by omega), if_neg (by omega), if_pos (by omega)])
      | (rw [if_neg (by omega), if_neg (by omega), if_neg (by omega), if_neg (by omega), if_neg (by omega), if_neg (by omega)])
  · refine hQ _ ?_ (by omega)
    · unfold smK
      first
      | (rw [if_pos (by omega)])
      | (rw [if_neg (by omega), if_pos (by omega)])
      | (rw [if_neg (by omega), if_neg (by omega), if_pos (by omega)])
      | (rw [if_neg (by omega), if_neg (by omega), if_neg (by omega), if_pos (by omega)])
      | (rw [if_neg (by omega), if_neg (by omega), if_neg (by omega), if_neg (by omega), if_pos (by omega)])
      | (rw [if_neg (by omega), if_neg (by omega), if_neg (by omega), if_neg (by omega), if_neg (by omega), if_pos (by omega)])
      | (rw [if_neg (by omega), if_neg (by omega), if_neg (by omega), if_neg (by omega), if_neg (by omega), if_neg (by omega)])
  · refine hQ _ ?_ (by omega)
    · unfold smK
      first
      | (rw [if_pos (by omega)])
      | (rw [if_neg (by omega), if_pos (by omega)])
      | (rw [if_neg (by omega), if_neg (by omega), if_pos (by omega)])
      | (rw [if_neg (by omega), if_neg (by omega), if_neg (by omega), if_pos (by omega)])
      | (rw [if_neg (by omega), if_neg (by omega), if_neg (by omega), if_neg (by omega), if_pos (by omega)])
      | (rw [if_neg (by omega), if_neg (by omega), if_neg (by omega), if_neg (by omega), if_neg (by omega), if_pos (by omega)])
      | (rw [if_neg (by omega), if_neg (by omega), if_neg (by omega), if_neg (by omega), if_neg (by omega), if_neg (by omega)]))
