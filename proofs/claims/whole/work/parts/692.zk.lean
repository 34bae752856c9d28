/-! zk -/
def T_Y_svd : ZT := fun args I L R S Q => ∃ (x : SvK) (cr : Nat) (e : Int) (i : Int), args = [zvr 165, zvi e, zvi i] ∧ (zSh S) ∧ (zRs R) ∧ (zML x.1 x.2.1 x.2.2.1 x.2.2.2 cr I) ∧ (r32 e ∧ r32 i) ∧ ∀ (v : Int) (I' : ZI), (v = stQ x.1 x.2.2.1 cr e i) → (∀ c j : Nat, ¬ c = 274 → ¬ c = 275 → ¬ c = 276 → ¬ c = 277 → ¬ c = 278 → ¬ c = 279 → ¬ (c = 268 ∧ j = 11) → ¬ (c = 268 ∧ j = 15) → ¬ (c = 268 ∧ j = 20) → ¬ (c = 268 ∧ j = 19) → ¬ (c = 268 ∧ j = 0) → I' c j = I c j) → Q (some (zvi (v))) I' L R S
theorem sn_Y_svd : ZSnd 7 21 63 T_Y_svd := ZSnd.of (zT21_63 6) (by
  rintro args I L R S Q hz ⟨x, cr, e, i, rfl, hS, hR, hML, re, hQ⟩
  refine And.intro rfl ?_
  refine And.intro (zA_165 hS) (zrdR (v := some 268) (zR_165_48 hR) ?_)
  refine And.intro (zA_268 hS) ⟨_, sn_B_out.up (by decide), ?_⟩
  refine ⟨x.1, x.2.1, x.2.2.1, x.2.2.2, cr, (e : Int), (i : Int), rfl, hS, hR, (by first | exact (zML_fr hML (fun c j h => rfl)) | (clear hQ; grind [xu])), (by omega), ?_⟩
  intro v6o I6o p6hv p6bfr
  have g6 : (I6o 268 0 = 0 ∧ v6o = stQ x.1 x.2.2.1 cr e i) ∨ (¬ I6o 268 0 = 0 ∧ stQ x.1 x.2.2.1 cr e i = -1) := p6hv
  refine And.intro (zA_165 hS) (zrdR (v := some 268) (zR_165_48 hR) ?_)
  refine And.intro (zA_268 hS) (Exists.intro _ (And.intro (zinl_ok (zT13_15 5)) (And.intro rfl ?_)))
  refine And.intro (zA_268 hS) (fun v1_14 e1_14 r1_14 => ?_)
  refine And.intro r1_14 ⟨fun h17 => ?_, fun h17 => ?_⟩
  · refine hQ _ _ (by omega) (fun c j h0 h1 h2 h3 h4 h5 h6 h7 h8 h9 h10 => ((p6bfr c j h0 h1 h2 h3 h4 h5 h6 h7 h8 h9 h10).trans rfl))
  · refine hQ _ _ (by omega) (fun c j h0 h1 h2 h3 h4 h5 h6 h7 h8 h9 h10 => ((p6bfr c j h0 h1 h2 h3 h4 h5 h6 h7 h8 h9 h10).trans rfl)))
def T_Y_ld0 : ZT := fun args I L R S Q => ∃ (e : Int), args = [zvr 165, zvi e] ∧ (zSh S) ∧ (zRs R) ∧ (R 165 12 = none) ∧ ∀ (I' : ZI), (I' 165 0 = 3) → (∀ c j : Nat, ¬ (c = 165 ∧ j = 0) → I' c j = I c j) → Q (some (zvi (-1))) I' L R S
theorem sn_Y_ld0 : ZSnd 8 21 36 T_Y_ld0 := ZSnd.of (zT21_36 7) (by
  rintro args I L R S Q hz ⟨e, rfl, hS, hR, hg, hQ⟩
  refine And.intro rfl ?_
  refine And.intro (zA_165 hS) (zrdR (v := none) hg ?_)
  refine And.intro (zA_165 hS) (Exists.intro _ (And.intro (zinl_ok (zT21_47 6)) (And.intro rfl ?_)))
  refine And.intro (zA_165 hS) ⟨_, (zWi (zRb rfl)), ?_⟩
  refine hQ _ zxe (fun c j h0 => (zxcj h0 rfl)))
def T_Y_ld : ZT := fun args I L R S Q => ∃ (k : Nat) (q : Nat) (s : BdS) (d : JdS) (x : SvK) (cr : Nat) (e : Int), args = [zvr 165, zvi e] ∧ (zSh S) ∧ (zRs R) ∧ (R 165 12 = some k) ∧ (zDy zT17 zF17 k R S) ∧ (302 ≤ k) ∧ (R 165 13 = some q) ∧ (zDy zT18 zF18 q R S) ∧ (302 ≤ q ∧ q + 23 ≤ k) ∧ (zBB k (-1) s I L) ∧ (bGd s) ∧ (zNJ q d I L) ∧ (jGd d) ∧ (zJO q d I) ∧ (zPB s I) ∧ (∀ x, x < 960 → bnd s x = bDj d x) ∧ (zML x.1 x.2.1 x.2.2.1 x.2.2.2 cr I) ∧ (stM4 x.1 x.2.2.1) ∧ (r32 e) ∧ ∀ (v : Int) (I' : ZI), (v = if 0 ≤ (ldV 1 cr x.2.2.1 x.1 e s) then (ldV 1 cr x.2.2.1 x.1 e s) else -1) → (I' 165 0 = if 0 ≤ (ldV 1 cr x.2.2.1 x.1 e s) then 0 else -(ldV 1 cr x.2.2.1 x.1 e s)) → (zBB k (-1) (ldS 1 cr x.2.2.1 x.1 e s) I' L) → (zPB (ldS 1 cr x.2.2.1 x.1 e s) I') → (∀ c j : Nat, ¬ (c = 165 ∧ j = 0) → ¬ (c = 165 ∧ j = 15) → ¬ (c = 165 ∧ j = 22) → ¬ c = 197 → ¬ c = 198 → ¬ c = 199 → ¬ c = 200 → ¬ c = 201 → ¬ c = 202 → ¬ c = 203 → ¬ (c = q ∧ j = 0) → ¬ (c = k ∧ j = 0) → ¬ (c = k ∧ j = 5) → ¬ c = k + 1 → ¬ c = k + 2 → ¬ c = k + 3 → ¬ c = k + 4 → ¬ c = k + 10 → ¬ c = k + 11 → ¬ c = 274 → ¬ c = 275 → ¬ c = 276 → ¬ c = 277 → ¬ c = 278 → ¬ c = 279 → ¬ (c = 268 ∧ j = 11) → ¬ (c = 268 ∧ j = 15) → ¬ (c = 268 ∧ j = 20) → ¬ (c = 268 ∧ j = 19) → ¬ (c = 268 ∧ j = 0) → I' c j = I c j) → Q (some (zvi (v))) I' L R S
theorem sn_Y_ld : ZSnd 8 21 36 T_Y_ld := ZSnd.loops (zT21_36 7) (by
  rintro args I L R S Q hz ⟨k, q, s, d, x, cr, e, rfl, hS, hR, hg, hd, hk, hpl, hDq, hq, hBB, hGd, hNJ, hJG, hJO, hPB, hbd, hML, h4, re, hQ⟩
  obtain ⟨⟨⟨gW1, gW2⟩, ⟨gH1, gH2⟩, ⟨gD1, gD2⟩, gB9⟩, ⟨gnp, gnn⟩, gc, gp, gn, gco, gnd, gun⟩ := id hGd
  obtain ⟨k5, k2, hlg, ⟨hcr, hsm, hLg⟩, hzz⟩ := id hML
  have hG9 : stG (stN x.1 x.2.1).1 x.2.2.1 := by have w := (stN_G hLg.1).1; rw [← hsm] at w; exact w
  have hsv12 : sV x.2.2.1 ≤ 12 := hG9.2.1
  refine ⟨[51], fun nM tM lsM stM I1 L1 R1 S1 => match tM with
      | 51 => ∃ (y : Nat), nM = ((50 - y), 0, 0) ∧ lsM = [some (zvr (165)), some (zvi (e)), some (zvi (ldn x.1 x.2.2.1 e s y)), some (zvi (4 * y)), none] ∧ stM = [] ∧ L1 = L ∧ R1 = R ∧ S1 = S ∧ (y ≤ stFr x.2.2.1 e) ∧ (cr = 0) ∧ (0 ≤ e ∧ e < sV x.2.2.1) ∧ (zBB k (-1) (ldb x.1 x.2.2.1 e s y) I1 L1) ∧ (zPB (ldb x.1 x.2.2.1 e s y) I1) ∧ (∀ c j : Nat, ¬ (c = 165 ∧ j = 0) → ¬ (c = 165 ∧ j = 15) → ¬ (c = 165 ∧ j = 22) → ¬ c = 197 → ¬ c = 198 → ¬ c = 199 → ¬ c = 200 → ¬ c = 201 → ¬ c = 202 → ¬ c = 203 → ¬ (c = q ∧ j = 0) → ¬ (c = k ∧ j = 0) → ¬ (c = k ∧ j = 5) → ¬ c = k + 1 → ¬ c = k + 2 → ¬ c = k + 3 → ¬ c = k + 4 → ¬ c = k + 10 → ¬ c = k + 11 → ¬ c = 274 → ¬ c = 275 → ¬ c = 276 → ¬ c = 277 → ¬ c = 278 → ¬ c = 279 → ¬ (c = 268 ∧ j = 11) → ¬ (c = 268 ∧ j = 15) → ¬ (c = 268 ∧ j = 20) → ¬ (c = 268 ∧ j = 19) → ¬ (c = 268 ∧ j = 0) → I1 c j = I c j)
      | _ => False, rfl, ?_, ⟨?_, True.intro⟩⟩
  · refine And.intro (zA_165 hS) (zrdR (v := some k) hg ?_)
    refine And.intro (zA_165 hS) (zrdR (v := some 268) (zR_165_48 hR) ?_)
    refine And.intro (zA_268 hS) (zrd (v := cr) k2 ?_)
    refine And.intro (by omega) ⟨fun h14 => ?_, fun h14 => ?_⟩
    · refine And.intro (zA_165 hS) (zrdR (v := some 268) (zR_165_48 hR) ?_)
      refine And.intro (zA_268 hS) ⟨_, sn_B_walk.up (by decide), ?_⟩
      refine ⟨x.1, x.2.1, x.2.2.1, x.2.2.2, rfl, hS, hR, k5, hlg, hsm, hLg, ?_⟩
      intro I27o p27hST2 p27bhMF2 p27bbhe2 p27bbbhG2 p27bbbbfr
      have g27 : I27o 268 15 = sV x.2.2.1 := p27hST2.2.1
      refine And.intro (zA_165 hS) (zrdR (v := some 268) (zR_165_48 hR) ?_)
      refine And.intro (zA_268 hS) (Exists.intro _ (And.intro (zinl_ok (zT13_9 6)) (And.intro rfl ?_)))
      refine And.intro (by omega) ⟨fun h1_35 => ?_, fun h1_35 => ?_⟩
      · refine And.intro (Or.inl rfl) ?_
        refine And.intro (zRb rfl) (zbf rfl ?_)
        refine And.intro (zA_165 hS) (Exists.intro _ (And.intro (zinl_ok (zT21_47 6)) (And.intro rfl ?_)))
        refine And.intro (zA_165 hS) ⟨_, (zWi (zRb rfl)), ?_⟩
        refine hQ _ _ ?_ ?_ ?_ ?_ (fun c j h0 h1 h2 h3 h4 h5 h6 h7 h8 h9 h10 h11 h12 h13 h14 h15 h16 h17 h18 h19 h20 h21 h22 h23 h24 h25 h26 h27 h28 h29 => (zxcj h0 ((p27bbbbfr c j h19 h20 h21 h22 h23 h24 h25 h26 h27 h28).trans rfl)))
        · first
          | (rw [(ld_3 (by omega)).1]; rfl)
          | (rw [(ld_2 (by omega) (by omega)).1]; rfl)
          | (rw [(ld_y (q := y) (by omega) hev (by omega)).1, if_pos (Int.natCast_nonneg _)])
        · first
          | (rw [(ld_3 (by omega)).1]; exact zxe)
          | (rw [(ld_2 (by omega) (by omega)).1]; exact zxe)
          | (rw [(ld_y (q := y) (by omega) hev (by omega)).1, if_pos (Int.natCast_nonneg _)]; exact zxe)
        · first
          | (rw [(ld_3 (by omega)).2]; exact zBB_fr hBB (fun c9 j9 h9 => zxu (by omega) rfl) (fun c9 j9 h9 => rfl))
          | (rw [(ld_2 (by omega) (by omega)).2]; exact zBB_fr hBB (fun c9 j9 h9 => zxu (by omega) (p27bbbbfr c9 j9 (by omega) (by omega) (by omega) (by omega) (by omega) (by omega) (by omega) (by omega) (by omega) (by omega) )) (fun c9 j9 h9 => rfl))
          | (rw [(ld_y (q := y) (by omega) hev (by omega)).2]; exact zBB_fr hBB1 (fun c9 j9 h9 => zxu (by omega) (p54bfr c9 j9 (by omega) (by omega) (by omega) (by omega) (by omega) (by omega) (by omega) (by omega) (by omega) (by omega) (by omega) )) (fun c9 j9 h9 => rfl))
        · first
          | (rw [(ld_3 (by omega)).2]; exact zPB_fr hPB (fun c9 j9 h9 => zxcj (by omega) rfl))
          | (rw [(ld_2 (by omega) (by omega)).2]; exact zPB_fr hPB (fun c9 j9 h9 => zxcj (by omega) (p27bbbbfr c9 j9 (by omega) (by omega) (by omega) (by omega) (by omega) (by omega) (by omega) (by omega) (by omega) (by omega) )))
          | (rw [(ld_y (q := y) (by omega) hev (by omega)).2]; exact zPB_fr hPB1 (fun c9 j9 h9 => zxcj (by omega) (p54bfr c9 j9 (by omega) (by omega) (by omega) (by omega) (by omega) (by omega) (by omega) (by omega) (by omega) (by omega) (by omega) )))
      · refine And.intro (zA_268 hS) (fun v6_35 e6_35 r6_35 => ?_)
        refine And.intro ⟨(by omega), r6_35⟩ ⟨fun h9_35 => ?_, fun h9_35 => ?_⟩
        · refine And.intro (Or.inl rfl) ?_
          refine And.intro (zRb rfl) (zbf rfl ?_)
          refine And.intro (zA_165 hS) (Exists.intro _ (And.intro (zinl_ok (zT21_47 6)) (And.intro rfl ?_)))
          refine And.intro (zA_165 hS) ⟨_, (zWi (zRb rfl)), ?_⟩
          refine hQ _ _ ?_ ?_ ?_ ?_ (fun c j h0 h1 h2 h3 h4 h5 h6 h7 h8 h9 h10 h11 h12 h13 h14 h15 h16 h17 h18 h19 h20 h21 h22 h23 h24 h25 h26 h27 h28 h29 => (zxcj h0 ((p27bbbbfr c j h19 h20 h21 h22 h23 h24 h25 h26 h27 h28).trans rfl)))
          · first
            | (rw [(ld_3 (by omega)).1]; rfl)
            | (rw [(ld_2 (by omega) (by omega)).1]; rfl)
            | (rw [(ld_y (q := y) (by omega) hev (by omega)).1, if_pos (Int.natCast_nonneg _)])
          · first
            | (rw [(ld_3 (by omega)).1]; exact zxe)
            | (rw [(ld_2 (by omega) (by omega)).1]; exact zxe)
            | (rw [(ld_y (q := y) (by omega) hev (by omega)).1, if_pos (Int.natCast_nonneg _)]; exact zxe)
          · first
            | (rw [(ld_3 (by omega)).2]; exact zBB_fr hBB (fun c9 j9 h9 => zxu (by omega) rfl) (fun c9 j9 h9 => rfl))
            | (rw [(ld_2 (by omega) (by omega)).2]; exact zBB_fr hBB (fun c9 j9 h9 => zxu (by omega) (p27bbbbfr c9 j9 (by omega) (by omega) (by omega) (by omega) (by omega) (by omega) (by omega) (by omega) (by omega) (by omega) )) (fun c9 j9 h9 => rfl))
            | (rw [(ld_y (q := y) (by omega) hev (by omega)).2]; exact zBB_fr hBB1 (fun c9 j9 h9 => zxu (by omega) (p54bfr c9 j9 (by omega) (by omega) (by omega) (by omega) (by omega) (by omega) (by omega) (by omega) (by omega) (by omega) (by omega) )) (fun c9 j9 h9 => rfl))
          · first
            | (rw [(ld_3 (by omega)).2]; exact zPB_fr hPB (fun c9 j9 h9 => zxcj (by omega) rfl))
            | (rw [(ld_2 (by omega) (by omega)).2]; exact zPB_fr hPB (fun c9 j9 h9 => zxcj (by omega) (p27bbbbfr c9 j9 (by omega) (by omega) (by omega) (by omega) (by omega) (by omega) (by omega) (by omega) (by omega) (by omega) )))
            | (rw [(ld_y (q := y) (by omega) hev (by omega)).2]; exact zPB_fr hPB1 (fun c9 j9 h9 => zxcj (by omega) (p54bfr c9 j9 (by omega) (by omega) (by omega) (by omega) (by omega) (by omega) (by omega) (by omega) (by omega) (by omega) (by omega) )))
        · refine And.intro (Or.inr rfl) ?_
          refine And.intro (zRb rfl) (zbt rfl ?_)
          refine ⟨((50 - (0 : Nat)), 0, 0), [some (zvr (165)), some (zvi (e)), some (zvi (ldn x.1 x.2.2.1 e s (0 : Nat))), some (zvi (4 * (0 : Nat))), none], ⟨rfl, rfl, (congrArg (fun z => some (zvi z)) rfl), (congrArg (fun z => some (zvi z)) (by omega)), rfl⟩, 0, rfl, rfl, rfl, rfl, rfl, rfl, (by omega), (by omega), (by omega), (zBB_fr hBB (fun c j h => p27bbbbfr c j (by omega) (by omega) (by omega) (by omega) (by omega) (by omega) (by omega) (by omega) (by omega) (by omega) ) (fun c j h => rfl)), (zPB_fr hPB (fun c j h => p27bbbbfr c j (by omega) (by omega) (by omega) (by omega) (by omega) (by omega) (by omega) (by omega) (by omega) (by omega) )), (fun c j h0 h1 h2 h3 h4 h5 h6 h7 h8 h9 h10 h11 h12 h13 h14 h15 h16 h17 h18 h19 h20 h21 h22 h23 h24 h25 h26 h27 h28 h29 => ((p27bbbbfr c j h19 h20 h21 h22 h23 h24 h25 h26 h27 h28).trans rfl))⟩
    · refine And.intro (zA_165 hS) (Exists.intro _ (And.intro (zinl_ok (zT21_47 6)) (And.intro rfl ?_)))
      refine And.intro (zA_165 hS) ⟨_, (zWi (zRb rfl)), ?_⟩
      refine hQ _ _ ?_ ?_ ?_ ?_ (fun c j h0 h1 h2 h3 h4 h5 h6 h7 h8 h9 h10 h11 h12 h13 h14 h15 h16 h17 h18 h19 h20 h21 h22 h23 h24 h25 h26 h27 h28 h29 => (zxcj h0 rfl))
      · first
        | (rw [(ld_3 (by omega)).1]; rfl)
        | (rw [(ld_2 (by omega) (by omega)).1]; rfl)
        | (rw [(ld_y (q := y) (by omega) hev (by omega)).1, if_pos (Int.natCast_nonneg _)])
      · first
        | (rw [(ld_3 (by omega)).1]; exact zxe)
        | (rw [(ld_2 (by omega) (by omega)).1]; exact zxe)
        | (rw [(ld_y (q := y) (by omega) hev (by omega)).1, if_pos (Int.natCast_nonneg _)]; exact zxe)
      · first
        | (rw [(ld_3 (by omega)).2]; exact zBB_fr hBB (fun c9 j9 h9 => zxu (by omega) rfl) (fun c9 j9 h9 => rfl))
        | (rw [(ld_2 (by omega) (by omega)).2]; exact zBB_fr hBB (fun c9 j9 h9 => zxu (by omega) (p27bbbbfr c9 j9 (by omega) (by omega) (by omega) (by omega) (by omega) (by omega) (by omega) (by omega) (by omega) (by omega) )) (fun c9 j9 h9 => rfl))
        | (rw [(ld_y (q := y) (by omega) hev (by omega)).2]; exact zBB_fr hBB1 (fun c9 j9 h9 => zxu (by omega) (p54bfr c9 j9 (by omega) (by omega) (by omega) (by omega) (by omega) (by omega) (by omega) (by omega) (by omega) (by omega) (by omega) )) (fun c9 j9 h9 => rfl))
      · first
        | (rw [(ld_3 (by omega)).2]; exact zPB_fr hPB (fun c9 j9 h9 => zxcj (by omega) rfl))
        | (rw [(ld_2 (by omega) (by omega)).2]; exact zPB_fr hPB (fun c9 j9 h9 => zxcj (by omega) (p27bbbbfr c9 j9 (by omega) (by omega) (by omega) (by omega) (by omega) (by omega) (by omega) (by omega) (by omega) (by omega) )))
        | (rw [(ld_y (q := y) (by omega) hev (by omega)).2]; exact zPB_fr hPB1 (fun c9 j9 h9 => zxcj (by omega) (p54bfr c9 j9 (by omega) (by omega) (by omega) (by omega) (by omega) (by omega) (by omega) (by omega) (by omega) (by omega) (by omega) )))
  · rintro nM lsM stM I1 L1 R1 S1 hz1 ⟨y, rfl, rfl, rfl, rfl, rfl, rfl, hy, hcb, hev, hBB1, hPB1, fr⟩
    have hML1 : zML x.1 x.2.1 x.2.2.1 x.2.2.2 0 I1 := (by obtain rfl : cr = 0 := hcb; exact zML_fr hML (fun c j h => fr c j (by omega) (by omega) (by omega) (by omega) (by omega) (by omega) (by omega) (by omega) (by omega) (by omega) (by omega) (by omega) (by omega) (by omega) (by omega) (by omega) (by omega) (by omega) (by omega) (by omega) (by omega) (by omega) (by omega) (by omega) (by omega) (by omega) (by omega) (by omega) (by omega) (by omega) ))
    have h48 := (stFr_b hG9 h4 hev).1
    have hg9 := ldK_g (f := ldF x.1 x.2.2.1 e) hGd y
    have hgb : bGd (ldb x.1 x.2.2.1 e s y) := hg9.1
    have hgd9 : bnd (ldb x.1 x.2.2.1 e s y) = bnd s := hg9.2.1
    have hgn : ldn x.1 x.2.2.1 e s y ≤ y := hg9.2.2
    have hNJ1 : zNJ q d I1 L1 := zNJ_fr hNJ (fun c j h => fr c j (by omega) (by omega) (by omega) (by omega) (by omega) (by omega) (by omega) (by omega) (by omega) (by omega) (by omega) (by omega) (by omega) (by omega) (by omega) (by omega) (by omega) (by omega) (by omega) (by omega) (by omega) (by omega) (by omega) (by omega) (by omega) (by omega) (by omega) (by omega) (by omega) (by omega) ) (fun c j h => rfl)
    have hJO1 : zJO q d I1 := zJO_fr hJO (fun c j h => fr c j (by omega) (by omega) (by omega) (by omega) (by omega) (by omega) (by omega) (by omega) (by omega) (by omega) (by omega) (by omega) (by omega) (by omega) (by omega) (by omega) (by omega) (by omega) (by omega) (by omega) (by omega) (by omega) (by omega) (by omega) (by omega) (by omega) (by omega) (by omega) (by omega) (by omega) )
    refine And.intro (zA_165 hS) ⟨_, sn_Y_svd.up (by decide), ?_⟩
    refine ⟨x, 0, (e : Int), ((4 * y) : Int), rfl, hS, hR, (zML_fr hML1 (fun c9 j9 h9 => by repeat (first | exact rfl))), (by omega), ?_⟩
    intro v54o I54o p54hv p54bfr
    have g54 : v54o = ldF x.1 x.2.2.1 e (4 * y) := (p54hv.trans (by first | rfl | exact congrArg (stQ x.1 x.2.2.1 0 e) (by omega)))
    have g54b : -1 ≤ v54o ∧ v54o ≤ 255 := (by by_cases z8 : y < stFr x.2.2.1 e; (have z9 := ldF_b hG9 h4 hev z8; omega); (have z9 := ldF_n hG9 h4 hev (q := y) (by omega); omega))
    refine And.intro ⟨(by omega), (zRb rfl)⟩ ⟨fun h58 => ?_, fun h58 => ?_⟩
    · have t58 : stFr x.2.2.1 e ≤ y := (Classical.byContradiction fun z8 => by have z9 := ldF_b hG9 h4 hev (q := y) (by omega); omega)
      refine And.intro (zA_165 hS) (Exists.intro _ (And.intro (zinl_ok (zT21_12 6)) (And.intro rfl ?_)))
      refine And.intro (zA_165 hS) ⟨_, (zWi (zRb rfl)), ?_⟩
      refine hQ _ _ ?_ ?_ ?_ ?_ (fun c j h0 h1 h2 h3 h4 h5 h6 h7 h8 h9 h10 h11 h12 h13 h14 h15 h16 h17 h18 h19 h20 h21 h22 h23 h24 h25 h26 h27 h28 h29 => (zxcj h0 ((p54bfr c j h19 h20 h21 h22 h23 h24 h25 h26 h27 h28 h29).trans ((fr c j h0 h1 h2 h3 h4 h5 h6 h7 h8 h9 h10 h11 h12 h13 h14 h15 h16 h17 h18 h19 h20 h21 h22 h23 h24 h25 h26 h27 h28 h29).trans rfl))))
      · first
        | (rw [(ld_3 (by omega)).1]; rfl)
        | (rw [(ld_2 (by omega) (by omega)).1]; rfl)
        | (rw [(ld_y (q := y) (by omega) hev (by omega)).1, if_pos (Int.natCast_nonneg _)])
      · first
        | (rw [(ld_3 (by omega)).1]; exact zxe)
        | (rw [(ld_2 (by omega) (by omega)).1]; exact zxe)
        | (rw [(ld_y (q := y) (by omega) hev (by omega)).1, if_pos (Int.natCast_nonneg _)]; exact zxe)
      · first
        | (rw [(ld_3 (by omega)).2]; exact zBB_fr hBB (fun c9 j9 h9 => zxu (by omega) rfl) (fun c9 j9 h9 => rfl))
        | (rw [(ld_2 (by omega) (by omega)).2]; exact zBB_fr hBB (fun c9 j9 h9 => zxu (by omega) (p27bbbbfr c9 j9 (by omega) (by omega) (by omega) (by omega) (by omega) (by omega) (by omega) (by omega) (by omega) (by omega) )) (fun c9 j9 h9 => rfl))
        | (rw [(ld_y (q := y) (by omega) hev (by omega)).2]; exact zBB_fr hBB1 (fun c9 j9 h9 => zxu (by omega) (p54bfr c9 j9 (by omega) (by omega) (by omega) (by omega) (by omega) (by omega) (by omega) (by omega) (by omega) (by omega) (by omega) )) (fun c9 j9 h9 => rfl))
      · first
        | (rw [(ld_3 (by omega)).2]; exact zPB_fr hPB (fun c9 j9 h9 => zxcj (by omega) rfl))
        | (rw [(ld_2 (by omega) (by omega)).2]; exact zPB_fr hPB (fun c9 j9 h9 => zxcj (by omega) (p27bbbbfr c9 j9 (by omega) (by omega) (by omega) (by omega) (by omega) (by omega) (by omega) (by omega) (by omega) (by omega) )))
        | (rw [(ld_y (q := y) (by omega) hev (by omega)).2]; exact zPB_fr hPB1 (fun c9 j9 h9 => zxcj (by omega) (p54bfr c9 j9 (by omega) (by omega) (by omega) (by omega) (by omega) (by omega) (by omega) (by omega) (by omega) (by omega) (by omega) )))
    · have t58 : y < stFr x.2.2.1 e := (Classical.byContradiction fun z8 => by have z9 := ldF_n hG9 h4 hev (q := y) (by omega); omega)
      refine And.intro (zA_165 hS) ⟨_, sn_Y_svd.up (by decide), ?_⟩
      refine ⟨x, 0, (e : Int), (((4 * y) + 3) : Int), rfl, hS, hR, (zML_fr hML1 (fun c9 j9 h9 => by repeat (first | exact rfl | refine (p54bfr c9 j9 (by omega) (by omega) (by omega) (by omega) (by omega) (by omega) (by omega) (by omega) (by omega) (by omega) (by omega) ).trans ?_))), (by omega), ?_⟩
      intro v66o I66o p66hv p66bfr
      have g66 : v66o = ldF x.1 x.2.2.1 e (4 * y + 3) := (p66hv.trans (by first | rfl | exact congrArg (stQ x.1 x.2.2.1 0 e) (by omega)))
      have g66b : 0 ≤ v66o ∧ v66o ≤ 255 := (by have z9 := ldF_b hG9 h4 hev t58; omega)
      refine And.intro (zA_165 hS) ⟨_, sn_Y_svd.up (by decide), ?_⟩
      refine ⟨x, 0, (e : Int), ((4 * y) : Int), rfl, hS, hR, (zML_fr hML1 (fun c9 j9 h9 => by repeat (first | exact rfl | refine (p54bfr c9 j9 (by omega) (by omega) (by omega) (by omega) (by omega) (by omega) (by omega) (by omega) (by omega) (by omega) (by omega) ).trans ?_ | refine (p66bfr c9 j9 (by omega) (by omega) (by omega) (by omega) (by omega) (by omega) (by omega) (by omega) (by omega) (by omega) (by omega) ).trans ?_))), (by omega), ?_⟩
      intro v76o I76o p76hv p76bfr
      have g76 : v76o = ldF x.1 x.2.2.1 e (4 * y) := (p76hv.trans (by first | rfl | exact congrArg (stQ x.1 x.2.2.1 0 e) (by omega)))
      have g76b : 0 ≤ v76o ∧ v76o ≤ 255 := (by have z9 := ldF_b hG9 h4 hev t58; omega)
      refine And.intro (zA_165 hS) ⟨_, sn_Y_svd.up (by decide), ?_⟩
      refine ⟨x, 0, (e : Int), (((4 * y) + 1) : Int), rfl, hS, hR, (zML_fr hML1 (fun c9 j9 h9 => by repeat (first | exact rfl | refine (p54bfr c9 j9 (by omega) (by omega) (by omega) (by omega) (by omega) (by omega) (by omega) (by omega) (by omega) (by omega) (by omega) ).trans ?_ | refine (p66bfr c9 j9 (by omega) (by omega) (by omega) (by omega) (by omega) (by omega) (by omega) (by omega) (by omega) (by omega) (by omega) ).trans ?_ | refine (p76bfr c9 j9 (by omega) (by omega) (by omega) (by omega) (by omega) (by omega) (by omega) (by omega) (by omega) (by omega) (by omega) ).trans ?_))), (by omega), ?_⟩
      intro v84o I84o p84hv p84bfr
      have g84 : v84o = ldF x.1 x.2.2.1 e (4 * y + 1) := (p84hv.trans (by first | rfl | exact congrArg (stQ x.1 x.2.2.1 0 e) (by omega)))
      have g84b : 0 ≤ v84o ∧ v84o ≤ 255 := (by have z9 := ldF_b hG9 h4 hev t58; omega)
      refine And.intro (zA_165 hS) ⟨_, sn_Y_svd.up (by decide), ?_⟩
      refine ⟨x, 0, (e : Int), (((4 * y) + 2) : Int), rfl, hS, hR, (zML_fr hML1 (fun c9 j9 h9 => by repeat (first | exact rfl | refine (p54bfr c9 j9 (by omega) (by omega) (by omega) (by omega) (by omega) (by omega) (by omega) (by omega) (by omega) (by omega) (by omega) ).trans ?_ | refine (p66bfr c9 j9 (by omega) (by omega) (by omega) (by omega) (by omega) (by omega) (by omega) (by omega) (by omega) (by omega) (by omega) ).trans ?_ | refine (p76bfr c9 j9 (by omega) (by omega) (by omega) (by omega) (by omega) (by omega) (by omega) (by omega) (by omega) (by omega) (by omega) ).trans ?_ | refine (p84bfr c9 j9 (by omega) (by omega) (by omega) (by omega) (by omega) (by omega) (by omega) (by omega) (by omega) (by omega) (by omega) ).trans ?_))), (by omega), ?_⟩
      intro v92o I92o p92hv p92bfr
      have g92 : v92o = ldF x.1 x.2.2.1 e (4 * y + 2) := (p92hv.trans (by first | rfl | exact congrArg (stQ x.1 x.2.2.1 0 e) (by omega)))
      have g92b : 0 ≤ v92o ∧ v92o ≤ 255 := (by have z9 := ldF_b hG9 h4 hev t58; omega)
      refine And.intro ⟨(by omega), (zRb rfl), (by decide)⟩ (zdv (by omega) (fun q99 e99 => ?_))
      have f99 : q99 = v66o % 16 := (by omega)
      have f99b : 0 ≤ q99 ∧ q99 ≤ 15 := (by omega)
      refine And.intro ⟨(by omega), (zRb rfl), (by decide)⟩ (zdv (by omega) (fun q104 e104 => ?_))
      have f104 : q104 = v66o / 16 := (by omega)
      have f104b : 0 ≤ q104 ∧ q104 ≤ 15 := (by omega)
      refine And.intro (zA_165 hS) ⟨_, sn_M_put.up (by decide), ?_⟩
      refine ⟨k, q, (ldb x.1 x.2.2.1 e s y), d, (v76o : Int), (v84o : Int), (v92o : Int), (q99 : Int), (q104 : Int), rfl, hS, hR, hg, hd, (by omega), hpl, hDq, (by omega), (zBB_fr hBB1 (fun c9 j9 h9 => (p92bfr c9 j9 (by omega) (by omega) (by omega) (by omega) (by omega) (by omega) (by omega) (by omega) (by omega) (by omega) (by omega) ).trans ((p84bfr c9 j9 (by omega) (by omega) (by omega) (by omega) (by omega) (by omega) (by omega) (by omega) (by omega) (by omega) (by omega) ).trans ((p76bfr c9 j9 (by omega) (by omega) (by omega) (by omega) (by omega) (by omega) (by omega) (by omega) (by omega) (by omega) (by omega) ).trans ((p66bfr c9 j9 (by omega) (by omega) (by omega) (by omega) (by omega) (by omega) (by omega) (by omega) (by omega) (by omega) (by omega) ).trans (p54bfr c9 j9 (by omega) (by omega) (by omega) (by omega) (by omega) (by omega) (by omega) (by omega) (by omega) (by omega) (by omega) ))))) (fun c9 j9 h9 => rfl)), hgb, (zNJ_fr hNJ1 (fun c9 j9 h9 => (p92bfr c9 j9 (by omega) (by omega) (by omega) (by omega) (by omega) (by omega) (by omega) (by omega) (by omega) (by omega) (by omega) ).trans ((p84bfr c9 j9 (by omega) (by omega) (by omega) (by omega) (by omega) (by omega) (by omega) (by omega) (by omega) (by omega) (by omega) ).trans ((p76bfr c9 j9 (by omega) (by omega) (by omega) (by omega) (by omega) (by omega) (by omega) (by omega) (by omega) (by omega) (by omega) ).trans ((p66bfr c9 j9 (by omega) (by omega) (by omega) (by omega) (by omega) (by omega) (by omega) (by omega) (by omega) (by omega) (by omega) ).trans (p54bfr c9 j9 (by omega) (by omega) (by omega) (by omega) (by omega) (by omega) (by omega) (by omega) (by omega) (by omega) (by omega) ))))) (fun c9 j9 h9 => rfl)), hJG, (zJO_fr hJO1 (fun c9 j9 h9 => (p92bfr c9 j9 (by omega) (by omega) (by omega) (by omega) (by omega) (by omega) (by omega) (by omega) (by omega) (by omega) (by omega) ).trans ((p84bfr c9 j9 (by omega) (by omega) (by omega) (by omega) (by omega) (by omega) (by omega) (by omega) (by omega) (by omega) (by omega) ).trans ((p76bfr c9 j9 (by omega) (by omega) (by omega) (by omega) (by omega) (by omega) (by omega) (by omega) (by omega) (by omega) (by omega) ).trans ((p66bfr c9 j9 (by omega) (by omega) (by omega) (by omega) (by omega) (by omega) (by omega) (by omega) (by omega) (by omega) (by omega) ).trans (p54bfr c9 j9 (by omega) (by omega) (by omega) (by omega) (by omega) (by omega) (by omega) (by omega) (by omega) (by omega) (by omega) )))))), (zPB_fr hPB1 (fun c9 j9 h9 => (p92bfr c9 j9 (by omega) (by omega) (by omega) (by omega) (by omega) (by omega) (by omega) (by omega) (by omega) (by omega) (by omega) ).trans ((p84bfr c9 j9 (by omega) (by omega) (by omega) (by omega) (by omega) (by omega) (by omega) (by omega) (by omega) (by omega) (by omega) ).trans ((p76bfr c9 j9 (by omega) (by omega) (by omega) (by omega) (by omega) (by omega) (by omega) (by omega) (by omega) (by omega) (by omega) ).trans ((p66bfr c9 j9 (by omega) (by omega) (by omega) (by omega) (by omega) (by omega) (by omega) (by omega) (by omega) (by omega) (by omega) ).trans (p54bfr c9 j9 (by omega) (by omega) (by omega) (by omega) (by omega) (by omega) (by omega) (by omega) (by omega) (by omega) (by omega) )))))), (by rw [hgd9]; exact hbd), (by omega), ?_⟩
      intro v105o I105o p105hv p105bhsd p105bbhBB2 p105bbbhPB2 p105bbbbfr
      have g105 : v105o = if 0 ≤ bPutV 1 (ldb x.1 x.2.2.1 e s y) v76o v84o v92o (v66o % 16) (v66o / 16) then bPutV 1 (ldb x.1 x.2.2.1 e s y) v76o v84o v92o (v66o % 16) (v66o / 16) else -1 := (by rw [← f99, ← f104]; exact p105hv)
      have g105b : (v105o = -1 ∧ ¬ 0 ≤ bPutV 1 (ldb x.1 x.2.2.1 e s y) v76o v84o v92o (v66o % 16) (v66o / 16)) ∨ (¬ v105o = -1 ∧ 0 ≤ bPutV 1 (ldb x.1 x.2.2.1 e s y) v76o v84o v92o (v66o % 16) (v66o / 16) ∧ v105o ≤ 40 ∧ 0 ≤ v105o) := by
        have z9 := bPutV_b (b := 1) (s := (ldb x.1 x.2.2.1 e s y)) (t := v76o) (o := v84o) (l := v92o) (i := v66o % 16) (j := v66o / 16)
        have z8 := hgb.2.1.1
        by_cases z7 : 0 ≤ bPutV 1 (ldb x.1 x.2.2.1 e s y) v76o v84o v92o (v66o % 16) (v66o / 16)
        · rw [if_pos z7] at g105
          exact Or.inr ⟨by omega, z7, by omega, by omega⟩
        · rw [if_neg z7] at g105
          exact Or.inl ⟨g105, z7⟩
      refine And.intro ⟨(by omega), (zRb rfl)⟩ ⟨fun h109 => ?_, fun h109 => ?_⟩
      · refine ⟨((50 - (y + 1)), 0, 0), zlt6 (by omega), [some (zvr (165)), some (zvi (e)), some (zvi (ldn x.1 x.2.2.1 e s (y + 1))), some (zvi (4 * (y + 1))), none], ⟨rfl, rfl, (congrArg (fun z => some (zvi z)) (by
  have w9 := ldb_s (s := s) g76 g84 g92 g66
  first
  | (have w8 := w9.2.1 (by omega); omega)
  | (have w8 := w9.2.2 (by omega); omega))), (congrArg (fun z => some (zvi z)) (by omega)), rfl⟩, (y + 1), rfl, rfl, rfl, rfl, rfl, rfl, (by omega), (by omega), (by omega), (by rw [(ldb_s (s := s) g76 g84 g92 g66).1, ← f99, ← f104]; exact p105bbhBB2), (by rw [(ldb_s (s := s) g76 g84 g92 g66).1, ← f99, ← f104]; exact p105bbbhPB2), (fun c j h0 h1 h2 h3 h4 h5 h6 h7 h8 h9 h10 h11 h12 h13 h14 h15 h16 h17 h18 h19 h20 h21 h22 h23 h24 h25 h26 h27 h28 h29 => ((p105bbbbfr c j h0 h1 h2 h3 h4 h5 h6 h7 h8 h9 h10 h11 h12 h13 h14 h15 h16 h17 h18).trans ((p92bfr c j h19 h20 h21 h22 h23 h24 h25 h26 h27 h28 h29).trans ((p84bfr c j h19 h20 h21 h22 h23 h24 h25 h26 h27 h28 h29).trans ((p76bfr c j h19 h20 h21 h22 h23 h24 h25 h26 h27 h28 h29).trans ((p66bfr c j h19 h20 h21 h22 h23 h24 h25 h26 h27 h28 h29).trans ((p54bfr c j h19 h20 h21 h22 h23 h24 h25 h26 h27 h28 h29).trans ((fr c j h0 h1 h2 h3 h4 h5 h6 h7 h8 h9 h10 h11 h12 h13 h14 h15 h16 h17 h18 h19 h20 h21 h22 h23 h24 h25 h26 h27 h28 h29).trans rfl))))))))⟩
      · refine ⟨((50 - (y + 1)), 0, 0), zlt6 (by omega), [some (zvr (165)), some (zvi (e)), some (zvi (ldn x.1 x.2.2.1 e s (y + 1))), some (zvi (4 * (y + 1))), none], ⟨rfl, rfl, (congrArg (fun z => some (zvi z)) (by
  have w9 := ldb_s (s := s) g76 g84 g92 g66
  first
  | (have w8 := w9.2.1 (by omega); omega)
  | (have w8 := w9.2.2 (by omega); omega))), (congrArg (fun z => some (zvi z)) (by omega)), rfl⟩, (y + 1), rfl, rfl, rfl, rfl, rfl, rfl, (by omega), (by omega), (by omega), (by rw [(ldb_s (s := s) g76 g84 g92 g66).1, ← f99, ← f104]; exact p105bbhBB2), (by rw [(ldb_s (s := s) g76 g84 g92 g66).1, ← f99, ← f104]; exact p105bbbhPB2), (fun c j h0 h1 h2 h3 h4 h5 h6 h7 h8 h9 h10 h11 h12 h13 h14 h15 h16 h17 h18 h19 h20 h21 h22 h23 h24 h25 h26 h27 h28 h29 => ((p105bbbbfr c j h0 h1 h2 h3 h4 h5 h6 h7 h8 h9 h10 h11 h12 h13 h14 h15 h16 h17 h18).trans ((p92bfr c j h19 h20 h21 h22 h23 h24 h25 h26 h27 h28 h29).trans ((p84bfr c j h19 h20 h21 h22 h23 h24 h25 h26 h27 h28 h29).trans ((p76bfr c j h19 h20 h21 h22 h23 h24 h25 h26 h27 h28 h29).trans ((p66bfr c j h19 h20 h21 h22 h23 h24 h25 h26 h27 h28 h29).trans ((p54bfr c j h19 h20 h21 h22 h23 h24 h25 h26 h27 h28 h29).trans ((fr c j h0 h1 h2 h3 h4 h5 h6 h7 h8 h9 h10 h11 h12 h13 h14 h15 h16 h17 h18 h19 h20 h21 h22 h23 h24 h25 h26 h27 h28 h29).trans rfl))))))))⟩)
