/-! vc -/
def T_J_shet2 : ZT := fun args I L R S Q => ∃ (k : Nat) (d : JdS) (p : Int) (o : Int), args = [zvr k, zvi p, zvi o] ∧ (zDy zT18 zF18 k R S) ∧ (zNJ k d I L) ∧ (jGd d) ∧ (dns d < 16) ∧ (-1 ≤ p ∧ p < dns d) ∧ (o = -1 ∨ (0 ≤ o ∧ o < dns d ∧ dbs d o.toNat = o)) ∧ ∀ (v : Int) (I' : ZI) (L' : ZI), (v = dns d) → (zNJ k (djS d p o) I' L') → (jGd (djS d p o)) → (zJN k (djS d p o) I') → (∀ c j : Nat, ¬ (c = k ∧ j = 0) → ¬ (c = k ∧ j = 1) → ¬ c = k + 1 → ¬ c = k + 2 → ¬ (c = k ∧ j = 29) → ¬ (c = k ∧ j = 31) → ¬ (c = k ∧ j = 32) → ¬ c = k + 18 → ¬ c = k + 19 → ¬ c = k + 20 → ¬ c = k + 21 → ¬ c = k + 22 → I' c j = I c j) → (∀ c j : Nat, L' c j = L c j) → Q (some (zvi (v))) I' L' R S
theorem sn_J_shet2 : ZSnd 7 18 32 T_J_shet2 := ZSnd.of (zT18_32 6) (by
  rintro args I L R S Q hz ⟨k, d, p, o, rfl, hd, hNJ, hJG, hns, hp, ho, hQ⟩
  have h5 := hd.1
  obtain ⟨⟨n1, n2, n3, n4, n5, n6, n7⟩, nS, nW, nD, nJ, nL, nT, nO, nP, nR⟩ := id hNJ
  obtain ⟨⟨g1, g2, g3, g4, g5, g6⟩, gs, gw, gj, gl, gp, gt⟩ := id hJG
  refine And.intro rfl ?_
  refine And.intro ⟨(by omega), (zRb rfl)⟩ ⟨fun h2 => ?_, fun h2 => ?_⟩
  · refine And.intro ⟨(by omega), (zRb rfl)⟩ ⟨fun h15 => ?_, fun h15 => ?_⟩
    · refine And.intro (zRb rfl) (zbt rfl ?_)
      refine And.intro ⟨(by omega), (zRb rfl)⟩ ⟨fun h43 => ?_, (fun h43 => False.elim (by omega))⟩
      refine And.intro (zDX hd 0 rfl) ⟨_, (zWi (zRb rfl)), ?_⟩
      refine And.intro (zDX hd 0 rfl) (zrd (v := 0) zxe ?_)
      refine And.intro (zRb rfl) (zbt rfl ?_)
      refine And.intro (zDX hd 0 rfl) (zrd (v := (dns d)) (zxs (by decide) n1) ?_)
      refine And.intro ⟨(by omega), (zRb rfl)⟩ ⟨fun h79 => ?_, (fun h79 => False.elim (by omega))⟩
      refine And.intro (zDX hd 0 rfl) (zrdR (v := some (k + 1)) (zDR hd 0 rfl) ?_)
      refine And.intro (zDX hd 0 rfl) (zrd (v := (dns d)) (zxs (by decide) n1) ?_)
      refine And.intro ⟨(by show 40 ≤ _; omega), (zDP hd 1 rfl rfl (by omega) (by omega))⟩ ⟨_, (zWi (by omega)), ?_⟩
      refine And.intro (zDX hd 0 rfl) (zrdR (v := some (k + 2)) (zDR hd 1 rfl) ?_)
      refine And.intro (zDX hd 0 rfl) (zrd (v := (dns d)) (zxu (by omega) (zxs (by decide) n1)) ?_)
      refine And.intro ⟨(by omega), (zRb rfl)⟩ ⟨(fun h104 => False.elim (by omega)), fun h104 => ?_⟩
      refine And.intro (zDX hd 0 rfl) (zrd (v := (dns d)) (zxu (by omega) (zxs (by decide) n1)) ?_)
      refine And.intro ⟨(by show 40 ≤ _; omega), (zDP hd 2 rfl rfl (by omega) (by omega))⟩ ⟨_, (zWi (by omega)), ?_⟩
      refine And.intro (zDX hd 0 rfl) (zrd (v := (dns d)) (zxu (by omega) (zxu (by omega) (zxs (by decide) n1))) ?_)
      refine And.intro (zDX hd 0 rfl) ⟨_, (zWi (by omega)), ?_⟩
      refine And.intro (zDX hd 0 rfl) ⟨_, sn_J_anew.up (by decide), ?_⟩
      refine ⟨k, (djS d p o), rfl, hd, (zNJ_S hNJ (zxe.trans (by omega)) ⟨zxu (by omega) (zxu (by omega) (zxe' (by omega))), by first | (rw [if_pos (by omega)]; exact zxu (by omega) (zxe' (by omega))) | (rw [if_neg (by omega)]; exact zxu (by omega) ((zxe' (by omega)).trans (by omega)))⟩ (fun w hw => ⟨zxu (by omega) (zxu (by omega) (zxs (by omega) (zxu (by omega) rfl))), zxu (by omega) (zxs (by omega) (zxu (by omega) (zxu (by omega) rfl)))⟩) (fun c j h => zxcj (by omega) (zxu (by omega) (zxu (by omega) (zxcj (by omega) rfl)))) (fun c j h => rfl)), (jGd_S hJG hns hp ho), ?_⟩
      intro I127o p127hNJ2 p127bhJN2 p127bbfr
      refine And.intro (zDX hd 0 rfl) (zrd (v := ((dns d) + 1)) ((p127bbfr k 1 (by omega) (by omega) (by omega) (by omega) (by omega) (by omega) (by omega) (by omega)).trans zxe) ?_)
      refine hQ _ _ _ (by omega) p127hNJ2 (jGd_S hJG hns hp ho) p127bhJN2 (fun c j h0 h1 h2 h3 h4 h5 h6 h7 h8 h9 h10 h11 => ((p127bbfr c j (by omega) (by omega) (by omega) (by omega) (by omega) (by omega) (by omega) (by omega)).trans (zxcj h1 (zxu h3 (zxu h2 (zxcj h0 rfl)))))) (fun c j  => rfl)
    · refine And.intro (zDX hd 0 rfl) (Exists.intro _ (And.intro (zinl_ok (zT18_11 5)) (And.intro rfl ?_)))
      refine And.intro (by omega) ⟨(fun h1_20 => False.elim (by omega)), fun h1_20 => ?_⟩
      refine And.intro (zDX hd 0 rfl) (zrd (v := (dns d)) n1 ?_)
      refine And.intro ⟨(by omega), (by omega)⟩ ⟨(fun h9_20 => False.elim (by omega)), fun h9_20 => ?_⟩
      refine And.intro (Or.inr rfl) ?_
      refine And.intro (zRb rfl) (zbf rfl ?_)
      refine And.intro (zRb rfl) (zbt rfl ?_)
      refine And.intro ⟨(by omega), (zRb rfl)⟩ ⟨(fun h43 => False.elim (by omega)), fun h43 => ?_⟩
      refine And.intro (zDX hd 0 rfl) (zrdR (v := some (k + 2)) (zDR hd 1 rfl) ?_)
      refine And.intro (zDP hd 2 rfl rfl (by omega) (by omega)) (fun v51 e51 r51 => ?_)
      have f51 : v51 = dbs d o.toNat := (e51.trans ((congrArg (I (k + 2)) (by omega)).trans (nS o.toNat (by omega)).2))
      have f51b : v51 = o := (by omega)
      refine And.intro ⟨r51, (by omega)⟩ ⟨fun h53 => ?_, (fun h53 => False.elim (by omega))⟩
      refine And.intro (zDX hd 0 rfl) ⟨_, (zWi (zRb rfl)), ?_⟩
      refine And.intro (zDX hd 0 rfl) (zrd (v := 0) zxe ?_)
      refine And.intro (zRb rfl) (zbt rfl ?_)
      refine And.intro (zDX hd 0 rfl) (zrd (v := (dns d)) (zxs (by decide) n1) ?_)
      refine And.intro ⟨(by omega), (zRb rfl)⟩ ⟨fun h79 => ?_, (fun h79 => False.elim (by omega))⟩
      refine And.intro (zDX hd 0 rfl) (zrdR (v := some (k + 1)) (zDR hd 0 rfl) ?_)
      refine And.intro (zDX hd 0 rfl) (zrd (v := (dns d)) (zxs (by decide) n1) ?_)
      refine And.intro ⟨(by show 40 ≤ _; omega), (zDP hd 1 rfl rfl (by omega) (by omega))⟩ ⟨_, (zWi (by omega)), ?_⟩
      refine And.intro (zDX hd 0 rfl) (zrdR (v := some (k + 2)) (zDR hd 1 rfl) ?_)
      refine And.intro (zDX hd 0 rfl) (zrd (v := (dns d)) (zxu (by omega) (zxs (by decide) n1)) ?_)
      refine And.intro ⟨(by omega), (zRb rfl)⟩ ⟨fun h104 => ?_, (fun h104 => False.elim (by omega))⟩
      refine And.intro ⟨(by show 40 ≤ _; omega), (zDP hd 2 rfl rfl (by omega) (by omega))⟩ ⟨_, (zWi (by omega)), ?_⟩
      refine And.intro (zDX hd 0 rfl) (zrd (v := (dns d)) (zxu (by omega) (zxu (by omega) (zxs (by decide) n1))) ?_)
      refine And.intro (zDX hd 0 rfl) ⟨_, (zWi (by omega)), ?_⟩
      refine And.intro (zDX hd 0 rfl) ⟨_, sn_J_anew.up (by decide), ?_⟩
      refine ⟨k, (djS d p o), rfl, hd, (zNJ_S hNJ (zxe.trans (by omega)) ⟨zxu (by omega) (zxu (by omega) (zxe' (by omega))), by first | (rw [if_pos (by omega)]; exact zxu (by omega) (zxe' (by omega))) | (rw [if_neg (by omega)]; exact zxu (by omega) ((zxe' (by omega)).trans (by omega)))⟩ (fun w hw => ⟨zxu (by omega) (zxu (by omega) (zxs (by omega) (zxu (by omega) rfl))), zxu (by omega) (zxs (by omega) (zxu (by omega) (zxu (by omega) rfl)))⟩) (fun c j h => zxcj (by omega) (zxu (by omega) (zxu (by omega) (zxcj (by omega) rfl)))) (fun c j h => rfl)), (jGd_S hJG hns hp ho), ?_⟩
      intro I127o p127hNJ2 p127bhJN2 p127bbfr
      refine And.intro (zDX hd 0 rfl) (zrd (v := ((dns d) + 1)) ((p127bbfr k 1 (by omega) (by omega) (by omega) (by omega) (by omega) (by omega) (by omega) (by omega)).trans zxe) ?_)
      refine hQ _ _ _ (by omega) p127hNJ2 (jGd_S hJG hns hp ho) p127bhJN2 (fun c j h0 h1 h2 h3 h4 h5 h6 h7 h8 h9 h10 h11 => ((p127bbfr c j (by omega) (by omega) (by omega) (by omega) (by omega) (by omega) (by omega) (by omega)).trans (zxcj h1 (zxu h3 (zxu h2 (zxcj h0 rfl)))))) (fun c j  => rfl)
  · refine And.intro (zDX hd 0 rfl) (Exists.intro _ (And.intro (zinl_ok (zT18_11 5)) (And.intro rfl ?_)))
    refine And.intro (by omega) ⟨(fun h1_7 => False.elim (by omega)), fun h1_7 => ?_⟩
    refine And.intro (zDX hd 0 rfl) (zrd (v := (dns d)) n1 ?_)
    refine And.intro ⟨(by omega), (by omega)⟩ ⟨(fun h9_7 => False.elim (by omega)), fun h9_7 => ?_⟩
    refine And.intro (Or.inr rfl) ?_
    refine And.intro (zRb rfl) (zbf rfl ?_)
    refine And.intro ⟨(by omega), (zRb rfl)⟩ ⟨fun h15 => ?_, fun h15 => ?_⟩
    · refine And.intro (zRb rfl) (zbt rfl ?_)
      refine And.intro ⟨(by omega), (zRb rfl)⟩ ⟨fun h43 => ?_, (fun h43 => False.elim (by omega))⟩
      refine And.intro (zDX hd 0 rfl) ⟨_, (zWi (zRb rfl)), ?_⟩
      refine And.intro (zDX hd 0 rfl) (zrd (v := 0) zxe ?_)
      refine And.intro (zRb rfl) (zbt rfl ?_)
      refine And.intro (zDX hd 0 rfl) (zrd (v := (dns d)) (zxs (by decide) n1) ?_)
      refine And.intro ⟨(by omega), (zRb rfl)⟩ ⟨fun h79 => ?_, (fun h79 => False.elim (by omega))⟩
      refine And.intro (zDX hd 0 rfl) (zrdR (v := some (k + 1)) (zDR hd 0 rfl) ?_)
      refine And.intro (zDX hd 0 rfl) (zrd (v := (dns d)) (zxs (by decide) n1) ?_)
      refine And.intro ⟨(by show 40 ≤ _; omega), (zDP hd 1 rfl rfl (by omega) (by omega))⟩ ⟨_, (zWi (by omega)), ?_⟩
      refine And.intro (zDX hd 0 rfl) (zrdR (v := some (k + 2)) (zDR hd 1 rfl) ?_)
      refine And.intro (zDX hd 0 rfl) (zrd (v := (dns d)) (zxu (by omega) (zxs (by decide) n1)) ?_)
      refine And.intro ⟨(by omega), (zRb rfl)⟩ ⟨(fun h104 => False.elim (by omega)), fun h104 => ?_⟩
      refine And.intro (zDX hd 0 rfl) (zrd (v := (dns d)) (zxu (by omega) (zxs (by decide) n1)) ?_)
      refine And.intro ⟨(by show 40 ≤ _; omega), (zDP hd 2 rfl rfl (by omega) (by omega))⟩ ⟨_, (zWi (by omega)), ?_⟩
      refine And.intro (zDX hd 0 rfl) (zrd (v := (dns d)) (zxu (by omega) (zxu (by omega) (zxs (by decide) n1))) ?_)
      refine And.intro (zDX hd 0 rfl) ⟨_, (zWi (by omega)), ?_⟩
      refine And.intro (zDX hd 0 rfl) ⟨_, sn_J_anew.up (by decide), ?_⟩
      refine ⟨k, (djS d p o), rfl, hd, (zNJ_S hNJ (zxe.trans (by omega)) ⟨zxu (by omega) (zxu (by omega) (zxe' (by omega))), by first | (rw [if_pos (by omega)]; exact zxu (by omega) (zxe' (by omega))) | (rw [if_neg (by omega)]; exact zxu (by omega) ((zxe' (by omega)).trans (by omega)))⟩ (fun w hw => ⟨zxu (by omega) (zxu (by omega) (zxs (by omega) (zxu (by omega) rfl))), zxu (by omega) (zxs (by omega) (zxu (by omega) (zxu (by omega) rfl)))⟩) (fun c j h => zxcj (by omega) (zxu (by omega) (zxu (by omega) (zxcj (by omega) rfl)))) (fun c j h => rfl)), (jGd_S hJG hns hp ho), ?_⟩
      intro I127o p127hNJ2 p127bhJN2 p127bbfr
      refine And.intro (zDX hd 0 rfl) (zrd (v := ((dns d) + 1)) ((p127bbfr k 1 (by omega) (by omega) (by omega) (by omega) (by omega) (by omega) (by omega) (by omega)).trans zxe) ?_)
      refine hQ _ _ _ (by omega) p127hNJ2 (jGd_S hJG hns hp ho) p127bhJN2 (fun c j h0 h1 h2 h3 h4 h5 h6 h7 h8 h9 h10 h11 => ((p127bbfr c j (by omega) (by omega) (by omega) (by omega) (by omega) (by omega) (by omega) (by omega)).trans (zxcj h1 (zxu h3 (zxu h2 (zxcj h0 rfl)))))) (fun c j  => rfl)
    · refine And.intro (zDX hd 0 rfl) (Exists.intro _ (And.intro (zinl_ok (zT18_11 5)) (And.intro rfl ?_)))
      refine And.intro (by omega) ⟨(fun h1_20 => False.elim (by omega)), fun h1_20 => ?_⟩
      refine And.intro (zDX hd 0 rfl) (zrd (v := (dns d)) n1 ?_)
      refine And.intro ⟨(by omega), (by omega)⟩ ⟨(fun h9_20 => False.elim (by omega)), fun h9_20 => ?_⟩
      refine And.intro (Or.inr rfl) ?_
      refine And.intro (zRb rfl) (zbf rfl ?_)
      refine And.intro (zRb rfl) (zbt rfl ?_)
      refine And.intro ⟨(by omega), (zRb rfl)⟩ ⟨(fun h43 => False.elim (by omega)), fun h43 => ?_⟩
      refine And.intro (zDX hd 0 rfl) (zrdR (v := some (k + 2)) (zDR hd 1 rfl) ?_)
      refine And.intro (zDP hd 2 rfl rfl (by omega) (by omega)) (fun v51 e51 r51 => ?_)
      have f51 : v51 = dbs d o.toNat := (e51.trans ((congrArg (I (k + 2)) (by omega)).trans (nS o.toNat (by omega)).2))
      have f51b : v51 = o := (by omega)
      refine And.intro ⟨r51, (by omega)⟩ ⟨fun h53 => ?_, (fun h53 => False.elim (by omega))⟩
      refine And.intro (zDX hd 0 rfl) ⟨_, (zWi (zRb rfl)), ?_⟩
      refine And.intro (zDX hd 0 rfl) (zrd (v := 0) zxe ?_)
      refine And.intro (zRb rfl) (zbt rfl ?_)
      refine And.intro (zDX hd 0 rfl) (zrd (v := (dns d)) (zxs (by decide) n1) ?_)
      refine And.intro ⟨(by omega), (zRb rfl)⟩ ⟨fun h79 => ?_, (fun h79 => False.elim (by omega))⟩
      refine And.intro (zDX hd 0 rfl) (zrdR (v := some (k + 1)) (zDR hd 0 rfl) ?_)
      refine And.intro (zDX hd 0 rfl) (zrd (v := (dns d)) (zxs (by decide) n1) ?_)
      refine And.intro ⟨(by show 40 ≤ _; omega), (zDP hd 1 rfl rfl (by omega) (by omega))⟩ ⟨_, (zWi (by omega)), ?_⟩
      refine And.intro (zDX hd 0 rfl) (zrdR (v := some (k + 2)) (zDR hd 1 rfl) ?_)
      refine And.intro (zDX hd 0 rfl) (zrd (v := (dns d)) (zxu (by omega) (zxs (by decide) n1)) ?_)
      refine And.intro ⟨(by omega), (zRb rfl)⟩ ⟨fun h104 => ?_, (fun h104 => False.elim (by omega))⟩
      refine And.intro ⟨(by show 40 ≤ _; omega), (zDP hd 2 rfl rfl (by omega) (by omega))⟩ ⟨_, (zWi (by omega)), ?_⟩
      refine And.intro (zDX hd 0 rfl) (zrd (v := (dns d)) (zxu (by omega) (zxu (by omega) (zxs (by decide) n1))) ?_)
      refine And.intro (zDX hd 0 rfl) ⟨_, (zWi (by omega)), ?_⟩
      refine And.intro (zDX hd 0 rfl) ⟨_, sn_J_anew.up (by decide), ?_⟩
      refine ⟨k, (djS d p o), rfl, hd, (zNJ_S hNJ (zxe.trans (by omega)) ⟨zxu (by omega) (zxu (by omega) (zxe' (by omega))), by first | (rw [if_pos (by omega)]; exact zxu (by omega) (zxe' (by omega))) | (rw [if_neg (by omega)]; exact zxu (by omega) ((zxe' (by omega)).trans (by omega)))⟩ (fun w hw => ⟨zxu (by omega) (zxu (by omega) (zxs (by omega) (zxu (by omega) rfl))), zxu (by omega) (zxs (by omega) (zxu (by omega) (zxu (by omega) rfl)))⟩) (fun c j h => zxcj (by omega) (zxu (by omega) (zxu (by omega) (zxcj (by omega) rfl)))) (fun c j h => rfl)), (jGd_S hJG hns hp ho), ?_⟩
      intro I127o p127hNJ2 p127bhJN2 p127bbfr
      refine And.intro (zDX hd 0 rfl) (zrd (v := ((dns d) + 1)) ((p127bbfr k 1 (by omega) (by omega) (by omega) (by omega) (by omega) (by omega) (by omega) (by omega)).trans zxe) ?_)
      refine hQ _ _ _ (by omega) p127hNJ2 (jGd_S hJG hns hp ho) p127bhJN2 (fun c j h0 h1 h2 h3 h4 h5 h6 h7 h8 h9 h10 h11 => ((p127bbfr c j (by omega) (by omega) (by omega) (by omega) (by omega) (by omega) (by omega) (by omega)).trans (zxcj h1 (zxu h3 (zxu h2 (zxcj h0 rfl)))))) (fun c j  => rfl))
def T_J_pinF : ZT := fun args I L R S Q => ∃ (k : Nat) (d : JdS) (s : Int) (x : Int) (y : Int) (n : Int), args = [zvr k, zvi s, zvl x, zvl y, zvi n] ∧ (zDy zT18 zF18 k R S) ∧ (zNJ k d I L) ∧ (jGd d) ∧ (0 ≤ s ∧ s < dns d ∧ dbs d s.toNat = s) ∧ (¬ (jFar x ∧ jFar y)) ∧ ((-2000000000 ≤ x ∧ x ≤ 2000000000) ∧ -2000000000 ≤ y ∧ y ≤ 2000000000) ∧ ∀ (v : Int) (I' : ZI), (∀ c j : Nat, ¬ (c = k ∧ j = 0) → I' c j = I c j) → Q (some (zvi (v))) I' L R S
theorem sn_J_pinF : ZSnd 7 18 29 T_J_pinF := ZSnd.of (zT18_29 6) (by
  rintro args I L R S Q hz ⟨k, d, s, x, y, n, rfl, hd, hNJ, hJG, hs, hf, hx, hQ⟩
  have h5 := hd.1
  obtain ⟨⟨n1, n2, n3, n4, n5, n6, n7⟩, nS, nW, nD, nJ, nL, nT, nO, nP, nR⟩ := id hNJ
  obtain ⟨⟨g1, g2, g3, g4, g5, g6⟩, gs, gw, gj, gl, gp, gt⟩ := id hJG
  refine And.intro rfl ?_
  refine Exists.intro _ (And.intro (zinl_ok (zT18_10 5)) (And.intro rfl ?_))
  refine ⟨_, _, ⟨zW6i (by omega), zW6i (zRL rfl)⟩, fun z4_6 c4_6 => ?_⟩
  refine And.intro c4_6.2.2 ⟨fun h5_6 => ?_, fun h5_6 => ?_⟩
  · refine And.intro (Or.inl rfl) ?_
    refine And.intro (zDX hd 0 rfl) (Exists.intro _ (And.intro (zinl_ok (zT18_31 5)) (And.intro rfl ?_)))
    refine And.intro (zDX hd 0 rfl) (Exists.intro _ (And.intro (zinl_ok (zT18_11 4)) (And.intro rfl ?_)))
    refine And.intro (by omega) ⟨(fun h1_9_2 => False.elim (by omega)), fun h1_9_2 => ?_⟩
    refine And.intro (zDX hd 0 rfl) (zrd (v := (dns d)) n1 ?_)
    refine And.intro ⟨(by omega), (by omega)⟩ ⟨(fun h9_9_2 => False.elim (by omega)), fun h9_9_2 => ?_⟩
    refine And.intro (Or.inr rfl) ?_
    refine And.intro (zRb rfl) (zbt rfl ?_)
    refine And.intro (zDX hd 0 rfl) (zrdR (v := some (k + 2)) (zDR hd 1 rfl) ?_)
    refine And.intro (zDP hd 2 rfl rfl (by omega) (by omega)) (fun v15_9 e15_9 r15_9 => ?_)
    have f15_9 : v15_9 = dbs d s.toNat := (e15_9.trans ((congrArg (I (k + 2)) (by omega)).trans (nS s.toNat (by omega)).2))
    have f15_9b : v15_9 = s := (by omega)
    refine And.intro ⟨r15_9, (by omega)⟩ ⟨fun h17_9 => ?_, (fun h17_9 => False.elim (by omega))⟩
    refine And.intro (zRb rfl) (zbt rfl ?_)
    refine And.intro (zDX hd 0 rfl) ⟨_, (zWi (zRb rfl)), ?_⟩
    refine And.intro (zDX hd 0 rfl) (zrd (v := 3) zxe ?_)
    refine And.intro (zRb rfl) (zbf rfl ?_)
    refine hQ _ _ (fun c j h0 => (zxcj h0 rfl))
  · refine ⟨_, _, ⟨zW6i (by omega), zW6i (zRL rfl)⟩, fun z12_6 c12_6 => ?_⟩
    refine And.intro c12_6.2.2 ⟨fun h13_6 => ?_, fun h13_6 => ?_⟩
    · refine And.intro (Or.inl rfl) ?_
      refine And.intro (zDX hd 0 rfl) (Exists.intro _ (And.intro (zinl_ok (zT18_31 5)) (And.intro rfl ?_)))
      refine And.intro (zDX hd 0 rfl) (Exists.intro _ (And.intro (zinl_ok (zT18_11 4)) (And.intro rfl ?_)))
      refine And.intro (by omega) ⟨(fun h1_9_2 => False.elim (by omega)), fun h1_9_2 => ?_⟩
      refine And.intro (zDX hd 0 rfl) (zrd (v := (dns d)) n1 ?_)
      refine And.intro ⟨(by omega), (by omega)⟩ ⟨(fun h9_9_2 => False.elim (by omega)), fun h9_9_2 => ?_⟩
      refine And.intro (Or.inr rfl) ?_
      refine And.intro (zRb rfl) (zbt rfl ?_)
      refine And.intro (zDX hd 0 rfl) (zrdR (v := some (k + 2)) (zDR hd 1 rfl) ?_)
      refine And.intro (zDP hd 2 rfl rfl (by omega) (by omega)) (fun v15_9 e15_9 r15_9 => ?_)
      have f15_9 : v15_9 = dbs d s.toNat := (e15_9.trans ((congrArg (I (k + 2)) (by omega)).trans (nS s.toNat (by omega)).2))
      have f15_9b : v15_9 = s := (by omega)
      refine And.intro ⟨r15_9, (by omega)⟩ ⟨fun h17_9 => ?_, (fun h17_9 => False.elim (by omega))⟩
      refine And.intro (zRb rfl) (zbt rfl ?_)
      refine And.intro (zDX hd 0 rfl) ⟨_, (zWi (zRb rfl)), ?_⟩
      refine And.intro (zDX hd 0 rfl) (zrd (v := 3) zxe ?_)
      refine And.intro (zRb rfl) (zbf rfl ?_)
      refine hQ _ _ (fun c j h0 => (zxcj h0 rfl))
    · refine ⟨_, _, ⟨zW6i (by omega), zW6i (zRL rfl)⟩, fun z20_6 c20_6 => ?_⟩
      refine And.intro c20_6.2.2 ⟨fun h21_6 => ?_, fun h21_6 => ?_⟩
      · refine And.intro (Or.inl rfl) ?_
        refine And.intro (zDX hd 0 rfl) (Exists.intro _ (And.intro (zinl_ok (zT18_31 5)) (And.intro rfl ?_)))
        refine And.intro (zDX hd 0 rfl) (Exists.intro _ (And.intro (zinl_ok (zT18_11 4)) (And.intro rfl ?_)))
        refine And.intro (by omega) ⟨(fun h1_9_2 => False.elim (by omega)), fun h1_9_2 => ?_⟩
        refine And.intro (zDX hd 0 rfl) (zrd (v := (dns d)) n1 ?_)
        refine And.intro ⟨(by omega), (by omega)⟩ ⟨(fun h9_9_2 => False.elim (by omega)), fun h9_9_2 => ?_⟩
        refine And.intro (Or.inr rfl) ?_
        refine And.intro (zRb rfl) (zbt rfl ?_)
        refine And.intro (zDX hd 0 rfl) (zrdR (v := some (k + 2)) (zDR hd 1 rfl) ?_)
        refine And.intro (zDP hd 2 rfl rfl (by omega) (by omega)) (fun v15_9 e15_9 r15_9 => ?_)
        have f15_9 : v15_9 = dbs d s.toNat := (e15_9.trans ((congrArg (I (k + 2)) (by omega)).trans (nS s.toNat (by omega)).2))
        have f15_9b : v15_9 = s := (by omega)
        refine And.intro ⟨r15_9, (by omega)⟩ ⟨fun h17_9 => ?_, (fun h17_9 => False.elim (by omega))⟩
        refine And.intro (zRb rfl) (zbt rfl ?_)
        refine And.intro (zDX hd 0 rfl) ⟨_, (zWi (zRb rfl)), ?_⟩
        refine And.intro (zDX hd 0 rfl) (zrd (v := 3) zxe ?_)
        refine And.intro (zRb rfl) (zbf rfl ?_)
        refine hQ _ _ (fun c j h0 => (zxcj h0 rfl))
      · refine ⟨_, _, ⟨zW6i (by omega), zW6i (zRL rfl)⟩, fun z28_6 c28_6 => ?_⟩
        refine And.intro c28_6.2.2 ⟨fun h29_6 => ?_, fun h29_6 => ?_⟩
        · refine And.intro (Or.inl rfl) ?_
          refine And.intro (zDX hd 0 rfl) (Exists.intro _ (And.intro (zinl_ok (zT18_31 5)) (And.intro rfl ?_)))
          refine And.intro (zDX hd 0 rfl) (Exists.intro _ (And.intro (zinl_ok (zT18_11 4)) (And.intro rfl ?_)))
          refine And.intro (by omega) ⟨(fun h1_9_2 => False.elim (by omega)), fun h1_9_2 => ?_⟩
          refine And.intro (zDX hd 0 rfl) (zrd (v := (dns d)) n1 ?_)
          refine And.intro ⟨(by omega), (by omega)⟩ ⟨(fun h9_9_2 => False.elim (by omega)), fun h9_9_2 => ?_⟩
          refine And.intro (Or.inr rfl) ?_
          refine And.intro (zRb rfl) (zbt rfl ?_)
          refine And.intro (zDX hd 0 rfl) (zrdR (v := some (k + 2)) (zDR hd 1 rfl) ?_)
          refine And.intro (zDP hd 2 rfl rfl (by omega) (by omega)) (fun v15_9 e15_9 r15_9 => ?_)
          have f15_9 : v15_9 = dbs d s.toNat := (e15_9.trans ((congrArg (I (k + 2)) (by omega)).trans (nS s.toNat (by omega)).2))
          have f15_9b : v15_9 = s := (by omega)
          refine And.intro ⟨r15_9, (by omega)⟩ ⟨fun h17_9 => ?_, (fun h17_9 => False.elim (by omega))⟩
          refine And.intro (zRb rfl) (zbt rfl ?_)
          refine And.intro (zDX hd 0 rfl) ⟨_, (zWi (zRb rfl)), ?_⟩
          refine And.intro (zDX hd 0 rfl) (zrd (v := 3) zxe ?_)
          refine And.intro (zRb rfl) (zbf rfl ?_)
          refine hQ _ _ (fun c j h0 => (zxcj h0 rfl))
        · exact False.elim (hf ⟨⟨by omega, by omega⟩, ⟨by omega, by omega⟩⟩))
def T_M_wir : ZT := fun args I L R S Q => ∃ (k : Nat) (O : OoS) (q : Nat) (d : JdS) (j : Int) (j_ : Nat) (s : Int), args = [zvr 165, zvr k, zvi j, zvi s] ∧ (zSh S) ∧ (zRs R) ∧ (zDy zT20 zF20 k R S) ∧ (168 ≤ k ∧ k ≤ 181) ∧ (zOM k O I L) ∧ (oGd O) ∧ (R 165 7 = some q) ∧ (zDy zT18 zF18 q R S) ∧ (302 ≤ q) ∧ (zNJ q d I L) ∧ (oOk O d) ∧ (zJN q d I) ∧ (j = j_ ∧ j_ < ocn O) ∧ (okd O j_ = 7) ∧ (0 ≤ s ∧ s < dns d ∧ dbs d s.toNat = s) ∧ ∀ (I' : ZI) (L' : ZI), (zNJ q (djWs d s (onm O j_ 0) (onm O j_ 1) (onm O j_ 2) (onm O j_ 3)) I' L') → (zJN q (djWs d s (onm O j_ 0) (onm O j_ 1) (onm O j_ 2) (onm O j_ 3)) I') → (∀ c j : Nat, ¬ (q ≤ c ∧ c ≤ q + 22) → ¬ (c = k ∧ j = 0) → I' c j = I c j) → (∀ c j : Nat, ¬ (q ≤ c ∧ c ≤ q + 22) → L' c j = L c j) → Q none I' L' R S
theorem sn_M_wir : ZSnd 8 21 78 T_M_wir := ZSnd.of (zT21_78 7) (by
  rintro args I L R S Q hz ⟨k, O, q, d, j, j_, s, rfl, hS, hR, hD, hk, hO, hG, hdq, hDq, hq, hNJ, hok, hJN, hj, hk7, hs, hQ⟩
  obtain ⟨o1, o2, o3, o4⟩ := id hO
  obtain ⟨g1, g2, g3, g4, g5⟩ := id hG
  have hk40 := hD.1
  have hk1 := hk.1
  have hk2 := hk.2
  have hjg := hok.1
  obtain ⟨⟨j1, j2, j3, j4, j5, j6⟩, gs, gw, gj, gl, gp, gt⟩ := id hjg
  refine And.intro rfl ?_
  refine And.intro (zA_165 hS) (zrdR (v := some q) hdq ?_)
  refine And.intro (zDX hD 0 rfl) ⟨_, sn_V_num.up (by decide), ?_⟩
  refine ⟨k, O, (j : Int), j_, (0 : Int), 0, rfl, hS, hR, hD, (by first | exact (zOM_fr hO (fun c j h => rfl) (fun c j h => rfl)) | (clear hQ; grind [xu])), (by first | exact hG | (clear hQ; grind [xu])), (by omega), ⟨by omega, (by have e : (okd O j_).toNat = 7 := (by omega); rw [e]; decide)⟩, ?_⟩
  intro v8o I8o p8hv p8bhv2 p8bbht p8bbbfr
  refine And.intro (zDX hD 0 rfl) ⟨_, sn_V_num.up (by decide), ?_⟩
  refine ⟨k, O, (j : Int), j_, (1 : Int), 1, rfl, hS, hR, hD, (by first | exact (zOM_fr hO (fun c j h => ((p8bbbfr c j (by omega)).trans rfl)) (fun c j h => rfl)) | (clear hQ; grind [xu])), (by first | exact hG | (clear hQ; grind [xu])), (by omega), ⟨by omega, (by have e : (okd O j_).toNat = 7 := (by omega); rw [e]; decide)⟩, ?_⟩
  intro v14o I14o p14hv p14bhv2 p14bbht p14bbbfr
  refine And.intro (zDX hD 0 rfl) ⟨_, sn_V_num.up (by decide), ?_⟩
  refine ⟨k, O, (j : Int), j_, (2 : Int), 2, rfl, hS, hR, hD, (by first | exact (zOM_fr hO (fun c j h => ((p14bbbfr c j (by omega)).trans ((p8bbbfr c j (by omega)).trans rfl))) (fun c j h => rfl)) | (clear hQ; grind [xu])), (by first | exact hG | (clear hQ; grind [xu])), (by omega), ⟨by omega, (by have e : (okd O j_).toNat = 7 := (by omega); rw [e]; decide)⟩, ?_⟩
  intro v20o I20o p20hv p20bhv2 p20bbht p20bbbfr
  refine And.intro (zDX hD 0 rfl) ⟨_, sn_V_num.up (by decide), ?_⟩
  refine ⟨k, O, (j : Int), j_, (3 : Int), 3, rfl, hS, hR, hD, (by first | exact (zOM_fr hO (fun c j h => ((p20bbbfr c j (by omega)).trans ((p14bbbfr c j (by omega)).trans ((p8bbbfr c j (by omega)).trans rfl)))) (fun c j h => rfl)) | (clear hQ; grind [xu])), (by first | exact hG | (clear hQ; grind [xu])), (by omega), ⟨by omega, (by have e : (okd O j_).toNat = 7 := (by omega); rw [e]; decide)⟩, ?_⟩
  intro v26o I26o p26hv p26bhv2 p26bbht p26bbbfr
  have g26 : zJN q d I26o := (zJN_fr hJN (fun c j h => ((p26bbbfr c j (by omega)).trans ((p20bbbfr c j (by omega)).trans ((p14bbbfr c j (by omega)).trans ((p8bbbfr c j (by omega)).trans rfl))))))
  refine And.intro (zDX hDq 0 rfl) ⟨_, sn_J_wire.up (by decide), ?_⟩
  refine ⟨q, d, (s : Int), (v8o : Int), (v14o : Int), (v20o : Int), (v26o : Int), rfl, hDq, (by first | exact (zNJ_fr hNJ (fun c j h => ((p26bbbfr c j (by omega)).trans ((p20bbbfr c j (by omega)).trans ((p14bbbfr c j (by omega)).trans ((p8bbbfr c j (by omega)).trans rfl))))) (fun c j h => rfl)) | (clear hQ; grind [xu])), hjg, hs, ⟨jFar_2 (by omega), jFar_2 (by omega), jFar_2 (by omega), jFar_2 (by omega)⟩, ?_⟩
  intro v29o I29o L29o p29hNJ2 p29bhJG2 p29bbhJN2 p29bbbfr p29bbbbfrL
  refine hQ _ _ (by rw [← p8hv, ← p14hv, ← p20hv, ← p26hv]; exact p29hNJ2) (by rw [← p8hv, ← p14hv, ← p20hv, ← p26hv]; exact p29bbhJN2 g26) (fun c j h0 h1 => ((p29bbbfr c j (by omega) (by omega) (by omega) (by omega) (by omega) (by omega) (by omega) (by omega) (by omega) (by omega) (by omega)).trans ((p26bbbfr c j (by omega)).trans ((p20bbbfr c j (by omega)).trans ((p14bbbfr c j (by omega)).trans ((p8bbbfr c j (by omega)).trans rfl)))))) (fun c j h0 => ((p29bbbbfrL c j (by omega)).trans rfl)))
def T_M_ter : ZT := fun args I L R S Q => ∃ (k : Nat) (O : OoS) (q : Nat) (d : JdS) (j : Int) (j_ : Nat), args = [zvr 165, zvr k, zvi j] ∧ (zSh S) ∧ (zRs R) ∧ (zDy zT20 zF20 k R S) ∧ (168 ≤ k ∧ k ≤ 181) ∧ (zOM k O I L) ∧ (oGd O) ∧ (R 165 7 = some q) ∧ (zDy zT18 zF18 q R S) ∧ (302 ≤ q) ∧ (zNJ q d I L) ∧ (oOk O d) ∧ (zJN q d I) ∧ (zMH O (ocn O) d I) ∧ (j = j_ ∧ j_ < ocn O) ∧ (okd O j_ = 4) ∧ ∀ (I' : ZI) (L' : ZI), (zNJ q (oPi O j_ d) I' L') → (zJN q (oPi O j_ d) I') → (∀ c j : Nat, ¬ (q ≤ c ∧ c ≤ q + 22) → ¬ (c = k ∧ j = 0) → I' c j = I c j) → (∀ c j : Nat, ¬ (q ≤ c ∧ c ≤ q + 22) → L' c j = L c j) → Q none I' L' R S
theorem sn_M_ter : ZSnd 8 21 73 T_M_ter := ZSnd.of (zT21_73 7) (by
  rintro args I L R S Q hz ⟨k, O, q, d, j, j_, rfl, hS, hR, hD, hk, hO, hG, hdq, hDq, hq, hNJ, hok, hJN, hM, hj, hk4, hQ⟩
  obtain ⟨o1, o2, o3, o4⟩ := id hO
  obtain ⟨g1, g2, g3, g4, g5⟩ := id hG
  have hk40 := hD.1
  have hk1 := hk.1
  have hk2 := hk.2
  have hjg := hok.1
  obtain ⟨⟨j1, j2, j3, j4, j5, j6⟩, gs, gw, gj, gl, gp, gt⟩ := id hjg
  obtain ⟨m1, m2, m3⟩ := id hM
  have y1 := (oPar hG (k := j_) (by omega) (by omega))
  have y2 := oSy_b hG (k := j_) (by omega) hk4
  have y3 : oSy O j_ = opa O (opa O j_).toNat := rfl
  have y4 := y1.2.2.2.2.2.1 hk4
  have y5 := (oPar hG (k := (opa O j_).toNat) (by omega) (by omega)).2.2.2.2.1 y4
  have ysb := oSh_c (O := O) (d := d) (j := (opa O (oSy O j_).toNat).toNat) hok rfl (by omega)
  have y6 : oDr O (opa O (oSy O j_).toNat) ↔ (0 ≤ oSh O (opa O (oSy O j_).toNat).toNat ∧ (dbs d (oSh O (opa O (oSy O j_).toNat).toNat).toNat : Int) = oSh O (opa O (oSy O j_).toNat).toNat) := oDr_i hok.2.1 rfl
  refine And.intro rfl ?_
  refine And.intro (zDX hD 0 rfl) ⟨_, sn_V_par.up (by decide), ?_⟩
  refine ⟨k, O, (j : Int), j_, rfl, hS, hR, hD, (by first | exact (zOM_fr hO (fun c j h => rfl) (fun c j h => rfl)) | (clear hQ; grind [xu])), (by first | exact hG | (clear hQ; grind [xu])), (by omega), ?_⟩
  intro v3o I3o p3hv p3bhv2 p3bbht p3bbbfr
  refine And.intro (zDX hD 0 rfl) ⟨_, sn_V_par.up (by decide), ?_⟩
  refine ⟨k, O, (v3o : Int), (opa O j_).toNat, rfl, hS, hR, hD, (by first | exact (zOM_fr hO (fun c j h => ((p3bbbfr c j (by omega)).trans rfl)) (fun c j h => rfl)) | (clear hQ; grind [xu])), (by first | exact hG | (clear hQ; grind [xu])), (by omega), ?_⟩
  intro v6o I6o p6hv p6bhv2 p6bbht p6bbbfr
  refine And.intro (zDX hD 0 rfl) ⟨_, sn_V_par.up (by decide), ?_⟩
  refine ⟨k, O, (v6o : Int), (oSy O j_).toNat, rfl, hS, hR, hD, (by first | exact (zOM_fr hO (fun c j h => ((p6bbbfr c j (by omega)).trans ((p3bbbfr c j (by omega)).trans rfl))) (fun c j h => rfl)) | (clear hQ; grind [xu])), (by first | exact hG | (clear hQ; grind [xu])), (by omega), ?_⟩
  intro v12o I12o p12hv p12bhv2 p12bbht p12bbbfr
  refine And.intro (zA_165 hS) (Exists.intro _ (And.intro (zinl_ok (zT21_31 6)) (And.intro rfl ?_)))
  refine And.intro (zA_165 hS) (zrdR (v := some 194) (zR_165_8 hR) ?_)
  refine And.intro (zP_194 hS (by omega) (by omega)) (fun v5_20 e5_20 r5_20 => ?_)
  have f5_20 : v5_20 = oSh O (opa O (oSy O j_).toNat).toNat := (e5_20.trans ((congrArg (I12o 194) (by omega)).trans ((p12bbbfr 194 _ (by omega)).trans ((p6bbbfr 194 _ (by omega)).trans ((p3bbbfr 194 _ (by omega)).trans (m2 (opa O (oSy O j_).toNat).toNat (by omega)))))))
  have f5_20b : -1 ≤ v5_20 ∧ v5_20 + 1 ≤ dns d := (by omega)
  refine And.intro ⟨r5_20, (zRb rfl)⟩ ⟨fun h7_20 => ?_, fun h7_20 => ?_⟩
  · refine And.intro (Or.inl rfl) ?_
    refine And.intro (zRb rfl) (zbf rfl ?_)
    refine hQ _ _ ?_ ?_ (fun c j h0 h1 => ((p12bbbfr c j (by omega)).trans ((p6bbbfr c j (by omega)).trans ((p3bbbfr c j (by omega)).trans rfl)))) (fun c j h0 => rfl)
    · first
      | (rw [oPi_n (fun w => by have w2 := y6.mp w; omega)]
         exact (zNJ_fr hNJ (fun c j h => ((p12bbbfr c j (by omega)).trans ((p6bbbfr c j (by omega)).trans ((p3bbbfr c j (by omega)).trans rfl)))) (fun c j h => rfl)))
      | (rw [oPi_n (fun w => by have w2 := y6.mp w; rw [f19_20, if_pos (by omega)] at f20_20; omega)]
         exact (zNJ_fr hNJ (fun c j h => ((p12bbbfr c j (by omega)).trans ((p6bbbfr c j (by omega)).trans ((p3bbbfr c j (by omega)).trans rfl)))) (fun c j h => rfl)))
      | (have ex : oTx O j_ 0 = v41o + v47o := by
           show onm O (oSy O j_).toNat 0 + onm O j_ 0 = _
           omega
         have ey : oTx O j_ 1 = v54o + v60o := by
           show onm O (oSy O j_).toNat 1 + onm O j_ 1 = _
           omega
         have e6 : oSy O j_ = v6o := y3.trans p6hv.symm
         rw [oPi_y (y6.mpr ⟨by omega, by rw [← f19_20]; exact t22_20⟩), ex, ey, ← f37, e6]
         first
         | (rw [oTm_t hfar]
            exact p65hNJ2)
         | (rw [oTm_f hfar]
            exact (zNJ_fr hNJ (fun c j h => ((p12bbbfr c j (by omega)).trans ((p6bbbfr c j (by omega)).trans ((p3bbbfr c j (by omega)).trans rfl)))) (fun c j h => rfl))))
    · first
      | (rw [oPi_n (fun w => by have w2 := y6.mp w; omega)]
         exact (zJN_fr hJN (fun c j h => ((p12bbbfr c j (by omega)).trans ((p6bbbfr c j (by omega)).trans ((p3bbbfr c j (by omega)).trans rfl))))))
      | (rw [oPi_n (fun w => by have w2 := y6.mp w; rw [f19_20, if_pos (by omega)] at f20_20; omega)]
         exact (zJN_fr hJN (fun c j h => ((p12bbbfr c j (by omega)).trans ((p6bbbfr c j (by omega)).trans ((p3bbbfr c j (by omega)).trans rfl))))))
      | (have ex : oTx O j_ 0 = v41o + v47o := by
           show onm O (oSy O j_).toNat 0 + onm O j_ 0 = _
           omega
         have ey : oTx O j_ 1 = v54o + v60o := by
           show onm O (oSy O j_).toNat 1 + onm O j_ 1 = _
           omega
         have e6 : oSy O j_ = v6o := y3.trans p6hv.symm
         rw [oPi_y (y6.mpr ⟨by omega, by rw [← f19_20]; exact t22_20⟩), ex, ey, ← f37, e6]
         first
         | (rw [oTm_t hfar]
            exact (p65bbhJN2 (zJN_fr hJN (fun c j h => ((p60bbbfr c j (by omega)).trans ((p54bbbfr c j (by omega)).trans ((p47bbbfr c j (by omega)).trans ((p41bbbfr c j (by omega)).trans ((p12bbbfr c j (by omega)).trans ((p6bbbfr c j (by omega)).trans ((p3bbbfr c j (by omega)).trans rfl)))))))))))
         | (rw [oTm_f hfar]
            exact (zJN_fr hJN (fun c j h => ((p12bbbfr c j (by omega)).trans ((p6bbbfr c j (by omega)).trans ((p3bbbfr c j (by omega)).trans rfl)))))))
  · refine And.intro (zA_165 hS) (zrdR (v := some 195) (zR_165_9 hR) ?_)
    refine And.intro (zA_165 hS) (zrdR (v := some 194) (zR_165_8 hR) ?_)
    refine And.intro (zP_194 hS (by omega) (by omega)) (fun v19_20 e19_20 r19_20 => ?_)
    have f19_20 : v19_20 = oSh O (opa O (oSy O j_).toNat).toNat := (e19_20.trans ((congrArg (I12o 194) (by omega)).trans ((p12bbbfr 194 _ (by omega)).trans ((p6bbbfr 194 _ (by omega)).trans ((p3bbbfr 194 _ (by omega)).trans (m2 (opa O (oSy O j_).toNat).toNat (by omega)))))))
    have f19_20b : -1 ≤ v19_20 ∧ v19_20 + 1 ≤ dns d := (by omega)
    refine And.intro (zP_195 hS (by omega) (by omega)) (fun v20_20 e20_20 r20_20 => ?_)
    have f20_20 : v20_20 = if dbs d v19_20.toNat = v19_20.toNat then -1 else (dbs d v19_20.toNat : Int) := (e20_20.trans ((p12bbbfr 195 _ (by omega)).trans ((p6bbbfr 195 _ (by omega)).trans ((p3bbbfr 195 _ (by omega)).trans (m3 _ (by omega)).2))))
    refine And.intro ⟨r20_20, (zRb rfl)⟩ ⟨fun h22_20 => ?_, fun h22_20 => ?_⟩
    · refine And.intro (Or.inl rfl) ?_
      refine And.intro (zRb rfl) (zbf rfl ?_)
      refine hQ _ _ ?_ ?_ (fun c j h0 h1 => ((p12bbbfr c j (by omega)).trans ((p6bbbfr c j (by omega)).trans ((p3bbbfr c j (by omega)).trans rfl)))) (fun c j h0 => rfl)
      · first
        | (rw [oPi_n (fun w => by have w2 := y6.mp w; omega)]
           exact (zNJ_fr hNJ (fun c j h => ((p12bbbfr c j (by omega)).trans ((p6bbbfr c j (by omega)).trans ((p3bbbfr c j (by omega)).trans rfl)))) (fun c j h => rfl)))
        | (rw [oPi_n (fun w => by have w2 := y6.mp w; rw [f19_20, if_pos (by omega)] at f20_20; omega)]
           exact (zNJ_fr hNJ (fun c j h => ((p12bbbfr c j (by omega)).trans ((p6bbbfr c j (by omega)).trans ((p3bbbfr c j (by omega)).trans rfl)))) (fun c j h => rfl)))
        | (have ex : oTx O j_ 0 = v41o + v47o := by
             show onm O (oSy O j_).toNat 0 + onm O j_ 0 = _
             omega
           have ey : oTx O j_ 1 = v54o + v60o := by
             show onm O (oSy O j_).toNat 1 + onm O j_ 1 = _
             omega
           have e6 : oSy O j_ = v6o := y3.trans p6hv.symm
           rw [oPi_y (y6.mpr ⟨by omega, by rw [← f19_20]; exact t22_20⟩), ex, ey, ← f37, e6]
           first
           | (rw [oTm_t hfar]
              exact p65hNJ2)
           | (rw [oTm_f hfar]
              exact (zNJ_fr hNJ (fun c j h => ((p12bbbfr c j (by omega)).trans ((p6bbbfr c j (by omega)).trans ((p3bbbfr c j (by omega)).trans rfl)))) (fun c j h => rfl))))
      · first
        | (rw [oPi_n (fun w => by have w2 := y6.mp w; omega)]
           exact (zJN_fr hJN (fun c j h => ((p12bbbfr c j (by omega)).trans ((p6bbbfr c j (by omega)).trans ((p3bbbfr c j (by omega)).trans rfl))))))
        | (rw [oPi_n (fun w => by have w2 := y6.mp w; rw [f19_20, if_pos (by omega)] at f20_20; omega)]
           exact (zJN_fr hJN (fun c j h => ((p12bbbfr c j (by omega)).trans ((p6bbbfr c j (by omega)).trans ((p3bbbfr c j (by omega)).trans rfl))))))
        | (have ex : oTx O j_ 0 = v41o + v47o := by
             show onm O (oSy O j_).toNat 0 + onm O j_ 0 = _
             omega
           have ey : oTx O j_ 1 = v54o + v60o := by
             show onm O (oSy O j_).toNat 1 + onm O j_ 1 = _
             omega
           have e6 : oSy O j_ = v6o := y3.trans p6hv.symm
           rw [oPi_y (y6.mpr ⟨by omega, by rw [← f19_20]; exact t22_20⟩), ex, ey, ← f37, e6]
           first
           | (rw [oTm_t hfar]
              exact (p65bbhJN2 (zJN_fr hJN (fun c j h => ((p60bbbfr c j (by omega)).trans ((p54bbbfr c j (by omega)).trans ((p47bbbfr c j (by omega)).trans ((p41bbbfr c j (by omega)).trans ((p12bbbfr c j (by omega)).trans ((p6bbbfr c j (by omega)).trans ((p3bbbfr c j (by omega)).trans rfl)))))))))))
           | (rw [oTm_f hfar]
              exact (zJN_fr hJN (fun c j h => ((p12bbbfr c j (by omega)).trans ((p6bbbfr c j (by omega)).trans ((p3bbbfr c j (by omega)).trans rfl)))))))
    · have t22_20 : (dbs d v19_20.toNat : Int) = v19_20 := (by by_cases e : dbs d v19_20.toNat = v19_20.toNat; omega; rw [if_neg e] at f20_20; omega)
      refine And.intro (Or.inr rfl) ?_
      refine And.intro (zRb rfl) (zbt rfl ?_)
      refine And.intro (zA_165 hS) (zrdR (v := some q) hdq ?_)
      refine And.intro (zA_165 hS) (zrdR (v := some 194) (zR_165_8 hR) ?_)
      refine And.intro (zP_194 hS (by omega) (by omega)) (fun v37 e37 r37 => ?_)
      have f37 : v37 = oSh O (opa O (oSy O j_).toNat).toNat := (e37.trans ((congrArg (I12o 194) (by omega)).trans ((p12bbbfr 194 _ (by omega)).trans ((p6bbbfr 194 _ (by omega)).trans ((p3bbbfr 194 _ (by omega)).trans (m2 (opa O (oSy O j_).toNat).toNat (by omega)))))))
      have f37b : 0 ≤ v37 ∧ v37 + 1 ≤ dns d := (by omega)
      refine And.intro (zDX hD 0 rfl) ⟨_, sn_V_num.up (by decide), ?_⟩
      refine ⟨k, O, (v6o : Int), (oSy O j_).toNat, (0 : Int), 0, rfl, hS, hR, hD, (by first | exact (zOM_fr hO (fun c j h => ((p12bbbfr c j (by omega)).trans ((p6bbbfr c j (by omega)).trans ((p3bbbfr c j (by omega)).trans rfl)))) (fun c j h => rfl)) | (clear hQ; grind [xu])), (by first | exact hG | (clear hQ; grind [xu])), (by omega), ⟨by omega, (by have e : (okd O (oSy O j_).toNat).toNat = 2 := (by rw [y3]; omega); rw [e]; decide)⟩, ?_⟩
      intro v41o I41o p41hv p41bhv2 p41bbht p41bbbfr
      refine And.intro (zDX hD 0 rfl) ⟨_, sn_V_num.up (by decide), ?_⟩
      refine ⟨k, O, (j : Int), j_, (0 : Int), 0, rfl, hS, hR, hD, (by first | exact (zOM_fr hO (fun c j h => ((p41bbbfr c j (by omega)).trans ((p12bbbfr c j (by omega)).trans ((p6bbbfr c j (by omega)).trans ((p3bbbfr c j (by omega)).trans rfl))))) (fun c j h => rfl)) | (clear hQ; grind [xu])), (by first | exact hG | (clear hQ; grind [xu])), (by omega), ⟨by omega, (by have e : (okd O j_).toNat = 4 := (by omega); rw [e]; decide)⟩, ?_⟩
      intro v47o I47o p47hv p47bhv2 p47bbht p47bbbfr
      refine And.intro (zDX hD 0 rfl) ⟨_, sn_V_num.up (by decide), ?_⟩
      refine ⟨k, O, (v6o : Int), (oSy O j_).toNat, (1 : Int), 1, rfl, hS, hR, hD, (by first | exact (zOM_fr hO (fun c j h => ((p47bbbfr c j (by omega)).trans ((p41bbbfr c j (by omega)).trans ((p12bbbfr c j (by omega)).trans ((p6bbbfr c j (by omega)).trans ((p3bbbfr c j (by omega)).trans rfl)))))) (fun c j h => rfl)) | (clear hQ; grind [xu])), (by first | exact hG | (clear hQ; grind [xu])), (by omega), ⟨by omega, (by have e : (okd O (oSy O j_).toNat).toNat = 2 := (by rw [y3]; omega); rw [e]; decide)⟩, ?_⟩
      intro v54o I54o p54hv p54bhv2 p54bbht p54bbbfr
      refine And.intro (zDX hD 0 rfl) ⟨_, sn_V_num.up (by decide), ?_⟩
      refine ⟨k, O, (j : Int), j_, (1 : Int), 1, rfl, hS, hR, hD, (by first | exact (zOM_fr hO (fun c j h => ((p54bbbfr c j (by omega)).trans ((p47bbbfr c j (by omega)).trans ((p41bbbfr c j (by omega)).trans ((p12bbbfr c j (by omega)).trans ((p6bbbfr c j (by omega)).trans ((p3bbbfr c j (by omega)).trans rfl))))))) (fun c j h => rfl)) | (clear hQ; grind [xu])), (by first | exact hG | (clear hQ; grind [xu])), (by omega), ⟨by omega, (by have e : (okd O j_).toNat = 4 := (by omega); rw [e]; decide)⟩, ?_⟩
      intro v60o I60o p60hv p60bhv2 p60bbht p60bbbfr
      rcases Classical.em (jFar (v41o + v47o) ∧ jFar (v54o + v60o)) with hfar | hfar
      · refine And.intro (zDX hDq 0 rfl) ⟨_, sn_J_pin.up (by decide), ?_⟩
        refine ⟨q, d, (v37 : Int), ((v41o + v47o) : Int), ((v54o + v60o) : Int), (v6o : Int), rfl, hDq, (by first | exact (zNJ_fr hNJ (fun c j h => ((p60bbbfr c j (by omega)).trans ((p54bbbfr c j (by omega)).trans ((p47bbbfr c j (by omega)).trans ((p41bbbfr c j (by omega)).trans ((p12bbbfr c j (by omega)).trans ((p6bbbfr c j (by omega)).trans ((p3bbbfr c j (by omega)).trans rfl)))))))) (fun c j h => rfl)) | (clear hQ; grind [xu])), hjg, ⟨by omega, by omega, by rw [show v37 = v19_20 by omega]; exact t22_20⟩, hfar, (by omega), ?_⟩
        intro v65o I65o L65o p65hNJ2 p65bhJG2 p65bbhJN2 p65bbbfr p65bbbbfrL
        refine hQ _ _ ?_ ?_ (fun c j h0 h1 => ((p65bbbfr c j (by omega) (by omega) (by omega) (by omega) (by omega) (by omega) (by omega) (by omega) (by omega) (by omega) (by omega) (by omega)).trans ((p60bbbfr c j (by omega)).trans ((p54bbbfr c j (by omega)).trans ((p47bbbfr c j (by omega)).trans ((p41bbbfr c j (by omega)).trans ((p12bbbfr c j (by omega)).trans ((p6bbbfr c j (by omega)).trans ((p3bbbfr c j (by omega)).trans rfl))))))))) (fun c j h0 => ((p65bbbbfrL c j (by omega)).trans rfl))
        · first
          | (rw [oPi_n (fun w => by have w2 := y6.mp w; omega)]
             exact (zNJ_fr hNJ (fun c j h => ((p65bbbfr c j (by omega) (by omega) (by omega) (by omega) (by omega) (by omega) (by omega) (by omega) (by omega) (by omega) (by omega) (by omega)).trans ((p60bbbfr c j (by omega)).trans ((p54bbbfr c j (by omega)).trans ((p47bbbfr c j (by omega)).trans ((p41bbbfr c j (by omega)).trans ((p12bbbfr c j (by omega)).trans ((p6bbbfr c j (by omega)).trans ((p3bbbfr c j (by omega)).trans rfl))))))))) (fun c j h => ((p65bbbbfrL c j (by omega)).trans rfl))))
          | (rw [oPi_n (fun w => by have w2 := y6.mp w; rw [f19_20, if_pos (by omega)] at f20_20; omega)]
             exact (zNJ_fr hNJ (fun c j h => ((p65bbbfr c j (by omega) (by omega) (by omega) (by omega) (by omega) (by omega) (by omega) (by omega) (by omega) (by omega) (by omega) (by omega)).trans ((p60bbbfr c j (by omega)).trans ((p54bbbfr c j (by omega)).trans ((p47bbbfr c j (by omega)).trans ((p41bbbfr c j (by omega)).trans ((p12bbbfr c j (by omega)).trans ((p6bbbfr c j (by omega)).trans ((p3bbbfr c j (by omega)).trans rfl))))))))) (fun c j h => ((p65bbbbfrL c j (by omega)).trans rfl))))
          | (have ex : oTx O j_ 0 = v41o + v47o := by
               show onm O (oSy O j_).toNat 0 + onm O j_ 0 = _
               omega
             have ey : oTx O j_ 1 = v54o + v60o := by
               show onm O (oSy O j_).toNat 1 + onm O j_ 1 = _
               omega
             have e6 : oSy O j_ = v6o := y3.trans p6hv.symm
             rw [oPi_y (y6.mpr ⟨by omega, by rw [← f19_20]; exact t22_20⟩), ex, ey, ← f37, e6]
             first
             | (rw [oTm_t hfar]
                exact p65hNJ2)
             | (rw [oTm_f hfar]
                exact (zNJ_fr hNJ (fun c j h => ((p65bbbfr c j (by omega) (by omega) (by omega) (by omega) (by omega) (by omega) (by omega) (by omega) (by omega) (by omega) (by omega) (by omega)).trans ((p60bbbfr c j (by omega)).trans ((p54bbbfr c j (by omega)).trans ((p47bbbfr c j (by omega)).trans ((p41bbbfr c j (by omega)).trans ((p12bbbfr c j (by omega)).trans ((p6bbbfr c j (by omega)).trans ((p3bbbfr c j (by omega)).trans rfl))))))))) (fun c j h => ((p65bbbbfrL c j (by omega)).trans rfl)))))
        · first
          | (rw [oPi_n (fun w => by have w2 := y6.mp w; omega)]
             exact (zJN_fr hJN (fun c j h => ((p65bbbfr c j (by omega) (by omega) (by omega) (by omega) (by omega) (by omega) (by omega) (by omega) (by omega) (by omega) (by omega) (by omega)).trans ((p60bbbfr c j (by omega)).trans ((p54bbbfr c j (by omega)).trans ((p47bbbfr c j (by omega)).trans ((p41bbbfr c j (by omega)).trans ((p12bbbfr c j (by omega)).trans ((p6bbbfr c j (by omega)).trans ((p3bbbfr c j (by omega)).trans rfl)))))))))))
          | (rw [oPi_n (fun w => by have w2 := y6.mp w; rw [f19_20, if_pos (by omega)] at f20_20; omega)]
             exact (zJN_fr hJN (fun c j h => ((p65bbbfr c j (by omega) (by omega) (by omega) (by omega) (by omega) (by omega) (by omega) (by omega) (by omega) (by omega) (by omega) (by omega)).trans ((p60bbbfr c j (by omega)).trans ((p54bbbfr c j (by omega)).trans ((p47bbbfr c j (by omega)).trans ((p41bbbfr c j (by omega)).trans ((p12bbbfr c j (by omega)).trans ((p6bbbfr c j (by omega)).trans ((p3bbbfr c j (by omega)).trans rfl)))))))))))
          | (have ex : oTx O j_ 0 = v41o + v47o := by
               show onm O (oSy O j_).toNat 0 + onm O j_ 0 = _
               omega
             have ey : oTx O j_ 1 = v54o + v60o := by
               show onm O (oSy O j_).toNat 1 + onm O j_ 1 = _
               omega
             have e6 : oSy O j_ = v6o := y3.trans p6hv.symm
             rw [oPi_y (y6.mpr ⟨by omega, by rw [← f19_20]; exact t22_20⟩), ex, ey, ← f37, e6]
             first
             | (rw [oTm_t hfar]
                exact (p65bbhJN2 (zJN_fr hJN (fun c j h => ((p60bbbfr c j (by omega)).trans ((p54bbbfr c j (by omega)).trans ((p47bbbfr c j (by omega)).trans ((p41bbbfr c j (by omega)).trans ((p12bbbfr c j (by omega)).trans ((p6bbbfr c j (by omega)).trans ((p3bbbfr c j (by omega)).trans rfl)))))))))))
             | (rw [oTm_f hfar]
                exact (zJN_fr hJN (fun c j h => ((p65bbbfr c j (by omega) (by omega) (by omega) (by omega) (by omega) (by omega) (by omega) (by omega) (by omega) (by omega) (by omega) (by omega)).trans ((p60bbbfr c j (by omega)).trans ((p54bbbfr c j (by omega)).trans ((p47bbbfr c j (by omega)).trans ((p41bbbfr c j (by omega)).trans ((p12bbbfr c j (by omega)).trans ((p6bbbfr c j (by omega)).trans ((p3bbbfr c j (by omega)).trans rfl))))))))))))
      · refine And.intro (zDX hDq 0 rfl) ⟨_, sn_J_pinF.up (by decide), ?_⟩
        refine ⟨q, d, (v37 : Int), ((v41o + v47o) : Int), ((v54o + v60o) : Int), (v6o : Int), rfl, hDq, (by first | exact (zNJ_fr hNJ (fun c j h => ((p60bbbfr c j (by omega)).trans ((p54bbbfr c j (by omega)).trans ((p47bbbfr c j (by omega)).trans ((p41bbbfr c j (by omega)).trans ((p12bbbfr c j (by omega)).trans ((p6bbbfr c j (by omega)).trans ((p3bbbfr c j (by omega)).trans rfl)))))))) (fun c j h => rfl)) | (clear hQ; grind [xu])), hjg, ⟨by omega, by omega, by rw [show v37 = v19_20 by omega]; exact t22_20⟩, hfar, (by omega), ?_⟩
        intro v65o I65o p65fr
        refine hQ _ _ ?_ ?_ (fun c j h0 h1 => ((p65fr c j (by omega)).trans ((p60bbbfr c j (by omega)).trans ((p54bbbfr c j (by omega)).trans ((p47bbbfr c j (by omega)).trans ((p41bbbfr c j (by omega)).trans ((p12bbbfr c j (by omega)).trans ((p6bbbfr c j (by omega)).trans ((p3bbbfr c j (by omega)).trans rfl))))))))) (fun c j h0 => rfl)
        · first
          | (rw [oPi_n (fun w => by have w2 := y6.mp w; omega)]
             exact (zNJ_fr hNJ (fun c j h => ((p65fr c j (by omega)).trans ((p60bbbfr c j (by omega)).trans ((p54bbbfr c j (by omega)).trans ((p47bbbfr c j (by omega)).trans ((p41bbbfr c j (by omega)).trans ((p12bbbfr c j (by omega)).trans ((p6bbbfr c j (by omega)).trans ((p3bbbfr c j (by omega)).trans rfl))))))))) (fun c j h => rfl)))
          | (rw [oPi_n (fun w => by have w2 := y6.mp w; rw [f19_20, if_pos (by omega)] at f20_20; omega)]
             exact (zNJ_fr hNJ (fun c j h => ((p65fr c j (by omega)).trans ((p60bbbfr c j (by omega)).trans ((p54bbbfr c j (by omega)).trans ((p47bbbfr c j (by omega)).trans ((p41bbbfr c j (by omega)).trans ((p12bbbfr c j (by omega)).trans ((p6bbbfr c j (by omega)).trans ((p3bbbfr c j (by omega)).trans rfl))))))))) (fun c j h => rfl)))
          | (have ex : oTx O j_ 0 = v41o + v47o := by
               show onm O (oSy O j_).toNat 0 + onm O j_ 0 = _
               omega
             have ey : oTx O j_ 1 = v54o + v60o := by
               show onm O (oSy O j_).toNat 1 + onm O j_ 1 = _
               omega
             have e6 : oSy O j_ = v6o := y3.trans p6hv.symm
             rw [oPi_y (y6.mpr ⟨by omega, by rw [← f19_20]; exact t22_20⟩), ex, ey, ← f37, e6]
             first
             | (rw [oTm_t hfar]
                exact p65hNJ2)
             | (rw [oTm_f hfar]
                exact (zNJ_fr hNJ (fun c j h => ((p65fr c j (by omega)).trans ((p60bbbfr c j (by omega)).trans ((p54bbbfr c j (by omega)).trans ((p47bbbfr c j (by omega)).trans ((p41bbbfr c j (by omega)).trans ((p12bbbfr c j (by omega)).trans ((p6bbbfr c j (by omega)).trans ((p3bbbfr c j (by omega)).trans rfl))))))))) (fun c j h => rfl))))
        · first
          | (rw [oPi_n (fun w => by have w2 := y6.mp w; omega)]
             exact (zJN_fr hJN (fun c j h => ((p65fr c j (by omega)).trans ((p60bbbfr c j (by omega)).trans ((p54bbbfr c j (by omega)).trans ((p47bbbfr c j (by omega)).trans ((p41bbbfr c j (by omega)).trans ((p12bbbfr c j (by omega)).trans ((p6bbbfr c j (by omega)).trans ((p3bbbfr c j (by omega)).trans rfl)))))))))))
          | (rw [oPi_n (fun w => by have w2 := y6.mp w; rw [f19_20, if_pos (by omega)] at f20_20; omega)]
             exact (zJN_fr hJN (fun c j h => ((p65fr c j (by omega)).trans ((p60bbbfr c j (by omega)).trans ((p54bbbfr c j (by omega)).trans ((p47bbbfr c j (by omega)).trans ((p41bbbfr c j (by omega)).trans ((p12bbbfr c j (by omega)).trans ((p6bbbfr c j (by omega)).trans ((p3bbbfr c j (by omega)).trans rfl)))))))))))
          | (have ex : oTx O j_ 0 = v41o + v47o := by
               show onm O (oSy O j_).toNat 0 + onm O j_ 0 = _
               omega
             have ey : oTx O j_ 1 = v54o + v60o := by
               show onm O (oSy O j_).toNat 1 + onm O j_ 1 = _
               omega
             have e6 : oSy O j_ = v6o := y3.trans p6hv.symm
             rw [oPi_y (y6.mpr ⟨by omega, by rw [← f19_20]; exact t22_20⟩), ex, ey, ← f37, e6]
             first
             | (rw [oTm_t hfar]
                exact (p65bbhJN2 (zJN_fr hJN (fun c j h => ((p60bbbfr c j (by omega)).trans ((p54bbbfr c j (by omega)).trans ((p47bbbfr c j (by omega)).trans ((p41bbbfr c j (by omega)).trans ((p12bbbfr c j (by omega)).trans ((p6bbbfr c j (by omega)).trans ((p3bbbfr c j (by omega)).trans rfl)))))))))))
             | (rw [oTm_f hfar]
                exact (zJN_fr hJN (fun c j h => ((p65fr c j (by omega)).trans ((p60bbbfr c j (by omega)).trans ((p54bbbfr c j (by omega)).trans ((p47bbbfr c j (by omega)).trans ((p41bbbfr c j (by omega)).trans ((p12bbbfr c j (by omega)).trans ((p6bbbfr c j (by omega)).trans ((p3bbbfr c j (by omega)).trans rfl)))))))))))))
