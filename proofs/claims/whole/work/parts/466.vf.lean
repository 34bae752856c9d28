/-! vf -/
def T_J_toldE : ZT := fun args I L R S Q => ∃ (k : Nat) (d : JdS) (y : Int), args = [zvr k, zvi y] ∧ (zDy zT18 zF18 k R S) ∧ (zNJ k d I L) ∧ (jGd d) ∧ (dns d = 0) ∧ (I k 29 = 0) ∧ (r32 y) ∧ ∀ (v : Int) (I' : ZI), (v = -1) → (∀ c j : Nat, ¬ (c = k ∧ j = 0) → I' c j = I c j) → Q (some (zvi (v))) I' L R S
theorem sn_J_toldE : ZSnd 4 18 34 T_J_toldE := ZSnd.of (zT18_34 3) (by
  rintro args I L R S Q hz ⟨k, d, y, rfl, hd, hNJ, hJG, h9, h29, hr, hQ⟩
  have h5 := hd.1
  obtain ⟨⟨n1, n2, n3, n4, n5, n6, n7⟩, nS, nW, nD, nJ, nL, nT, nO, nP, nR⟩ := id hNJ
  obtain ⟨⟨g1, g2, g3, g4, g5, g6⟩, gs, gw, gj, gl, gp, gt⟩ := id hJG
  have z1 : dnl d = 0 := by rcases Nat.eq_zero_or_pos (dnl d) with e | e; exact e; (have w := (gl 0 e).1; omega)
  have z2 : dnt d = 0 := by rcases Nat.eq_zero_or_pos (dnt d) with e | e; exact e; (have w := (gt 0 e).1; omega)
  refine And.intro rfl ?_
  refine And.intro (zDX hd 0 rfl) ⟨_, (zWi (zRb rfl)), ?_⟩
  refine And.intro (by omega) ⟨fun h6 => ?_, fun h6 => ?_⟩
  · refine And.intro (zDX hd 0 rfl) (zrd (v := 0) (zxs (by decide) h29) ?_)
    refine And.intro ⟨(zRb rfl), (zRb rfl)⟩ (zbt rfl ?_)
    refine And.intro (zDX hd 0 rfl) (zrd (v := (dnl d)) (zxs (by decide) n4) ?_)
    refine And.intro ⟨(zRb rfl), (by omega)⟩ ⟨fun h101 => ?_, (fun h101 => False.elim (by omega))⟩
    refine And.intro (zDX hd 0 rfl) (zrd (v := (dnt d)) (zxs (by decide) n5) ?_)
    refine And.intro ⟨(zRb rfl), (by omega)⟩ ⟨fun h140 => ?_, (fun h140 => False.elim (by omega))⟩
    refine hQ _ _ (by omega) (fun c j h0 => (zxcj h0 rfl))
  · refine hQ _ _ (by omega) (fun c j h0 => (zxcj h0 rfl)))
def T_J_netOfE : ZT := fun args I L R S Q => ∃ (k : Nat) (d : JdS) (x : Int) (y : Int), args = [zvr k, zvi x, zvi y] ∧ (zDy zT18 zF18 k R S) ∧ (zNJ k d I L) ∧ (jGd d) ∧ (dns d = 0) ∧ (I k 29 = 0) ∧ (r32 x ∧ r32 y) ∧ ∀ (v : Int) (I' : ZI), (I' k 0 = 1) → (∀ c j : Nat, ¬ (c = k ∧ j = 0) → I' c j = I c j) → Q (some (zvi (v))) I' L R S
theorem sn_J_netOfE : ZSnd 2 18 26 T_J_netOfE := ZSnd.of (zT18_26 1) (by
  rintro args I L R S Q hz ⟨k, d, x, y, rfl, hd, hNJ, hJG, h9, h29, hr, hQ⟩
  have h5 := hd.1
  obtain ⟨⟨n1, n2, n3, n4, n5, n6, n7⟩, nS, nW, nD, nJ, nL, nT, nO, nP, nR⟩ := id hNJ
  obtain ⟨⟨g1, g2, g3, g4, g5, g6⟩, gs, gw, gj, gl, gp, gt⟩ := id hJG
  have z1 : dnl d = 0 := by rcases Nat.eq_zero_or_pos (dnl d) with e | e; exact e; (have w := (gl 0 e).1; omega)
  have z2 : dnt d = 0 := by rcases Nat.eq_zero_or_pos (dnt d) with e | e; exact e; (have w := (gt 0 e).1; omega)
  refine And.intro rfl ?_
  refine And.intro (by omega) ⟨fun h1 => ?_, fun h1 => ?_⟩
  · refine And.intro ⟨(zRb rfl), (zRb rfl)⟩ (zbf rfl ?_)
    refine And.intro (zDX hd 0 rfl) ⟨_, (zWi (zRb rfl)), ?_⟩
    refine And.intro (zDX hd 0 rfl) (zrd (v := 1) zxe ?_)
    refine And.intro (zRb rfl) (zbt rfl ?_)
    refine hQ _ _ zxe (fun c j h0 => (zxcj h0 rfl))
  · refine And.intro (zDX hd 0 rfl) (zrd (v := (dnt d)) n5 ?_)
    refine And.intro ⟨(by omega), (by omega)⟩ ⟨(fun h9 => False.elim (by omega)), fun h9 => ?_⟩
    refine And.intro ⟨(zRb rfl), (zRb rfl)⟩ (zbf rfl ?_)
    refine And.intro (zDX hd 0 rfl) ⟨_, (zWi (zRb rfl)), ?_⟩
    refine And.intro (zDX hd 0 rfl) (zrd (v := 1) zxe ?_)
    refine And.intro (zRb rfl) (zbt rfl ?_)
    refine hQ _ _ zxe (fun c j h0 => (zxcj h0 rfl)))
def T_J_nameE : ZT := fun args I L R S Q => ∃ (k : Nat) (d : JdS) (n : Int), args = [zvr k, zvi n] ∧ (zDy zT18 zF18 k R S) ∧ (zNJ k d I L) ∧ (jGd d) ∧ (dns d = 0) ∧ (I k 29 = 0) ∧ (r32 n) ∧ ∀ (v : Int) (I' : ZI), (I' k 0 = 1) → (∀ c j : Nat, ¬ (c = k ∧ j = 0) → I' c j = I c j) → Q (some (zvi (v))) I' L R S
theorem sn_J_nameE : ZSnd 4 18 23 T_J_nameE := ZSnd.of (zT18_23 3) (by
  rintro args I L R S Q hz ⟨k, d, n, rfl, hd, hNJ, hJG, h9, h29, hr, hQ⟩
  have h5 := hd.1
  obtain ⟨⟨n1, n2, n3, n4, n5, n6, n7⟩, nS, nW, nD, nJ, nL, nT, nO, nP, nR⟩ := id hNJ
  obtain ⟨⟨g1, g2, g3, g4, g5, g6⟩, gs, gw, gj, gl, gp, gt⟩ := id hJG
  have z1 : dnl d = 0 := by rcases Nat.eq_zero_or_pos (dnl d) with e | e; exact e; (have w := (gl 0 e).1; omega)
  have z2 : dnt d = 0 := by rcases Nat.eq_zero_or_pos (dnt d) with e | e; exact e; (have w := (gt 0 e).1; omega)
  refine And.intro rfl ?_
  refine And.intro (by omega) ⟨fun h2 => ?_, fun h2 => ?_⟩
  · refine And.intro (zDX hd 0 rfl) ⟨_, (zWi (zRb rfl)), ?_⟩
    refine And.intro (zDX hd 0 rfl) (zrd (v := 1) zxe ?_)
    refine And.intro (zRb rfl) (zbt rfl ?_)
    refine hQ _ _ zxe (fun c j h0 => (zxcj h0 rfl))
  · refine And.intro (zDX hd 0 rfl) (zrd (v := 0) h29 ?_)
    refine And.intro ⟨(by omega), (zRb rfl)⟩ ⟨fun h10 => ?_, (fun h10 => False.elim (by omega))⟩
    refine And.intro (zDX hd 0 rfl) ⟨_, (zWi (zRb rfl)), ?_⟩
    refine And.intro (zDX hd 0 rfl) (zrd (v := 1) zxe ?_)
    refine And.intro (zRb rfl) (zbt rfl ?_)
    refine hQ _ _ zxe (fun c j h0 => (zxcj h0 rfl)))
