/-! xb -/
def T_V_pie : ZT := fun args I L R S Q => ∃ (k : Nat) (w : List CuR) (a : Int) (i : Nat), args = [zvr k, zvi a] ∧ (zSh S) ∧ (zRs R) ∧ (zDy zT14 zF14 k R S) ∧ (zCk k w I L) ∧ (cuG w) ∧ (a = i ∧ i < w.length) ∧ ∀ (v : Int), (v = 1) → Q (some (zvi (v))) I L R S
theorem sn_V_pie : ZSnd 1 14 25 T_V_pie := ZSnd.of (zT14_25 0) (by
  rintro args I L R S Q hz ⟨k, w, a, i, rfl, hS, hR, hd, hCk, hG, hi, hQ⟩
  have hk5 := hd.1
  obtain ⟨hc0, hcl, hck⟩ := id hCk
  refine And.intro rfl ?_
  refine And.intro (zDX hd 0 rfl) (zrdR (v := some (k + 5)) (zDR hd 4 rfl) ?_)
  refine And.intro (zDP hd 5 rfl rfl (by omega) (by omega)) (fun v5 e5 r5 => ?_)
  have f5 : v5 = cuCn (cg w i 0) := (e5.trans ((congrArg (I (k + 5)) (show _ = i by omega)).trans (hck i (by omega)).1.2.2.2.2))
  have f5b : (cg w i 0 = 0 ∧ v5 = 2) ∨ (cg w i 0 ≠ 0 ∧ v5 = 1) := (by have z := cuCn_c (cg w i 0); rcases z with z | z; exact Or.inl ⟨z.1, by omega⟩; exact Or.inr ⟨z.1, by omega⟩)
  have f5bb : 1 ≤ v5 ∧ v5 ≤ 2 := (by omega)
  refine And.intro ⟨r5, (zRb rfl)⟩ ⟨fun h7 => ?_, fun h7 => ?_⟩
  · refine And.intro (zDX hd 0 rfl) (zrdR (v := some (k + 5)) (zDR hd 4 rfl) ?_)
    refine And.intro (zDP hd 5 rfl rfl (by omega) (by omega)) (fun v19 e19 r19 => ?_)
    have f19 : v19 = cuCn (cg w i 0) := (e19.trans ((congrArg (I (k + 5)) (show _ = i by omega)).trans (hck i (by omega)).1.2.2.2.2))
    have f19b : (cg w i 0 = 0 ∧ v19 = 2) ∨ (cg w i 0 ≠ 0 ∧ v19 = 1) := (by have z := cuCn_c (cg w i 0); rcases z with z | z; exact Or.inl ⟨z.1, by omega⟩; exact Or.inr ⟨z.1, by omega⟩)
    have f19bb : 1 ≤ v19 ∧ v19 ≤ 2 := (by omega)
    refine hQ _ (by omega)
  · refine hQ _ (by omega))
def T_V_edo : ZT := fun args I L R S Q => ∃ (k : Nat) (w : List CuR) (a : Int) (i : Nat) (b : Int), args = [zvr k, zvi a, zvi b] ∧ (zSh S) ∧ (zRs R) ∧ (zDy zT14 zF14 k R S) ∧ (zCk k w I L) ∧ (cuG w) ∧ (a = i ∧ i < w.length) ∧ (b = 0) ∧ ∀ (v : Int), (cuEx w i v) → (8 * (i : Int) ≤ v ∧ v ≤ 8 * i + 1) → Q (some (zvi (v))) I L R S
theorem sn_V_edo : ZSnd 1 14 5 T_V_edo := ZSnd.of (zT14_5 0) (by
  rintro args I L R S Q hz ⟨k, w, a, i, b, rfl, hS, hR, hd, hCk, hG, hi, hb0, hQ⟩
  have hk5 := hd.1
  obtain ⟨hc0, hcl, hck⟩ := id hCk
  refine And.intro rfl ?_
  refine And.intro (zDX hd 0 rfl) (zrdR (v := some (k + 5)) (zDR hd 4 rfl) ?_)
  refine And.intro (zDP hd 5 rfl rfl (by omega) (by omega)) (fun v5 e5 r5 => ?_)
  have f5 : v5 = cuCn (cg w i 0) := (e5.trans ((congrArg (I (k + 5)) (show _ = i by omega)).trans (hck i (by omega)).1.2.2.2.2))
  have f5b : (cg w i 0 = 0 ∧ v5 = 2) ∨ (cg w i 0 ≠ 0 ∧ v5 = 1) := (by have z := cuCn_c (cg w i 0); rcases z with z | z; exact Or.inl ⟨z.1, by omega⟩; exact Or.inr ⟨z.1, by omega⟩)
  have f5bb : 1 ≤ v5 ∧ v5 ≤ 2 := (by omega)
  refine And.intro ⟨r5, (zRb rfl)⟩ ⟨fun h7 => ?_, fun h7 => ?_⟩
  · refine hQ _ (by unfold cuEx; omega) (by omega)
  · refine hQ _ (by unfold cuEx; omega) (by omega))
def T_V_pfl : ZT := fun args I L R S Q => ∃ (k : Nat) (w : List CuR) (p : Int) (q : Int) (a : Int) (i : Nat) (t : Int), args = [zvr k, zvl p, zvl q, zvi a, zvl t] ∧ (zSh S) ∧ (zRs R) ∧ (zDy zT14 zF14 k R S) ∧ (zCk k w I L) ∧ (cuG w) ∧ (a = i ∧ i < w.length) ∧ ((0 ≤ p ∧ p ≤ 15000) ∧ 0 ≤ q ∧ q ≤ 15000) ∧ (0 ≤ t ∧ t ≤ 100600) ∧ ∀ (v : Int), (zc3 v (cuPG w i p q) (t * t)) → (-1 ≤ v ∧ v ≤ 1) → Q (some (zvi (v))) I L R S
theorem sn_V_pfl : ZSnd 4 14 26 T_V_pfl := ZSnd.loops (zT14_26 3) (by
  rintro args I L R S Q hz ⟨k, w, p, q, a, i, t, rfl, hS, hR, hd, hCk, hG, hi, hpq, ht, hQ⟩
  have hk5 := hd.1
  obtain ⟨hc0, hcl, hck⟩ := id hCk
  refine ⟨[6], fun nM tM lsM stM I1 L1 R1 S1 => match tM with
      | 6 => ∃ (u : Int) (m : Nat), nM = ((2 - m), 0, 0) ∧ lsM = [some (zvr (k)), some (zvl (p)), none, some (zvl (q)), none, some (zvi (a)), some (zvl (t)), none, some (zvi (u)), some (zvi (m)), none, none, none] ∧ stM = [] ∧ I1 = I ∧ L1 = L ∧ R1 = R ∧ S1 = S ∧ (m ≤ 1) ∧ (-1 ≤ u ∧ u ≤ 1) ∧ (m = 0 → u = 1) ∧ (m = 1 → zc3 u (cuPG w i p q) (t * t))
      | _ => False, rfl, ?_, ⟨?_, True.intro⟩⟩
  · refine ⟨((2 - (0 : Nat)), 0, 0), [some (zvr (k)), some (zvl (p)), none, some (zvl (q)), none, some (zvi (a)), some (zvl (t)), none, some (zvi ((1 : Int))), some (zvi ((0 : Nat))), none, none, none], ⟨rfl, rfl, rfl, rfl, rfl, rfl, rfl, rfl⟩, 1, 0, rfl, rfl, rfl, rfl, rfl, rfl, rfl, (by omega), (by omega), (fun _ => rfl), (fun h => absurd h (by decide))⟩
  · rintro nM lsM stM I1 L1 R1 S1 hz1 ⟨u, m, rfl, rfl, rfl, rfl, rfl, rfl, rfl, hm, hu, hu0, hu1⟩
    refine And.intro (zDX hd 0 rfl) ⟨_, sn_V_pie.up (by decide), ?_⟩
    refine ⟨_, w, (a : Int), i, rfl, hS, hR, hd, (by first | exact (zCk_fr hCk (fun c j h => rfl) (fun c j h => rfl)) | (clear hQ; grind [xu])), (by first | exact hG | (clear hQ; grind [xu])), (by omega), ?_⟩
    intro v11o p11hv
    refine And.intro ⟨(by omega), (by omega)⟩ ⟨fun h14 => ?_, fun h14 => ?_⟩
    · refine hQ _ (hu1 (by omega)) hu
    · refine And.intro (zDX hd 0 rfl) ⟨_, sn_V_edo.up (by decide), ?_⟩
      refine ⟨_, w, (a : Int), i, (m : Int), rfl, hS, hR, hd, (by first | exact (zCk_fr hCk (fun c j h => rfl) (fun c j h => rfl)) | (clear hQ; grind [xu])), (by first | exact hG | (clear hQ; grind [xu])), (by omega), (by omega), ?_⟩
      intro v32o p32hv p32bhv2
      refine And.intro (zDX hd 0 rfl) (zrdR (v := some (k + 6)) (zDR hd 5 rfl) ?_)
      refine And.intro (zDP hd 6 rfl rfl (by omega) (by omega)) (fun v45 e45 r45 => ?_)
      have f45 : v45 = cuE w i 1 0 := (e45.trans ((congrArg (L1 (k + 6)) (show _ = 8 * i + 0 by omega)).trans (zCi_c (hck i (by omega)) (by have z := cuCn_c (cg w i 0); omega)).1))
      have f45b : 0 ≤ v45 ∧ v45 ≤ 15000 := (by have z := cuE_b (ax := 1) (e := 0) hG (show i < w.length by omega); omega)
      refine And.intro (zDX hd 0 rfl) (zrdR (v := some (k + 7)) (zDR hd 6 rfl) ?_)
      refine And.intro (zDP hd 7 rfl rfl (by omega) (by omega)) (fun v52 e52 r52 => ?_)
      have f52 : v52 = cuE w i 0 0 := (e52.trans ((congrArg (L1 (k + 7)) (show _ = 8 * i + 0 by omega)).trans (zCi_c (hck i (by omega)) (by have z := cuCn_c (cg w i 0); omega)).2))
      have f52b : 0 ≤ v52 ∧ v52 ≤ 15000 := (by have z := cuE_b (ax := 0) (e := 0) hG (show i < w.length by omega); omega)
      refine And.intro (zDX hd 0 rfl) (zrdR (v := some (k + 6)) (zDR hd 5 rfl) ?_)
      refine And.intro (zDP hd 6 rfl rfl (by omega) (by omega)) (fun v59 e59 r59 => ?_)
      have f59 : v59 = cuE w i 1 1 := (e59.trans (zCi_e hG (show i < w.length by omega) (hck i (by omega)) p32hv).1)
      have f59b : 0 ≤ v59 ∧ v59 ≤ 15000 := (by have z := cuE_b (ax := 1) (e := 1) hG (show i < w.length by omega); omega)
      refine And.intro (zDX hd 0 rfl) (zrdR (v := some (k + 7)) (zDR hd 6 rfl) ?_)
      refine And.intro (zDP hd 7 rfl rfl (by omega) (by omega)) (fun v66 e66 r66 => ?_)
      have f66 : v66 = cuE w i 0 1 := (e66.trans (zCi_e hG (show i < w.length by omega) (hck i (by omega)) p32hv).2)
      have f66b : 0 ≤ v66 ∧ v66 ≤ 15000 := (by have z := cuE_b (ax := 0) (e := 1) hG (show i < w.length by omega); omega)
      refine ⟨_, sn_V_frp.up (by decide), ?_⟩
      refine ⟨(p : Int), (q : Int), (v45 : Int), (v52 : Int), (v59 : Int), (v66 : Int), (t : Int), rfl, (by omega), by
have z := cuE_ax hG hi.2
have y1 : v59 = cuE w i 1 1 := by omega
have y2 : v66 = cuE w i 0 1 := by omega
rw [show v45 = cuE w i 1 0 by omega, show v52 = cuE w i 0 0 by omega, y1, y2]
exact z, (by omega), ?_⟩
      intro v69o p69hv
      have g69 : -1 ≤ v69o ∧ v69o ≤ 1 := (by have z : zc3 _ _ _ := p69hv; unfold zc3 at z; omega)
      refine And.intro ⟨(by omega), (by omega)⟩ ⟨fun h78 => ?_, fun h78 => ?_⟩
      · refine ⟨((2 - (m + 1)), 0, 0), zlt6 (by omega), [some (zvr (k)), some (zvl (p)), none, some (zvl (q)), none, some (zvi (a)), some (zvl (t)), none, some (zvi (u)), some (zvi ((m + 1))), none, none, none], ⟨rfl, rfl, rfl, rfl, rfl, rfl, rfl, rfl⟩, u, (m + 1), rfl, rfl, rfl, rfl, rfl, rfl, rfl, (by omega), (by omega), (fun h => by omega), ?_⟩
        · intro _
          have x0 : m = 0 := by omega
          have y0 := hu0 x0
          have z : zc3 v69o _ _ := p69hv
          first
          | (have e : v69o = u := by unfold zc3 at z; omega
             rw [← e]
             refine zc3_e z ?_ rfl
             unfold cuPG
             congr 1 <;> omega)
          | (refine zc3_e z ?_ rfl
             unfold cuPG
             congr 1 <;> omega)
      · refine ⟨((2 - (m + 1)), 0, 0), zlt6 (by omega), [some (zvr (k)), some (zvl (p)), none, some (zvl (q)), none, some (zvi (a)), some (zvl (t)), none, some (zvi (v69o)), some (zvi ((m + 1))), none, none, none], ⟨rfl, rfl, rfl, rfl, rfl, rfl, rfl, rfl⟩, v69o, (m + 1), rfl, rfl, rfl, rfl, rfl, rfl, rfl, (by omega), (by omega), (fun h => by omega), ?_⟩
        · intro _
          have x0 : m = 0 := by omega
          have y0 := hu0 x0
          have z : zc3 v69o _ _ := p69hv
          first
          | (have e : v69o = u := by unfold zc3 at z; omega
             rw [← e]
             refine zc3_e z ?_ rfl
             unfold cuPG
             congr 1 <;> omega)
          | (refine zc3_e z ?_ rfl
             unfold cuPG
             congr 1 <;> omega))
