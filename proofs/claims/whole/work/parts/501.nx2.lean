/-! nx2 -/
def T_V_ver : ZT := fun args I L R S Q => ∃ (k : Nat) (c : Nat → Int) (n : Nat) (p : Int) (p_ : Nat) (b : Int) (b_ : Nat), args = [zvr k, zvi p, zvi b] ∧ (zDy zT20 zF20 k R S) ∧ (zRM k c n I) ∧ (tOk c n) ∧ (p = p_ ∧ p_ ≤ n) ∧ (b = b_ ∧ b_ ≤ 1) ∧ (I k 18 = -1) ∧ ∀ (v : Int) (I' : ZI) (L' : ZI), ((¬ tGk c p_ b_ ∧ I' k 18 = p_) ∨ (tGk c p_ b_ ∧ I' k 18 = (tNf c n (tGe c n p_ b_) 0 1 3) ∧ ((tNf c n (tGe c n p_ b_) 0 1 3) = -1 → v = tNe c n (tGe c n p_ b_) 0 ∧ I' k 16 = tNv c n (tGe c n p_ b_) 0 ∧ 1 ≤ tNv c n (tGe c n p_ b_) 0 ∧ tNv c n (tGe c n p_ b_) 0 ≤ 3))) → (∀ c j : Nat, ¬ (c = k ∧ j = 18) → ¬ (c = k ∧ j = 16) → I' c j = I c j) → (∀ c j : Nat, ¬ (c = k ∧ j = 28) → L' c j = L c j) → Q (some (zvi (v))) I' L' R S
theorem sn_V_ver : ZSnd 4 20 40 T_V_ver := ZSnd.of (zT20_40 3) (by
  rintro args I L R S Q hz ⟨k, c, n, p, p_, b, b_, rfl, hD, hX, hc, hp, hb, hf0, hQ⟩
  obtain ⟨x1, x2⟩ := id hX
  have hn4 := hc.1
  have hk40 := hD.1
  refine And.intro rfl ?_
  refine And.intro (zDX hD 0 rfl) ⟨_, sn_V_spc.up (by decide), ?_⟩
  refine ⟨k, c, n, (p : Int), p_, (b : Int), b_, rfl, hD, (by first | exact (zRM_fr hX (fun c j h => rfl)) | (clear hQ; grind [xu])), (by first | exact hc | (clear hQ; grind [xu])), (by omega), (by omega), (Eq.trans (b := ((-1) : Int)) hf0 (by omega)), ?_⟩
  intro v3o I3o p3hg p3bhv p3bbfr
  rcases p3hg with w8 | w8
  · refine And.intro (zDX hD 0 rfl) (zrd (v := (-1)) w8.2.1 ?_)
    refine And.intro ⟨(zRb rfl), (zRb rfl)⟩ (zbt rfl ?_)
    refine And.intro (zDX hD 0 rfl) ⟨_, sn_V_num9.up (by decide), ?_⟩
    refine ⟨k, c, n, (v3o : Int), (tGe c n p_ b_), (0 : Int), 0, (1 : Int), (3 : Int), rfl, hD, (by first | exact (zRM_fr hX (fun c j h => ((p3bbfr c j (by omega)).trans rfl))) | (clear hQ; grind [xu])), (by first | exact hc | (clear hQ; grind [xu])), ⟨w8.2.2, by have z := tGe_le hc w8.1; omega⟩, (by omega), (by clear hQ; grind [xu]), (Eq.trans (b := ((-1) : Int)) w8.2.1 (by omega)), ?_⟩
    intro v24o I24o L24o p24hf p24bhok p24bbfr p24bbbfrL
    refine And.intro (zDX hD 0 rfl) (fun v31 e31 r31 => ?_)
    refine ⟨_, zWt _, ?_⟩
    refine And.intro (zDX hD 0 rfl) ⟨_, (zWi (zn_r _)), ?_⟩
    refine hQ _ _ _ ?_ (fun c j h0 h1 => (zxcj h1 ((p24bbfr c j (by omega)).trans ((p3bbfr c j (by omega)).trans rfl)))) (fun c j h0 => ((p24bbbfrL c j (by omega)).trans rfl))
    · first
      | exact Or.inl ⟨w8.1, w8.2⟩
      | (refine Or.inr ⟨w8.1, (zxs (by omega) rfl).trans p24hf, fun h9 => ?_⟩
         have y := p24bhok h9
         have y2 := tNf_r h9
         have y3 := y.2
         refine ⟨y.1, zxe.trans ?_, y2⟩
         first
         | exact (zn_id (by unfold r32; omega)).trans (by omega)
         | (rw [zn_id (by unfold r32; omega)]; omega))
  · refine And.intro (zDX hD 0 rfl) (zrd (v := p_) w8.2 ?_)
    refine And.intro ⟨(by omega), (zRb rfl)⟩ ⟨(fun h12 => False.elim (by omega)), fun h12 => ?_⟩
    refine hQ _ _ _ ?_ (fun c j h0 h1 => ((p3bbfr c j (by omega)).trans rfl)) (fun c j h0 => rfl)
    · first
      | exact Or.inl ⟨w8.1, w8.2⟩
      | (refine Or.inr ⟨w8.1, (zxs (by omega) rfl).trans p24hf, fun h9 => ?_⟩
         have y := p24bhok h9
         have y2 := tNf_r h9
         have y3 := y.2
         refine ⟨y.1, zxe.trans ?_, y2⟩
         first
         | exact (zn_id (by unfold r32; omega)).trans (by omega)
         | (rw [zn_id (by unfold r32; omega)]; omega)))
