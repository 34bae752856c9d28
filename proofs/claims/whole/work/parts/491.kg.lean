/-! kg -/
def T_K_gap : ZT := fun args I L R S Q => ∃ (c : Nat → Int) (n : Nat) (p : Nat) (b : Nat), args = [zvr 61] ∧ (zSh S) ∧ (zRs R) ∧ (R 61 0 = some 42) ∧ (zRD c n I) ∧ (tOk c n) ∧ (I 61 2 = p) ∧ (p ≤ 5000) ∧ (I 61 6 = b) ∧ (b ≤ 1) ∧ (I 61 3 = -1) ∧ ∀ (I' : ZI), ((tGk c p b ∧ I' 61 3 = -1 ∧ I' 61 2 = tGe c n p b) ∨ (¬ tGk c p b ∧ I' 61 3 = p)) → (∀ c j : Nat, ¬ (c = 61 ∧ j = 2) → ¬ (c = 61 ∧ j = 3) → I' c j = I c j) → Q none I' L R S
theorem sn_K_gap : ZSnd 2 9 15 T_K_gap := ZSnd.of (zT9_15 1) (by
  rintro args I L R S Q hz ⟨c, n, p, b, rfl, hS, hR, htx, hX, hc, hp, hp9, hnb, hb, hf0, hQ⟩
  obtain ⟨x1, x2⟩ := id hX
  have hn4 := hc.1
  refine And.intro rfl ?_
  refine And.intro (zA_61 hS) ⟨_, sn_K_peek.up (by decide), ?_⟩
  refine ⟨c, n, p, rfl, hS, hR, htx, (by first | exact (zRD_fr hX (fun c j h => rfl)) | (clear hQ; grind [xu])), (by first | exact hc | (clear hQ; grind [xu])), hp, (by omega), ?_⟩
  intro v1o p1hv p1bhv2
  refine And.intro ⟨(by omega), (zRb rfl)⟩ ⟨fun h6 => ?_, fun h6 => ?_⟩
  · refine And.intro (zA_61 hS) (zrd (v := p) hp ?_)
    refine And.intro (zA_61 hS) ⟨_, (zWi (by omega)), ?_⟩
    refine And.intro (zA_61 hS) (zrd (v := b) hnb ?_)
    refine And.intro (by omega) ⟨fun h48 => ?_, fun h48 => ?_⟩
    · refine hQ _ ?_ (fun c j h0 h1 => (zxcj h0 rfl))
      · first
        | exact Or.inr ⟨fun w => by unfold tGk at w; omega, zxe.trans (by omega)⟩
        | exact Or.inl ⟨by unfold tGk; omega, (zxcj (by omega) rfl).trans hf0, by rw [tGe_1 (by omega)]; exact p52hpl⟩
        | exact Or.inl ⟨by unfold tGk; omega, (zxcj (by omega) rfl).trans hf0, by rw [tGe_0 (by omega)]; exact zxe.trans (by omega)⟩
    · refine And.intro (zA_61 hS) ⟨_, sn_K_skB.up (by decide), ?_⟩
      refine ⟨c, n, (p + 1), rfl, hS, hR, htx, (by first | exact (zRD_fr hX (fun c j h => (zxcj (by omega) rfl))) | (clear hQ; grind [xu])), (by first | exact hc | (clear hQ; grind [xu])), rfl, (by omega), ?_⟩
      intro I52o p52hpl p52bfr
      refine hQ _ ?_ (fun c j h0 h1 => ((p52bfr c j (by omega)).trans (zxcj h0 rfl)))
      · first
        | exact Or.inr ⟨fun w => by unfold tGk at w; omega, zxe.trans (by omega)⟩
        | exact Or.inl ⟨by unfold tGk; omega, ((p52bfr 61 _ (by omega)).trans (zxcj (by omega) rfl)).trans hf0, by rw [tGe_1 (by omega)]; exact p52hpl⟩
        | exact Or.inl ⟨by unfold tGk; omega, ((p52bfr 61 _ (by omega)).trans (zxcj (by omega) rfl)).trans hf0, by rw [tGe_0 (by omega)]; exact zxe.trans (by omega)⟩
  · refine And.intro (zA_61 hS) (zrd (v := b) hnb ?_)
    refine And.intro (by omega) ⟨fun h13 => ?_, fun h13 => ?_⟩
    · refine And.intro (zA_61 hS) (zrd (v := p) hp ?_)
      refine And.intro (zA_61 hS) (Exists.intro _ (And.intro (zinl_ok (zT9_2 0)) (And.intro rfl ?_)))
      refine And.intro (zA_61 hS) (zrd (v := (-1)) hf0 ?_)
      refine And.intro ⟨(zRb rfl), (zRb rfl)⟩ (zbf rfl ?_)
      refine And.intro (zA_61 hS) ⟨_, (zWi (by omega)), ?_⟩
      refine hQ _ ?_ (fun c j h0 h1 => (zxcj h1 rfl))
      · first
        | exact Or.inr ⟨fun w => by unfold tGk at w; omega, zxe.trans (by omega)⟩
        | exact Or.inl ⟨by unfold tGk; omega, (zxcj (by omega) rfl).trans hf0, by rw [tGe_1 (by omega)]; exact p52hpl⟩
        | exact Or.inl ⟨by unfold tGk; omega, (zxcj (by omega) rfl).trans hf0, by rw [tGe_0 (by omega)]; exact zxe.trans (by omega)⟩
    · refine And.intro (zA_61 hS) ⟨_, sn_K_peek.up (by decide), ?_⟩
      refine ⟨c, n, p, rfl, hS, hR, htx, (by first | exact (zRD_fr hX (fun c j h => rfl)) | (clear hQ; grind [xu])), (by first | exact hc | (clear hQ; grind [xu])), hp, (by omega), ?_⟩
      intro v17o p17hv p17bhv2
      refine And.intro ⟨(by omega), (zRb rfl)⟩ ⟨fun h22 => ?_, fun h22 => ?_⟩
      · refine And.intro (zA_61 hS) (zrd (v := p) hp ?_)
        refine And.intro (zA_61 hS) ⟨_, (zWi (by omega)), ?_⟩
        refine And.intro (zA_61 hS) (zrd (v := b) hnb ?_)
        refine And.intro (by omega) ⟨(fun h48 => False.elim (by omega)), fun h48 => ?_⟩
        refine And.intro (zA_61 hS) ⟨_, sn_K_skB.up (by decide), ?_⟩
        refine ⟨c, n, (p + 1), rfl, hS, hR, htx, (by first | exact (zRD_fr hX (fun c j h => (zxcj (by omega) rfl))) | (clear hQ; grind [xu])), (by first | exact hc | (clear hQ; grind [xu])), rfl, (by omega), ?_⟩
        intro I52o p52hpl p52bfr
        refine hQ _ ?_ (fun c j h0 h1 => ((p52bfr c j (by omega)).trans (zxcj h0 rfl)))
        · first
          | exact Or.inr ⟨fun w => by unfold tGk at w; omega, zxe.trans (by omega)⟩
          | exact Or.inl ⟨by unfold tGk; omega, ((p52bfr 61 _ (by omega)).trans (zxcj (by omega) rfl)).trans hf0, by rw [tGe_1 (by omega)]; exact p52hpl⟩
          | exact Or.inl ⟨by unfold tGk; omega, ((p52bfr 61 _ (by omega)).trans (zxcj (by omega) rfl)).trans hf0, by rw [tGe_0 (by omega)]; exact zxe.trans (by omega)⟩
      · refine And.intro (zA_61 hS) (zrd (v := p) hp ?_)
        refine And.intro (zA_61 hS) (Exists.intro _ (And.intro (zinl_ok (zT9_2 0)) (And.intro rfl ?_)))
        refine And.intro (zA_61 hS) (zrd (v := (-1)) hf0 ?_)
        refine And.intro ⟨(zRb rfl), (zRb rfl)⟩ (zbf rfl ?_)
        refine And.intro (zA_61 hS) ⟨_, (zWi (by omega)), ?_⟩
        refine hQ _ ?_ (fun c j h0 h1 => (zxcj h1 rfl))
        · first
          | exact Or.inr ⟨fun w => by unfold tGk at w; omega, zxe.trans (by omega)⟩
          | exact Or.inl ⟨by unfold tGk; omega, (zxcj (by omega) rfl).trans hf0, by rw [tGe_1 (by omega)]; exact p52hpl⟩
          | exact Or.inl ⟨by unfold tGk; omega, (zxcj (by omega) rfl).trans hf0, by rw [tGe_0 (by omega)]; exact zxe.trans (by omega)⟩)
def T_O_wrd : ZT := fun args I L R S Q => ∃ (a : Int) (a_ : Nat), args = [zvi a] ∧ (a = a_ ∧ a_ ≤ 9) ∧ ∀ (u : Nat), (u = 10 + a_) → Q (some (zvr (u))) I L R S
theorem sn_O_wrd : ZSnd 1 2 28 T_O_wrd := ZSnd.of (zT2_28 0) (by
  rintro args I L R S Q hz ⟨a, a_, rfl, ha, hQ⟩
  refine And.intro rfl ?_
  refine And.intro (by omega) (And.intro (And.intro (fun h1 => ?_) (And.intro (fun h1 => ?_) (And.intro (fun h1 => ?_) (And.intro (fun h1 => ?_) (And.intro (fun h1 => ?_) (And.intro (fun h1 => ?_) (And.intro (fun h1 => ?_) (And.intro (fun h1 => ?_) (And.intro (fun h1 => ?_) True.intro))))))))) (fun h1 => ?_))
  · refine hQ _ ?_
    · have q : a_ = 0 ∨ a_ = 1 ∨ a_ = 2 ∨ a_ = 3 ∨ a_ = 4 ∨ a_ = 5 ∨ a_ = 6 ∨ a_ = 7 ∨ a_ = 8 ∨ a_ = 9 := (by omega)
      omega
  · refine hQ _ ?_
    · have q : a_ = 0 ∨ a_ = 1 ∨ a_ = 2 ∨ a_ = 3 ∨ a_ = 4 ∨ a_ = 5 ∨ a_ = 6 ∨ a_ = 7 ∨ a_ = 8 ∨ a_ = 9 := (by omega)
      omega
  · refine hQ _ ?_
    · have q : a_ = 0 ∨ a_ = 1 ∨ a_ = 2 ∨ a_ = 3 ∨ a_ = 4 ∨ a_ = 5 ∨ a_ = 6 ∨ a_ = 7 ∨ a_ = 8 ∨ a_ = 9 := (by omega)
      omega
  · refine hQ _ ?_
    · have q : a_ = 0 ∨ a_ = 1 ∨ a_ = 2 ∨ a_ = 3 ∨ a_ = 4 ∨ a_ = 5 ∨ a_ = 6 ∨ a_ = 7 ∨ a_ = 8 ∨ a_ = 9 := (by omega)
      omega
  · refine hQ _ ?_
    · have q : a_ = 0 ∨ a_ = 1 ∨ a_ = 2 ∨ a_ = 3 ∨ a_ = 4 ∨ a_ = 5 ∨ a_ = 6 ∨ a_ = 7 ∨ a_ = 8 ∨ a_ = 9 := (by omega)
      omega
  · refine hQ _ ?_
    · have q : a_ = 0 ∨ a_ = 1 ∨ a_ = 2 ∨ a_ = 3 ∨ a_ = 4 ∨ a_ = 5 ∨ a_ = 6 ∨ a_ = 7 ∨ a_ = 8 ∨ a_ = 9 := (by omega)
      omega
  · refine hQ _ ?_
    · have q : a_ = 0 ∨ a_ = 1 ∨ a_ = 2 ∨ a_ = 3 ∨ a_ = 4 ∨ a_ = 5 ∨ a_ = 6 ∨ a_ = 7 ∨ a_ = 8 ∨ a_ = 9 := (by omega)
      omega
  · refine hQ _ ?_
    · have q : a_ = 0 ∨ a_ = 1 ∨ a_ = 2 ∨ a_ = 3 ∨ a_ = 4 ∨ a_ = 5 ∨ a_ = 6 ∨ a_ = 7 ∨ a_ = 8 ∨ a_ = 9 := (by omega)
      omega
  · refine hQ _ ?_
    · have q : a_ = 0 ∨ a_ = 1 ∨ a_ = 2 ∨ a_ = 3 ∨ a_ = 4 ∨ a_ = 5 ∨ a_ = 6 ∨ a_ = 7 ∨ a_ = 8 ∨ a_ = 9 := (by omega)
      omega
  · refine hQ _ ?_
    · have q : a_ = 0 ∨ a_ = 1 ∨ a_ = 2 ∨ a_ = 3 ∨ a_ = 4 ∨ a_ = 5 ∨ a_ = 6 ∨ a_ = 7 ∨ a_ = 8 ∨ a_ = 9 := (by omega)
      omega)
def T_O_fds : ZT := fun args I L R S Q => ∃ (a : Int) (a_ : Nat), args = [zvi a] ∧ (a = a_ ∧ a_ ≤ 9) ∧ ∀ (u : Nat), ((a_ ≤ 8 ∧ u = 20 + a_) ∨ (a_ = 9 ∧ u = 19)) → Q (some (zvr (u))) I L R S
theorem sn_O_fds : ZSnd 1 2 12 T_O_fds := ZSnd.of (zT2_12 0) (by
  rintro args I L R S Q hz ⟨a, a_, rfl, ha, hQ⟩
  refine And.intro rfl ?_
  refine And.intro (by omega) (And.intro (And.intro (fun h1 => ?_) (And.intro (fun h1 => ?_) (And.intro (fun h1 => ?_) (And.intro (fun h1 => ?_) (And.intro (fun h1 => ?_) (And.intro (fun h1 => ?_) (And.intro (fun h1 => ?_) (And.intro (fun h1 => ?_) (And.intro (fun h1 => ?_) True.intro))))))))) (fun h1 => ?_))
  · refine hQ _ ?_
    · have q : a_ = 0 ∨ a_ = 1 ∨ a_ = 2 ∨ a_ = 3 ∨ a_ = 4 ∨ a_ = 5 ∨ a_ = 6 ∨ a_ = 7 ∨ a_ = 8 ∨ a_ = 9 := (by omega)
      omega
  · refine hQ _ ?_
    · have q : a_ = 0 ∨ a_ = 1 ∨ a_ = 2 ∨ a_ = 3 ∨ a_ = 4 ∨ a_ = 5 ∨ a_ = 6 ∨ a_ = 7 ∨ a_ = 8 ∨ a_ = 9 := (by omega)
      omega
  · refine hQ _ ?_
    · have q : a_ = 0 ∨ a_ = 1 ∨ a_ = 2 ∨ a_ = 3 ∨ a_ = 4 ∨ a_ = 5 ∨ a_ = 6 ∨ a_ = 7 ∨ a_ = 8 ∨ a_ = 9 := (by omega)
      omega
  · refine hQ _ ?_
    · have q : a_ = 0 ∨ a_ = 1 ∨ a_ = 2 ∨ a_ = 3 ∨ a_ = 4 ∨ a_ = 5 ∨ a_ = 6 ∨ a_ = 7 ∨ a_ = 8 ∨ a_ = 9 := (by omega)
      omega
  · refine hQ _ ?_
    · have q : a_ = 0 ∨ a_ = 1 ∨ a_ = 2 ∨ a_ = 3 ∨ a_ = 4 ∨ a_ = 5 ∨ a_ = 6 ∨ a_ = 7 ∨ a_ = 8 ∨ a_ = 9 := (by omega)
      omega
  · refine hQ _ ?_
    · have q : a_ = 0 ∨ a_ = 1 ∨ a_ = 2 ∨ a_ = 3 ∨ a_ = 4 ∨ a_ = 5 ∨ a_ = 6 ∨ a_ = 7 ∨ a_ = 8 ∨ a_ = 9 := (by omega)
      omega
  · refine hQ _ ?_
    · have q : a_ = 0 ∨ a_ = 1 ∨ a_ = 2 ∨ a_ = 3 ∨ a_ = 4 ∨ a_ = 5 ∨ a_ = 6 ∨ a_ = 7 ∨ a_ = 8 ∨ a_ = 9 := (by omega)
      omega
  · refine hQ _ ?_
    · have q : a_ = 0 ∨ a_ = 1 ∨ a_ = 2 ∨ a_ = 3 ∨ a_ = 4 ∨ a_ = 5 ∨ a_ = 6 ∨ a_ = 7 ∨ a_ = 8 ∨ a_ = 9 := (by omega)
      omega
  · refine hQ _ ?_
    · have q : a_ = 0 ∨ a_ = 1 ∨ a_ = 2 ∨ a_ = 3 ∨ a_ = 4 ∨ a_ = 5 ∨ a_ = 6 ∨ a_ = 7 ∨ a_ = 8 ∨ a_ = 9 := (by omega)
      omega
  · refine hQ _ ?_
    · have q : a_ = 0 ∨ a_ = 1 ∨ a_ = 2 ∨ a_ = 3 ∨ a_ = 4 ∨ a_ = 5 ∨ a_ = 6 ∨ a_ = 7 ∨ a_ = 8 ∨ a_ = 9 := (by omega)
      omega)
