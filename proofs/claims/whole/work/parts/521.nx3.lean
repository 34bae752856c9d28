/-! nx3 -/
def T_V_beg : ZT := fun args I L R S Q => ∃ (k : Nat) (c : Nat → Int) (n : Nat) (p : Int) (p_ : Nat) (b : Int) (x : Int) (mk : Int) (fd : Nat), args = [zvr k, zvi p, zvi b, zvi x] ∧ (zDy zT20 zF20 k R S) ∧ (zRM k c n I) ∧ (tOk c n) ∧ (p = p_ ∧ p_ ≤ 5000) ∧ (-1 ≤ b ∧ b ≤ 9) ∧ (r32 x) ∧ (I k 15 = mk) ∧ (0 ≤ mk ∧ mk ≤ 1) ∧ (I k 17 = fd) ∧ (fd ≤ 200) ∧ (I k 18 = -1) ∧ ∀ (v : Int) (I' : ZI) (L' : ZI), ((tBg c n p_ b fd ∧ v = (tKd c p_ (tSk tSm c n p_)) ∧ I' k 18 = -1 ∧ I' k 20 = 0 ∧ I' k 21 = 0) ∨ (¬ tBg c n p_ b fd ∧ v = -1 ∧ I' k 18 = p_)) → (-1 ≤ v ∧ v ≤ 9) → (0 ≤ v → mk = 1 → I' (k + 2) fd = v ∧ I' (k + 3) fd = x ∧ I' (k + 8) fd = 0 ∧ (∀ w, w < 2 → I' (k + 5) (2 * fd + w) = 0) ∧ ∀ w, w < 5 → L' (k + 4) (5 * fd + w) = tN1 (v).toNat w) → (∀ c j : Nat, ¬ (c = k ∧ j = 18) → ¬ (c = k ∧ j = 20) → ¬ (c = k ∧ j = 21) → ¬ (c = k + 2 ∧ (mk = 1 ∧ fd ≤ 199 ∧ j = fd)) → ¬ (c = k + 3 ∧ (mk = 1 ∧ fd ≤ 199 ∧ j = fd)) → ¬ (c = k + 8 ∧ (mk = 1 ∧ fd ≤ 199 ∧ j = fd)) → ¬ (c = k + 5 ∧ (mk = 1 ∧ fd ≤ 199 ∧ 2 * fd ≤ j ∧ j < 2 * fd + 2)) → I' c j = I c j) → (∀ c j : Nat, ¬ (c = k + 4 ∧ (mk = 1 ∧ fd ≤ 199 ∧ 5 * fd ≤ j ∧ j < 5 * fd + 5)) → L' c j = L c j) → Q (some (zvi (v))) I' L' R S
theorem sn_V_beg : ZSnd 4 20 0 T_V_beg := ZSnd.of (zT20_0 3) (by
  rintro args I L R S Q hz ⟨k, c, n, p, p_, b, x, mk, fd, rfl, hD, hX, hc, hp, hb, hx_, hmk, hmk2, hfd, hfd2, hf0, hQ⟩
  obtain ⟨x1, x2⟩ := id hX
  have hn4 := hc.1
  have hk40 := hD.1
  have hkb := tKd_b (c := c) (p := p_) (q := (tSk tSm c n p_))
  have hse := tSk_b (P := tSm) (p := p_) hc tSm_no
  have hcn : b = -1 → (tCn (tKd c p_ (tSk tSm c n p_)) b ↔ (tKd c p_ (tSk tSm c n p_)) = 0) := fun e => by rw [e]; exact tCn_n
  refine And.intro rfl ?_
  refine And.intro (zDX hD 0 rfl) ⟨_, sn_V_nme.up (by decide), ?_⟩
  refine ⟨k, c, n, (p : Int), p_, rfl, hD, (by first | exact (zRM_fr hX (fun c j h => rfl)) | (clear hQ; grind [xu])), (by first | exact hc | (clear hQ; grind [xu])), (by omega), ?_⟩
  intro v2o p2hv
  refine And.intro ⟨(by omega), (by omega)⟩ ⟨fun h10 => ?_, fun h10 => ?_⟩
  · refine And.intro (zDX hD 0 rfl) ⟨_, sn_V_kat.up (by decide), ?_⟩
    refine ⟨k, c, n, (p : Int), p_, (v2o : Int), (tSk tSm c n p_), rfl, hD, (by first | exact (zRM_fr hX (fun c j h => rfl)) | (clear hQ; grind [xu])), (by first | exact hc | (clear hQ; grind [xu])), ⟨by omega, hse.1⟩, ⟨by omega, by have z := tSm_s (p := p_) hc (by omega); exact z.2.1⟩, (tSm_s (p := p_) hc (by omega)).2.2, (tSm_s (p := p_) hc (by omega)).1, ?_⟩
    intro v24o p24hv p24bhv2
    refine And.intro ⟨(by omega), (zRb rfl)⟩ ⟨fun h31 => ?_, fun h31 => ?_⟩
    · refine ⟨_, sn_V_can.up (by decide), ?_⟩
      refine ⟨(v24o : Int), ((tKd c p_ (tSk tSm c n p_))).toNat, (b : Int), b.toNat, rfl, (by omega), (by omega), ?_⟩
      intro v50o p50hv p50bhv2
      have g50 : (v50o = 1 ∧ tCn (tKd c p_ (tSk tSm c n p_)) b) ∨ (v50o = 0 ∧ ¬ tCn (tKd c p_ (tSk tSm c n p_)) b) := (by have z := p50hv; rw [Int.toNat_of_nonneg (by omega), Int.toNat_of_nonneg (by omega)] at z; exact z)
      refine And.intro (by omega) ⟨fun h57 => ?_, fun h57 => ?_⟩
      · refine And.intro (zDX hD 0 rfl) (Exists.intro _ (And.intro (zinl_ok (zT20_9 2)) (And.intro rfl ?_)))
        refine And.intro (zDX hD 0 rfl) (zrd (v := (-1)) hf0 ?_)
        refine And.intro ⟨(zRb rfl), (zRb rfl)⟩ (zbf rfl ?_)
        refine And.intro (zDX hD 0 rfl) ⟨_, (zWi (by omega)), ?_⟩
        refine hQ _ _ _ ?_ (by omega) ?_ (fun c j h0 h1 h2 h3 h4 h5 h6 => (zxcj h0 rfl)) (fun c j h0 => rfl)
        · first
          | exact Or.inr ⟨fun w => w.1 (by omega), rfl, zxe.trans (by omega)⟩
          | exact Or.inr ⟨fun w => w.2.2 (by omega), rfl, zxe.trans (by omega)⟩
          | exact Or.inr ⟨fun w => by rcases g50 with z | z; omega; exact z.2 w.2.1, rfl, zxe.trans (by omega)⟩
          | exact Or.inr ⟨fun w => by have w2 := (hcn (by omega)).mp w.2.1; omega, rfl, zxe.trans (by omega)⟩
          | exact Or.inl ⟨⟨by omega, (by rcases g50 with z | z; exact z.2; exfalso; omega), by omega⟩, p24hv, (zxcj (by omega) rfl).trans hf0, (by first | exact zxs (by omega) zxe | exact zxu (by omega) ((p101bbbbfr k 20 (by omega) (by omega) (by omega)).trans (zxs (by omega) zxe))), (by first | exact zxe | exact zxu (by omega) ((p101bbbbfr k 21 (by omega) (by omega) (by omega)).trans zxe))⟩
          | exact Or.inl ⟨⟨by omega, ((hcn (by omega)).mpr (by omega)), by omega⟩, p24hv, (zxcj (by omega) rfl).trans hf0, (by first | exact zxs (by omega) zxe | exact zxu (by omega) ((p101bbbbfr k 20 (by omega) (by omega) (by omega)).trans (zxs (by omega) zxe))), (by first | exact zxe | exact zxu (by omega) ((p101bbbbfr k 21 (by omega) (by omega) (by omega)).trans zxe))⟩
        · intro h8
          first
          | (exfalso; omega)
          | (intro h9
             first
             | (exfalso; omega)
             | exact ⟨(zxu (by omega) p101hk1).trans (by omega), zxe, zxu (by omega) p101bhks, fun w hw => zxu (by omega) (p101bbhk5 w hw), fun w hw => (p101bbbhkL w hw).trans (by rw [p24hv])⟩)
      · refine And.intro (zDX hD 0 rfl) (zrd (v := fd) hfd ?_)
        refine And.intro ⟨(by omega), (zRb rfl)⟩ ⟨fun h67 => ?_, fun h67 => ?_⟩
        · refine And.intro (zDX hD 0 rfl) ⟨_, (zWi (zRb rfl)), ?_⟩
          refine And.intro (zDX hD 0 rfl) ⟨_, (zWi (zRb rfl)), ?_⟩
          refine And.intro (zDX hD 0 rfl) (zrd (v := mk) (zxs (by decide) (zxs (by decide) hmk)) ?_)
          refine And.intro (by omega) ⟨fun h91 => ?_, fun h91 => ?_⟩
          · refine hQ _ _ _ ?_ (by omega) ?_ (fun c j h0 h1 h2 h3 h4 h5 h6 => (zxcj h2 (zxcj h1 rfl))) (fun c j h0 => rfl)
            · first
              | exact Or.inr ⟨fun w => w.1 (by omega), rfl, zxe.trans (by omega)⟩
              | exact Or.inr ⟨fun w => w.2.2 (by omega), rfl, zxe.trans (by omega)⟩
              | exact Or.inr ⟨fun w => by rcases g50 with z | z; omega; exact z.2 w.2.1, rfl, zxe.trans (by omega)⟩
              | exact Or.inr ⟨fun w => by have w2 := (hcn (by omega)).mp w.2.1; omega, rfl, zxe.trans (by omega)⟩
              | exact Or.inl ⟨⟨by omega, (by rcases g50 with z | z; exact z.2; exfalso; omega), by omega⟩, p24hv, (zxcj (by omega) (zxcj (by omega) rfl)).trans hf0, (by first | exact zxs (by omega) zxe | exact zxu (by omega) ((p101bbbbfr k 20 (by omega) (by omega) (by omega)).trans (zxs (by omega) zxe))), (by first | exact zxe | exact zxu (by omega) ((p101bbbbfr k 21 (by omega) (by omega) (by omega)).trans zxe))⟩
              | exact Or.inl ⟨⟨by omega, ((hcn (by omega)).mpr (by omega)), by omega⟩, p24hv, (zxcj (by omega) (zxcj (by omega) rfl)).trans hf0, (by first | exact zxs (by omega) zxe | exact zxu (by omega) ((p101bbbbfr k 20 (by omega) (by omega) (by omega)).trans (zxs (by omega) zxe))), (by first | exact zxe | exact zxu (by omega) ((p101bbbbfr k 21 (by omega) (by omega) (by omega)).trans zxe))⟩
            · intro h8
              first
              | (exfalso; omega)
              | (intro h9
                 first
                 | (exfalso; omega)
                 | exact ⟨(zxu (by omega) p101hk1).trans (by omega), zxe, zxu (by omega) p101bhks, fun w hw => zxu (by omega) (p101bbhk5 w hw), fun w hw => (p101bbbhkL w hw).trans (by rw [p24hv])⟩)
          · refine And.intro (zDX hD 0 rfl) (zrd (v := fd) (zxs (by decide) (zxs (by decide) hfd)) ?_)
            refine And.intro (zDX hD 0 rfl) ⟨_, sn_V_blk.up (by decide), ?_⟩
            refine ⟨k, fd, (v24o : Int), ((tKd c p_ (tSk tSm c n p_))).toNat, rfl, hD, (by omega), (by omega), ?_⟩
            intro I101o L101o p101hk1 p101bhks p101bbhk5 p101bbbhkL p101bbbbfr p101bbbbbfrL
            refine And.intro (zDX hD 0 rfl) (zrdR (v := some (k + 3)) (zDR hD 2 rfl) ?_)
            refine And.intro (zDX hD 0 rfl) (zrd (v := fd) ((p101bbbbfr k 17 (by omega) (by omega) (by omega)).trans (zxs (by decide) (zxs (by decide) hfd))) ?_)
            refine And.intro ⟨(by show 40 ≤ _; omega), (zDP hD 3 rfl rfl (by omega) (by omega))⟩ ⟨_, (zWi (by omega)), ?_⟩
            refine hQ _ _ _ ?_ (by omega) ?_ (fun c j h0 h1 h2 h3 h4 h5 h6 => (zxcj (by omega) ((p101bbbbfr c j (by omega) (by omega) (by omega)).trans (zxcj h2 (zxcj h1 rfl))))) (fun c j h0 => ((p101bbbbbfrL c j (by omega)).trans rfl))
            · first
              | exact Or.inr ⟨fun w => w.1 (by omega), rfl, zxe.trans (by omega)⟩
              | exact Or.inr ⟨fun w => w.2.2 (by omega), rfl, zxe.trans (by omega)⟩
              | exact Or.inr ⟨fun w => by rcases g50 with z | z; omega; exact z.2 w.2.1, rfl, zxe.trans (by omega)⟩
              | exact Or.inr ⟨fun w => by have w2 := (hcn (by omega)).mp w.2.1; omega, rfl, zxe.trans (by omega)⟩
              | exact Or.inl ⟨⟨by omega, (by rcases g50 with z | z; exact z.2; exfalso; omega), by omega⟩, p24hv, (zxcj (by omega) ((p101bbbbfr k _ (by omega) (by omega) (by omega)).trans (zxcj (by omega) (zxcj (by omega) rfl)))).trans hf0, (by first | exact zxs (by omega) zxe | exact zxu (by omega) ((p101bbbbfr k 20 (by omega) (by omega) (by omega)).trans (zxs (by omega) zxe))), (by first | exact zxe | exact zxu (by omega) ((p101bbbbfr k 21 (by omega) (by omega) (by omega)).trans zxe))⟩
              | exact Or.inl ⟨⟨by omega, ((hcn (by omega)).mpr (by omega)), by omega⟩, p24hv, (zxcj (by omega) ((p101bbbbfr k _ (by omega) (by omega) (by omega)).trans (zxcj (by omega) (zxcj (by omega) rfl)))).trans hf0, (by first | exact zxs (by omega) zxe | exact zxu (by omega) ((p101bbbbfr k 20 (by omega) (by omega) (by omega)).trans (zxs (by omega) zxe))), (by first | exact zxe | exact zxu (by omega) ((p101bbbbfr k 21 (by omega) (by omega) (by omega)).trans zxe))⟩
            · intro h8
              first
              | (exfalso; omega)
              | (intro h9
                 first
                 | (exfalso; omega)
                 | exact ⟨(zxu (by omega) p101hk1).trans (by omega), zxe, zxu (by omega) p101bhks, fun w hw => zxu (by omega) (p101bbhk5 w hw), fun w hw => (p101bbbhkL w hw).trans (by rw [p24hv])⟩)
        · refine And.intro (zDX hD 0 rfl) (Exists.intro _ (And.intro (zinl_ok (zT20_9 2)) (And.intro rfl ?_)))
          refine And.intro (zDX hD 0 rfl) (zrd (v := (-1)) hf0 ?_)
          refine And.intro ⟨(zRb rfl), (zRb rfl)⟩ (zbf rfl ?_)
          refine And.intro (zDX hD 0 rfl) ⟨_, (zWi (by omega)), ?_⟩
          refine hQ _ _ _ ?_ (by omega) ?_ (fun c j h0 h1 h2 h3 h4 h5 h6 => (zxcj h0 rfl)) (fun c j h0 => rfl)
          · first
            | exact Or.inr ⟨fun w => w.1 (by omega), rfl, zxe.trans (by omega)⟩
            | exact Or.inr ⟨fun w => w.2.2 (by omega), rfl, zxe.trans (by omega)⟩
            | exact Or.inr ⟨fun w => by rcases g50 with z | z; omega; exact z.2 w.2.1, rfl, zxe.trans (by omega)⟩
            | exact Or.inr ⟨fun w => by have w2 := (hcn (by omega)).mp w.2.1; omega, rfl, zxe.trans (by omega)⟩
            | exact Or.inl ⟨⟨by omega, (by rcases g50 with z | z; exact z.2; exfalso; omega), by omega⟩, p24hv, (zxcj (by omega) rfl).trans hf0, (by first | exact zxs (by omega) zxe | exact zxu (by omega) ((p101bbbbfr k 20 (by omega) (by omega) (by omega)).trans (zxs (by omega) zxe))), (by first | exact zxe | exact zxu (by omega) ((p101bbbbfr k 21 (by omega) (by omega) (by omega)).trans zxe))⟩
            | exact Or.inl ⟨⟨by omega, ((hcn (by omega)).mpr (by omega)), by omega⟩, p24hv, (zxcj (by omega) rfl).trans hf0, (by first | exact zxs (by omega) zxe | exact zxu (by omega) ((p101bbbbfr k 20 (by omega) (by omega) (by omega)).trans (zxs (by omega) zxe))), (by first | exact zxe | exact zxu (by omega) ((p101bbbbfr k 21 (by omega) (by omega) (by omega)).trans zxe))⟩
          · intro h8
            first
            | (exfalso; omega)
            | (intro h9
               first
               | (exfalso; omega)
               | exact ⟨(zxu (by omega) p101hk1).trans (by omega), zxe, zxu (by omega) p101bhks, fun w hw => zxu (by omega) (p101bbhk5 w hw), fun w hw => (p101bbbhkL w hw).trans (by rw [p24hv])⟩)
    · refine And.intro (by omega) ⟨fun h36 => ?_, fun h36 => ?_⟩
      · refine And.intro (zRb rfl) (zbt rfl ?_)
        refine And.intro (zDX hD 0 rfl) (Exists.intro _ (And.intro (zinl_ok (zT20_9 2)) (And.intro rfl ?_)))
        refine And.intro (zDX hD 0 rfl) (zrd (v := (-1)) hf0 ?_)
        refine And.intro ⟨(zRb rfl), (zRb rfl)⟩ (zbf rfl ?_)
        refine And.intro (zDX hD 0 rfl) ⟨_, (zWi (by omega)), ?_⟩
        refine hQ _ _ _ ?_ (by omega) ?_ (fun c j h0 h1 h2 h3 h4 h5 h6 => (zxcj h0 rfl)) (fun c j h0 => rfl)
        · first
          | exact Or.inr ⟨fun w => w.1 (by omega), rfl, zxe.trans (by omega)⟩
          | exact Or.inr ⟨fun w => w.2.2 (by omega), rfl, zxe.trans (by omega)⟩
          | exact Or.inr ⟨fun w => by rcases g50 with z | z; omega; exact z.2 w.2.1, rfl, zxe.trans (by omega)⟩
          | exact Or.inr ⟨fun w => by have w2 := (hcn (by omega)).mp w.2.1; omega, rfl, zxe.trans (by omega)⟩
          | exact Or.inl ⟨⟨by omega, (by rcases g50 with z | z; exact z.2; exfalso; omega), by omega⟩, p24hv, (zxcj (by omega) rfl).trans hf0, (by first | exact zxs (by omega) zxe | exact zxu (by omega) ((p101bbbbfr k 20 (by omega) (by omega) (by omega)).trans (zxs (by omega) zxe))), (by first | exact zxe | exact zxu (by omega) ((p101bbbbfr k 21 (by omega) (by omega) (by omega)).trans zxe))⟩
          | exact Or.inl ⟨⟨by omega, ((hcn (by omega)).mpr (by omega)), by omega⟩, p24hv, (zxcj (by omega) rfl).trans hf0, (by first | exact zxs (by omega) zxe | exact zxu (by omega) ((p101bbbbfr k 20 (by omega) (by omega) (by omega)).trans (zxs (by omega) zxe))), (by first | exact zxe | exact zxu (by omega) ((p101bbbbfr k 21 (by omega) (by omega) (by omega)).trans zxe))⟩
        · intro h8
          first
          | (exfalso; omega)
          | (intro h9
             first
             | (exfalso; omega)
             | exact ⟨(zxu (by omega) p101hk1).trans (by omega), zxe, zxu (by omega) p101bhks, fun w hw => zxu (by omega) (p101bbhk5 w hw), fun w hw => (p101bbbhkL w hw).trans (by rw [p24hv])⟩)
      · refine And.intro (zRb rfl) (zbf rfl ?_)
        refine And.intro (zDX hD 0 rfl) (zrd (v := fd) hfd ?_)
        refine And.intro ⟨(by omega), (zRb rfl)⟩ ⟨fun h67 => ?_, fun h67 => ?_⟩
        · refine And.intro (zDX hD 0 rfl) ⟨_, (zWi (zRb rfl)), ?_⟩
          refine And.intro (zDX hD 0 rfl) ⟨_, (zWi (zRb rfl)), ?_⟩
          refine And.intro (zDX hD 0 rfl) (zrd (v := mk) (zxs (by decide) (zxs (by decide) hmk)) ?_)
          refine And.intro (by omega) ⟨fun h91 => ?_, fun h91 => ?_⟩
          · refine hQ _ _ _ ?_ (by omega) ?_ (fun c j h0 h1 h2 h3 h4 h5 h6 => (zxcj h2 (zxcj h1 rfl))) (fun c j h0 => rfl)
            · first
              | exact Or.inr ⟨fun w => w.1 (by omega), rfl, zxe.trans (by omega)⟩
              | exact Or.inr ⟨fun w => w.2.2 (by omega), rfl, zxe.trans (by omega)⟩
              | exact Or.inr ⟨fun w => by rcases g50 with z | z; omega; exact z.2 w.2.1, rfl, zxe.trans (by omega)⟩
              | exact Or.inr ⟨fun w => by have w2 := (hcn (by omega)).mp w.2.1; omega, rfl, zxe.trans (by omega)⟩
              | exact Or.inl ⟨⟨by omega, (by rcases g50 with z | z; exact z.2; exfalso; omega), by omega⟩, p24hv, (zxcj (by omega) (zxcj (by omega) rfl)).trans hf0, (by first | exact zxs (by omega) zxe | exact zxu (by omega) ((p101bbbbfr k 20 (by omega) (by omega) (by omega)).trans (zxs (by omega) zxe))), (by first | exact zxe | exact zxu (by omega) ((p101bbbbfr k 21 (by omega) (by omega) (by omega)).trans zxe))⟩
              | exact Or.inl ⟨⟨by omega, ((hcn (by omega)).mpr (by omega)), by omega⟩, p24hv, (zxcj (by omega) (zxcj (by omega) rfl)).trans hf0, (by first | exact zxs (by omega) zxe | exact zxu (by omega) ((p101bbbbfr k 20 (by omega) (by omega) (by omega)).trans (zxs (by omega) zxe))), (by first | exact zxe | exact zxu (by omega) ((p101bbbbfr k 21 (by omega) (by omega) (by omega)).trans zxe))⟩
            · intro h8
              first
              | (exfalso; omega)
              | (intro h9
                 first
                 | (exfalso; omega)
                 | exact ⟨(zxu (by omega) p101hk1).trans (by omega), zxe, zxu (by omega) p101bhks, fun w hw => zxu (by omega) (p101bbhk5 w hw), fun w hw => (p101bbbhkL w hw).trans (by rw [p24hv])⟩)
          · refine And.intro (zDX hD 0 rfl) (zrd (v := fd) (zxs (by decide) (zxs (by decide) hfd)) ?_)
            refine And.intro (zDX hD 0 rfl) ⟨_, sn_V_blk.up (by decide), ?_⟩
            refine ⟨k, fd, (v24o : Int), ((tKd c p_ (tSk tSm c n p_))).toNat, rfl, hD, (by omega), (by omega), ?_⟩
            intro I101o L101o p101hk1 p101bhks p101bbhk5 p101bbbhkL p101bbbbfr p101bbbbbfrL
            refine And.intro (zDX hD 0 rfl) (zrdR (v := some (k + 3)) (zDR hD 2 rfl) ?_)
            refine And.intro (zDX hD 0 rfl) (zrd (v := fd) ((p101bbbbfr k 17 (by omega) (by omega) (by omega)).trans (zxs (by decide) (zxs (by decide) hfd))) ?_)
            refine And.intro ⟨(by show 40 ≤ _; omega), (zDP hD 3 rfl rfl (by omega) (by omega))⟩ ⟨_, (zWi (by omega)), ?_⟩
            refine hQ _ _ _ ?_ (by omega) ?_ (fun c j h0 h1 h2 h3 h4 h5 h6 => (zxcj (by omega) ((p101bbbbfr c j (by omega) (by omega) (by omega)).trans (zxcj h2 (zxcj h1 rfl))))) (fun c j h0 => ((p101bbbbbfrL c j (by omega)).trans rfl))
            · first
              | exact Or.inr ⟨fun w => w.1 (by omega), rfl, zxe.trans (by omega)⟩
              | exact Or.inr ⟨fun w => w.2.2 (by omega), rfl, zxe.trans (by omega)⟩
              | exact Or.inr ⟨fun w => by rcases g50 with z | z; omega; exact z.2 w.2.1, rfl, zxe.trans (by omega)⟩
              | exact Or.inr ⟨fun w => by have w2 := (hcn (by omega)).mp w.2.1; omega, rfl, zxe.trans (by omega)⟩
              | exact Or.inl ⟨⟨by omega, (by rcases g50 with z | z; exact z.2; exfalso; omega), by omega⟩, p24hv, (zxcj (by omega) ((p101bbbbfr k _ (by omega) (by omega) (by omega)).trans (zxcj (by omega) (zxcj (by omega) rfl)))).trans hf0, (by first | exact zxs (by omega) zxe | exact zxu (by omega) ((p101bbbbfr k 20 (by omega) (by omega) (by omega)).trans (zxs (by omega) zxe))), (by first | exact zxe | exact zxu (by omega) ((p101bbbbfr k 21 (by omega) (by omega) (by omega)).trans zxe))⟩
              | exact Or.inl ⟨⟨by omega, ((hcn (by omega)).mpr (by omega)), by omega⟩, p24hv, (zxcj (by omega) ((p101bbbbfr k _ (by omega) (by omega) (by omega)).trans (zxcj (by omega) (zxcj (by omega) rfl)))).trans hf0, (by first | exact zxs (by omega) zxe | exact zxu (by omega) ((p101bbbbfr k 20 (by omega) (by omega) (by omega)).trans (zxs (by omega) zxe))), (by first | exact zxe | exact zxu (by omega) ((p101bbbbfr k 21 (by omega) (by omega) (by omega)).trans zxe))⟩
            · intro h8
              first
              | (exfalso; omega)
              | (intro h9
                 first
                 | (exfalso; omega)
                 | exact ⟨(zxu (by omega) p101hk1).trans (by omega), zxe, zxu (by omega) p101bhks, fun w hw => zxu (by omega) (p101bbhk5 w hw), fun w hw => (p101bbbhkL w hw).trans (by rw [p24hv])⟩)
        · refine And.intro (zDX hD 0 rfl) (Exists.intro _ (And.intro (zinl_ok (zT20_9 2)) (And.intro rfl ?_)))
          refine And.intro (zDX hD 0 rfl) (zrd (v := (-1)) hf0 ?_)
          refine And.intro ⟨(zRb rfl), (zRb rfl)⟩ (zbf rfl ?_)
          refine And.intro (zDX hD 0 rfl) ⟨_, (zWi (by omega)), ?_⟩
          refine hQ _ _ _ ?_ (by omega) ?_ (fun c j h0 h1 h2 h3 h4 h5 h6 => (zxcj h0 rfl)) (fun c j h0 => rfl)
          · first
            | exact Or.inr ⟨fun w => w.1 (by omega), rfl, zxe.trans (by omega)⟩
            | exact Or.inr ⟨fun w => w.2.2 (by omega), rfl, zxe.trans (by omega)⟩
            | exact Or.inr ⟨fun w => by rcases g50 with z | z; omega; exact z.2 w.2.1, rfl, zxe.trans (by omega)⟩
            | exact Or.inr ⟨fun w => by have w2 := (hcn (by omega)).mp w.2.1; omega, rfl, zxe.trans (by omega)⟩
            | exact Or.inl ⟨⟨by omega, (by rcases g50 with z | z; exact z.2; exfalso; omega), by omega⟩, p24hv, (zxcj (by omega) rfl).trans hf0, (by first | exact zxs (by omega) zxe | exact zxu (by omega) ((p101bbbbfr k 20 (by omega) (by omega) (by omega)).trans (zxs (by omega) zxe))), (by first | exact zxe | exact zxu (by omega) ((p101bbbbfr k 21 (by omega) (by omega) (by omega)).trans zxe))⟩
            | exact Or.inl ⟨⟨by omega, ((hcn (by omega)).mpr (by omega)), by omega⟩, p24hv, (zxcj (by omega) rfl).trans hf0, (by first | exact zxs (by omega) zxe | exact zxu (by omega) ((p101bbbbfr k 20 (by omega) (by omega) (by omega)).trans (zxs (by omega) zxe))), (by first | exact zxe | exact zxu (by omega) ((p101bbbbfr k 21 (by omega) (by omega) (by omega)).trans zxe))⟩
          · intro h8
            first
            | (exfalso; omega)
            | (intro h9
               first
               | (exfalso; omega)
               | exact ⟨(zxu (by omega) p101hk1).trans (by omega), zxe, zxu (by omega) p101bhks, fun w hw => zxu (by omega) (p101bbhk5 w hw), fun w hw => (p101bbbhkL w hw).trans (by rw [p24hv])⟩)
  · refine And.intro (zDX hD 0 rfl) (Exists.intro _ (And.intro (zinl_ok (zT20_9 2)) (And.intro rfl ?_)))
    refine And.intro (zDX hD 0 rfl) (zrd (v := (-1)) hf0 ?_)
    refine And.intro ⟨(zRb rfl), (zRb rfl)⟩ (zbf rfl ?_)
    refine And.intro (zDX hD 0 rfl) ⟨_, (zWi (by omega)), ?_⟩
    refine hQ _ _ _ ?_ (by omega) ?_ (fun c j h0 h1 h2 h3 h4 h5 h6 => (zxcj h0 rfl)) (fun c j h0 => rfl)
    · first
      | exact Or.inr ⟨fun w => w.1 (by omega), rfl, zxe.trans (by omega)⟩
      | exact Or.inr ⟨fun w => w.2.2 (by omega), rfl, zxe.trans (by omega)⟩
      | exact Or.inr ⟨fun w => by rcases g50 with z | z; omega; exact z.2 w.2.1, rfl, zxe.trans (by omega)⟩
      | exact Or.inr ⟨fun w => by have w2 := (hcn (by omega)).mp w.2.1; omega, rfl, zxe.trans (by omega)⟩
      | exact Or.inl ⟨⟨by omega, (by rcases g50 with z | z; exact z.2; exfalso; omega), by omega⟩, p24hv, (zxcj (by omega) rfl).trans hf0, (by first | exact zxs (by omega) zxe | exact zxu (by omega) ((p101bbbbfr k 20 (by omega) (by omega) (by omega)).trans (zxs (by omega) zxe))), (by first | exact zxe | exact zxu (by omega) ((p101bbbbfr k 21 (by omega) (by omega) (by omega)).trans zxe))⟩
      | exact Or.inl ⟨⟨by omega, ((hcn (by omega)).mpr (by omega)), by omega⟩, p24hv, (zxcj (by omega) rfl).trans hf0, (by first | exact zxs (by omega) zxe | exact zxu (by omega) ((p101bbbbfr k 20 (by omega) (by omega) (by omega)).trans (zxs (by omega) zxe))), (by first | exact zxe | exact zxu (by omega) ((p101bbbbfr k 21 (by omega) (by omega) (by omega)).trans zxe))⟩
    · intro h8
      first
      | (exfalso; omega)
      | (intro h9
         first
         | (exfalso; omega)
         | exact ⟨(zxu (by omega) p101hk1).trans (by omega), zxe, zxu (by omega) p101bhks, fun w hw => zxu (by omega) (p101bbhk5 w hw), fun w hw => (p101bbbhkL w hw).trans (by rw [p24hv])⟩))
