/-! xh -/
def T_V_put : ZT := fun args I L R S Q => ∃ (k : Nat) (w : List CuR) (h : Nat → Int) (m : Nat) (b : Int) (kd : Int) (a : Int) (i : Nat) (d : Int), args = [zvr k, zvi b, zvi a, zvi d] ∧ (zSh S) ∧ (zRs R) ∧ (zDy zT14 zF14 k R S) ∧ (zCk k w I L) ∧ (cuG w) ∧ ((0 ≤ kd ∧ kd ≤ 4) ∧ b = cuRk kd) ∧ (a = i ∧ i < w.length) ∧ (-1 ≤ d ∧ d < 60) ∧ (I k 17 = m) ∧ (m ≤ 1999) ∧ (cuStr m h) ∧ (∀ j : Nat, j < m → cuWf w (h j)) ∧ (∀ j : Nat, j < m → h j ≠ cuCd w kd i d) ∧ (∀ j : Nat, j < m → zFe (k + 13) j (h j) I) ∧ ∀ (I' : ZI), (I' k 17 = m + 1) → (∀ j : Nat, j < m + 1 → zFe (k + 13) j (cuIn h m (cuCd w kd i d) j) I') → (∀ c j : Nat, ¬ (c = k ∧ j = 17) → ¬ c = k + 13 → I' c j = I c j) → Q none I' L R S
theorem sn_V_put : ZSnd 3 14 27 T_V_put := ZSnd.loops (zT14_27 2) (by
  rintro args I L R S Q hz ⟨k, w, h, m, b, kd, a, i, d, rfl, hS, hR, hd, hCk, hG, hkd, hi, hdd, hm, hm2, hst, hws, hne, hes, hQ⟩
  have hk5 := hd.1
  obtain ⟨hc0, hcl, hck⟩ := id hCk
  have hbr : 0 ≤ b ∧ b ≤ 5 := by have z := cuRk_r kd hkd.1; omega
  refine ⟨[6], fun nM tM lsM stM I1 L1 R1 S1 => match tM with
      | 6 => ∃ (q : Nat), nM = (q, 0, 0) ∧ lsM = [some (zvr (k)), some (zvi (b)), some (zvi (a)), some (zvi (d)), some (zvi (q)), none] ∧ stM = [] ∧ L1 = L ∧ R1 = R ∧ S1 = S ∧ (q ≤ m) ∧ (I1 k 17 = m) ∧ (∀ j : Nat, j < q → zFe (k + 13) j (h j) I1) ∧ (∀ j : Nat, q < j → j ≤ m → zFe (k + 13) j (h (j - 1)) I1) ∧ (∀ j : Nat, q ≤ j → j < m → cuCd w kd i d < h j) ∧ (∀ c j : Nat, ¬ c = k + 13 → I1 c j = I c j)
      | _ => False, rfl, ?_, ⟨?_, True.intro⟩⟩
  · refine And.intro (zDX hd 0 rfl) (zrd (v := m) hm ?_)
    refine ⟨(m, 0, 0), [some (zvr (k)), some (zvi (b)), some (zvi (a)), some (zvi (d)), some (zvi (m)), none], ⟨rfl, rfl, rfl, rfl, rfl, rfl⟩, m, rfl, rfl, rfl, rfl, rfl, rfl, (Nat.le_refl _), hm, hes, (fun j h1 h2 => absurd h2 (by omega)), (fun j h1 h2 => absurd h2 (by omega)), (fun c j h0 => rfl)⟩
  · rintro nM lsM stM I1 L1 R1 S1 hz1 ⟨q, rfl, rfl, rfl, rfl, rfl, rfl, hq, hm1, hA, hB, hC, fr⟩
    refine And.intro (by omega) ⟨fun h8 => ?_, fun h8 => ?_⟩
    · refine And.intro (zDX hd 0 rfl) (zrdR (v := some (k + 13)) (zDR hd 12 rfl) ?_)
      refine And.intro ⟨(by show 40 ≤ _; omega), (zDP hd 13 rfl rfl (by omega) (by omega))⟩ ⟨_, (zWi (by omega)), ?_⟩
      refine And.intro (zDX hd 0 rfl) (zrdR (v := some (k + 13)) (zDR hd 12 rfl) ?_)
      refine And.intro ⟨(by show 40 ≤ _; omega), (zDP hd 13 rfl rfl (by omega) (by omega))⟩ ⟨_, (zWi (by omega)), ?_⟩
      refine And.intro (zDX hd 0 rfl) (zrdR (v := some (k + 13)) (zDR hd 12 rfl) ?_)
      refine And.intro ⟨(by show 40 ≤ _; omega), (zDP hd 13 rfl rfl (by omega) (by omega))⟩ ⟨_, (zWi (by omega)), ?_⟩
      refine And.intro (zDX hd 0 rfl) (zrd (v := m) (zxu (by omega) (zxu (by omega) (zxu (by omega) hm1))) ?_)
      refine And.intro (zDX hd 0 rfl) ⟨_, (zWi (by omega)), ?_⟩
      refine hQ _ zxe ?_ (fun c j h0 h1 => (zxcj h0 (zxu h1 (zxu h1 (zxu h1 ((fr c j h1).trans rfl))))))
      · have hl : q = 0 ∨ h (q - 1) < cuCd w kd i d := by
          first
          | exact Or.inl (by omega)
          | (right
             have z0 := hne (q - 1) (by omega)
             rcases p19hv with z | z
             · omega
             · omega)
        obtain ⟨a1, a2, a3⟩ := cuIn_q hst hq hC hl
        intro j hj
        rcases Nat.lt_trichotomy j q with p | p | p
        · rw [a1 j p]
          exact zFe_fr (hA j p) (fun x _ _ => zxu (by omega) (zxs (by omega) (zxs (by omega) (zxs (by omega) rfl))))
        · rw [p, a2]
          exact zFe_c hG hi.2 hcl hkd.1 hdd (zxu (by omega) (zxs (by omega) (zxs (by omega) (zxe' (by omega) |>.trans hkd.2)))) (zxu (by omega) (zxs (by omega) (zxe' (by omega) |>.trans hi.1))) (zxu (by omega) (zxe' (by omega)))
        · rw [a3 j p (by omega)]
          exact zFe_fr (hB j p (by omega)) (fun x _ _ => zxu (by omega) (zxs (by omega) (zxs (by omega) (zxs (by omega) rfl))))
    · refine And.intro (zDX hd 0 rfl) ⟨_, sn_V_bhd.up (by decide), ?_⟩
      refine ⟨_, w, ((q - 1) : Int), (q - 1), (h (q - 1)), (b : Int), kd, (a : Int), i, (d : Int), rfl, hS, hR, hd, (by first | exact (zCk_fr hCk (fun c j h => ((fr c j (by omega)).trans rfl)) (fun c j h => rfl)) | (clear hQ; grind [xu])), (by first | exact hG | (clear hQ; grind [xu])), (by omega), (hws (q - 1) (by omega)), (hA (q - 1) (by omega)), (by first | exact hkd | (clear hQ; grind [xu])), (by omega), (by omega), ?_⟩
      intro v19o p19hv
      refine And.intro (by omega) ⟨fun h22 => ?_, fun h22 => ?_⟩
      · refine And.intro (zDX hd 0 rfl) (zrdR (v := some (k + 13)) (zDR hd 12 rfl) ?_)
        refine And.intro ⟨(by show 40 ≤ _; omega), (zDP hd 13 rfl rfl (by omega) (by omega))⟩ ⟨_, (zWi (by omega)), ?_⟩
        refine And.intro (zDX hd 0 rfl) (zrdR (v := some (k + 13)) (zDR hd 12 rfl) ?_)
        refine And.intro ⟨(by show 40 ≤ _; omega), (zDP hd 13 rfl rfl (by omega) (by omega))⟩ ⟨_, (zWi (by omega)), ?_⟩
        refine And.intro (zDX hd 0 rfl) (zrdR (v := some (k + 13)) (zDR hd 12 rfl) ?_)
        refine And.intro ⟨(by show 40 ≤ _; omega), (zDP hd 13 rfl rfl (by omega) (by omega))⟩ ⟨_, (zWi (by omega)), ?_⟩
        refine And.intro (zDX hd 0 rfl) (zrd (v := m) (zxu (by omega) (zxu (by omega) (zxu (by omega) hm1))) ?_)
        refine And.intro (zDX hd 0 rfl) ⟨_, (zWi (by omega)), ?_⟩
        refine hQ _ zxe ?_ (fun c j h0 h1 => (zxcj h0 (zxu h1 (zxu h1 (zxu h1 ((fr c j h1).trans rfl))))))
        · have hl : q = 0 ∨ h (q - 1) < cuCd w kd i d := by
            first
            | exact Or.inl (by omega)
            | (right
               have z0 := hne (q - 1) (by omega)
               rcases p19hv with z | z
               · omega
               · omega)
          obtain ⟨a1, a2, a3⟩ := cuIn_q hst hq hC hl
          intro j hj
          rcases Nat.lt_trichotomy j q with p | p | p
          · rw [a1 j p]
            exact zFe_fr (hA j p) (fun x _ _ => zxu (by omega) (zxs (by omega) (zxs (by omega) (zxs (by omega) rfl))))
          · rw [p, a2]
            exact zFe_c hG hi.2 hcl hkd.1 hdd (zxu (by omega) (zxs (by omega) (zxs (by omega) (zxe' (by omega) |>.trans hkd.2)))) (zxu (by omega) (zxs (by omega) (zxe' (by omega) |>.trans hi.1))) (zxu (by omega) (zxe' (by omega)))
          · rw [a3 j p (by omega)]
            exact zFe_fr (hB j p (by omega)) (fun x _ _ => zxu (by omega) (zxs (by omega) (zxs (by omega) (zxs (by omega) rfl))))
      · refine And.intro ⟨(zRb rfl), (zRb rfl)⟩ (zbf rfl ?_)
        refine And.intro (zDX hd 0 rfl) (zrdR (v := some (k + 13)) (zDR hd 12 rfl) ?_)
        refine And.intro (zDX hd 0 rfl) (zrdR (v := some (k + 13)) (zDR hd 12 rfl) ?_)
        refine And.intro (zDP hd 13 rfl rfl (by omega) (by omega)) (fun v58 e58 r58 => ?_)
        refine And.intro ⟨(by show 40 ≤ _; omega), (zDP hd 13 rfl rfl (by omega) (by omega))⟩ ⟨_, (zWi r58), ?_⟩
        refine And.intro ⟨(zRb rfl), (zRb rfl)⟩ (zbf rfl ?_)
        refine And.intro (zDX hd 0 rfl) (zrdR (v := some (k + 13)) (zDR hd 12 rfl) ?_)
        refine And.intro (zDX hd 0 rfl) (zrdR (v := some (k + 13)) (zDR hd 12 rfl) ?_)
        refine And.intro (zDP hd 13 rfl rfl (by omega) (by omega)) (fun v58b e58b r58b => ?_)
        refine And.intro ⟨(by show 40 ≤ _; omega), (zDP hd 13 rfl rfl (by omega) (by omega))⟩ ⟨_, (zWi r58b), ?_⟩
        refine And.intro ⟨(zRb rfl), (zRb rfl)⟩ (zbf rfl ?_)
        refine And.intro (zDX hd 0 rfl) (zrdR (v := some (k + 13)) (zDR hd 12 rfl) ?_)
        refine And.intro (zDX hd 0 rfl) (zrdR (v := some (k + 13)) (zDR hd 12 rfl) ?_)
        refine And.intro (zDP hd 13 rfl rfl (by omega) (by omega)) (fun v58bb e58bb r58bb => ?_)
        refine And.intro ⟨(by show 40 ≤ _; omega), (zDP hd 13 rfl rfl (by omega) (by omega))⟩ ⟨_, (zWi r58bb), ?_⟩
        refine And.intro ⟨(zRb rfl), (zRb rfl)⟩ (zbt rfl ?_)
        refine ⟨(((q - 1) : Nat), 0, 0), zlt6 (by omega), [some (zvr (k)), some (zvi (b)), some (zvi (a)), some (zvi (d)), some (zvi (((q - 1) : Nat))), none], ⟨rfl, rfl, rfl, rfl, (congrArg (fun z => some (zvi z)) (by omega)), rfl⟩, (q - 1), rfl, rfl, rfl, rfl, rfl, rfl, (by omega), (zxu (by omega) (zxu (by omega) (zxu (by omega) hm1))), (fun j hj => zFe_fr (hA j (by omega)) (fun x _ _ => zxs (by omega) (zxs (by omega) (zxs (by omega) rfl)))), ?_, ?_, (fun c j h0 => (zxu h0 (zxu h0 (zxu h0 ((fr c j h0).trans rfl)))))⟩
        · intro j h1 h2
          by_cases e : j = q
          · subst e
            have z := hA (j - 1) (by omega)
            refine ⟨?_, ?_, ?_⟩
            · exact zxs (by omega) (zxs (by omega) (zxe' (by omega) |>.trans (e58.trans ((congrArg (I1 (k + 13)) (by omega)).trans z.1))))
            · exact zxs (by omega) (zxe' (by omega) |>.trans (e58b.trans (zxs (by omega) ((congrArg (I1 (k + 13)) (by omega)).trans z.2.1))))
            · exact zxe' (by omega) |>.trans (e58bb.trans (zxs (by omega) (zxs (by omega) ((congrArg (I1 (k + 13)) (by omega)).trans z.2.2))))
          · exact zFe_fr (hB j (by omega) (by omega)) (fun x _ _ => zxs (by omega) (zxs (by omega) (zxs (by omega) rfl)))
        · intro j h1 h2
          by_cases e : j = q - 1
          · rw [e]
            rcases p19hv with z | z
            · exact z.2
            · omega
          · exact hC j (by omega) h2)
