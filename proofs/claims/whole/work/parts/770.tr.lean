/-! tr_ -/
def T_G_fgt : ZT := fun args I L R S Q => args = [zvr 234] ∧ (zSh S) ∧ (zRs R) ∧ ∀ (I' : ZI) (L' : ZI), (zFg I' L') → (∀ c j : Nat, ¬ (c = 234 ∧ j = 36) → ¬ (c = 234 ∧ j = 38) → ¬ (c = 234 ∧ j = 40) → ¬ (c = 234 ∧ j = 42) → ¬ (c = 234 ∧ j = 44) → ¬ (c = 234 ∧ j = 45) → ¬ (c = 234 ∧ j = 46) → ¬ (c = 234 ∧ j = 47) → ¬ (c = 234 ∧ j = 48) → I' c j = I c j) → (∀ c j : Nat, ¬ c = 253 → ¬ (c = 234 ∧ j = 35) → L' c j = L c j) → (I' 234 42 = 0) → Q none I' L' R S
theorem sn_G_fgt : ZSnd 1 12 18 T_G_fgt := ZSnd.loops (zT12_18 0) (by
  rintro args I L R S Q hz ⟨rfl, hS, hR, hQ⟩
  refine ⟨[2], fun nM tM lsM stM I1 L1 R1 S1 => match tM with
      | 2 => ∃ (v : Nat), nM = ((27 - v), 0, 0) ∧ lsM = [some (zvr (234)), some (zvi (v))] ∧ stM = [] ∧ I1 = I ∧ R1 = R ∧ S1 = S ∧ (v ≤ 26) ∧ (∀ q : Nat, q < v → L1 253 q = 0) ∧ (∀ c j : Nat, ¬ c = 253 → L1 c j = L c j)
      | _ => False, rfl, ?_, ⟨?_, True.intro⟩⟩
  · refine ⟨((27 - (0 : Nat)), 0, 0), [some (zvr (234)), some (zvi ((0 : Nat)))], ⟨rfl, rfl, rfl⟩, 0, rfl, rfl, rfl, rfl, rfl, rfl, (by omega), (fun q h => absurd h (Nat.not_lt_zero q)), (fun c j h0 => rfl)⟩
  · rintro nM lsM stM I1 L1 R1 S1 hz1 ⟨v, rfl, rfl, rfl, rfl, rfl, rfl, hv, hvv, frL⟩
    refine And.intro ⟨(by omega), (zRb rfl)⟩ ⟨fun h5 => ?_, fun h5 => ?_⟩
    · refine And.intro (zA_234 hS) ⟨_, zW6i (zRL rfl), ?_⟩
      refine And.intro (zA_234 hS) ⟨_, (zWi (zRb rfl)), ?_⟩
      refine And.intro (zA_234 hS) ⟨_, (zWi (zRb rfl)), ?_⟩
      refine And.intro (zA_234 hS) ⟨_, (zWi (zRb rfl)), ?_⟩
      refine And.intro (zA_234 hS) ⟨_, (zWi (zRb rfl)), ?_⟩
      refine And.intro ⟨(zA_234 hS), (Or.inl rfl)⟩ ?_
      refine And.intro (zA_234 hS) ⟨_, (zWi (zRb rfl)), ?_⟩
      refine And.intro (zA_234 hS) ⟨_, (zWi (zRb rfl)), ?_⟩
      refine And.intro (zA_234 hS) ⟨_, (zWi (zRb rfl)), ?_⟩
      refine And.intro (zA_234 hS) ⟨_, (zWi (zRb rfl)), ?_⟩
      refine hQ _ _ ⟨fun q hq => zxu (by omega) (hvv q (by omega)), zxe, (by first | exact zxe | exact zxs (by omega) zxe | exact zxs (by omega) (zxs (by omega) zxe) | exact zxs (by omega) (zxs (by omega) (zxs (by omega) zxe)) | exact zxs (by omega) (zxs (by omega) (zxs (by omega) (zxs (by omega) zxe))) | exact zxs (by omega) (zxs (by omega) (zxs (by omega) (zxs (by omega) (zxs (by omega) zxe)))) | exact zxs (by omega) (zxs (by omega) (zxs (by omega) (zxs (by omega) (zxs (by omega) (zxs (by omega) zxe))))) | exact zxs (by omega) (zxs (by omega) (zxs (by omega) (zxs (by omega) (zxs (by omega) (zxs (by omega) (zxs (by omega) zxe)))))) | exact zxs (by omega) (zxs (by omega) (zxs (by omega) (zxs (by omega) (zxs (by omega) (zxs (by omega) (zxs (by omega) (zxs (by omega) zxe)))))))), (by first | exact zxe | exact zxs (by omega) zxe | exact zxs (by omega) (zxs (by omega) zxe) | exact zxs (by omega) (zxs (by omega) (zxs (by omega) zxe)) | exact zxs (by omega) (zxs (by omega) (zxs (by omega) (zxs (by omega) zxe))) | exact zxs (by omega) (zxs (by omega) (zxs (by omega) (zxs (by omega) (zxs (by omega) zxe)))) | exact zxs (by omega) (zxs (by omega) (zxs (by omega) (zxs (by omega) (zxs (by omega) (zxs (by omega) zxe))))) | exact zxs (by omega) (zxs (by omega) (zxs (by omega) (zxs (by omega) (zxs (by omega) (zxs (by omega) (zxs (by omega) zxe)))))) | exact zxs (by omega) (zxs (by omega) (zxs (by omega) (zxs (by omega) (zxs (by omega) (zxs (by omega) (zxs (by omega) (zxs (by omega) zxe)))))))), (by first | exact zxe | exact zxs (by omega) zxe | exact zxs (by omega) (zxs (by omega) zxe) | exact zxs (by omega) (zxs (by omega) (zxs (by omega) zxe)) | exact zxs (by omega) (zxs (by omega) (zxs (by omega) (zxs (by omega) zxe))) | exact zxs (by omega) (zxs (by omega) (zxs (by omega) (zxs (by omega) (zxs (by omega) zxe)))) | exact zxs (by omega) (zxs (by omega) (zxs (by omega) (zxs (by omega) (zxs (by omega) (zxs (by omega) zxe))))) | exact zxs (by omega) (zxs (by omega) (zxs (by omega) (zxs (by omega) (zxs (by omega) (zxs (by omega) (zxs (by omega) zxe)))))) | exact zxs (by omega) (zxs (by omega) (zxs (by omega) (zxs (by omega) (zxs (by omega) (zxs (by omega) (zxs (by omega) (zxs (by omega) zxe)))))))), (by first | exact zxe | exact zxs (by omega) zxe | exact zxs (by omega) (zxs (by omega) zxe) | exact zxs (by omega) (zxs (by omega) (zxs (by omega) zxe)) | exact zxs (by omega) (zxs (by omega) (zxs (by omega) (zxs (by omega) zxe))) | exact zxs (by omega) (zxs (by omega) (zxs (by omega) (zxs (by omega) (zxs (by omega) zxe)))) | exact zxs (by omega) (zxs (by omega) (zxs (by omega) (zxs (by omega) (zxs (by omega) (zxs (by omega) zxe))))) | exact zxs (by omega) (zxs (by omega) (zxs (by omega) (zxs (by omega) (zxs (by omega) (zxs (by omega) (zxs (by omega) zxe)))))) | exact zxs (by omega) (zxs (by omega) (zxs (by omega) (zxs (by omega) (zxs (by omega) (zxs (by omega) (zxs (by omega) (zxs (by omega) zxe)))))))), (by first | exact zxe | exact zxs (by omega) zxe | exact zxs (by omega) (zxs (by omega) zxe) | exact zxs (by omega) (zxs (by omega) (zxs (by omega) zxe)) | exact zxs (by omega) (zxs (by omega) (zxs (by omega) (zxs (by omega) zxe))) | exact zxs (by omega) (zxs (by omega) (zxs (by omega) (zxs (by omega) (zxs (by omega) zxe)))) | exact zxs (by omega) (zxs (by omega) (zxs (by omega) (zxs (by omega) (zxs (by omega) (zxs (by omega) zxe))))) | exact zxs (by omega) (zxs (by omega) (zxs (by omega) (zxs (by omega) (zxs (by omega) (zxs (by omega) (zxs (by omega) zxe)))))) | exact zxs (by omega) (zxs (by omega) (zxs (by omega) (zxs (by omega) (zxs (by omega) (zxs (by omega) (zxs (by omega) (zxs (by omega) zxe))))))))⟩ (fun c j h0 h1 h2 h3 h4 h5 h6 h7 h8 => (zxcj h8 (zxcj h7 (zxcj h6 (zxcj h5 (zxcj h4 (zxcj h3 (zxcj h2 (zxcj h1 (zxcj h0 rfl)))))))))) (fun c j h0 h1 => (zxcj h1 ((frL c j h0).trans rfl))) (show _ = (0 : Int) from rfl)
    · refine And.intro (zA_234 hS) (zrdR (v := some 253) (zR_234_33 hR) ?_)
      refine And.intro ⟨(zx0 rfl), (zP_253 hS (by omega) (by omega))⟩ ⟨_, zW6i (zRL rfl), ?_⟩
      refine ⟨((27 - (v + 1)), 0, 0), zlt6 (by omega), [some (zvr (234)), some (zvi ((v + 1)))], ⟨rfl, rfl, rfl⟩, (v + 1), rfl, rfl, rfl, rfl, rfl, rfl, (by omega), ?_, (fun c j h0 => (zxu h0 ((frL c j h0).trans rfl)))⟩
      · intro q hq
        by_cases e9 : q = v
        · rw [e9]; exact zxe' (by omega)
        · exact zxs (by omega) (hvv q (by omega)))
def T_G_rea : ZT := fun args I L R S Q => ∃ (gn : Nat) (g : Nat) (N : Nat) (c : Nat → Int), args = [zvr 234] ∧ (zSh S) ∧ (zRs R) ∧ (zTx N c I) ∧ (I 234 3 = gn) ∧ (gn + g = 1) ∧ ∀ (x : RdT) (v : Int) (I' : ZI) (L' : ZI), (itR (rdS c N) rdX0 x) → (rdEn N x) → (rdI N x) → ((x.1 = 0 ∧ v = -1 - (x.2.1 : Nat) ∧ I' 234 3 = gn ∧ (∀ j : Nat, 28 ≤ j → I' 234 j = I 234 j) ∧ L' = L) ∨ (x.1 = 1 ∧ v = (x.2.2.2.2.1 : Nat) ∧ I' 234 3 = g ∧ zPg g x I' ∧ zFg I' L')) → (I' 234 1 = 0) → (∀ c j : Nat, ¬ (c = 234 ∧ j = 0) → ¬ (c = 234 ∧ j = 1) → ¬ (c = 234 ∧ j = 3) → ¬ (c = 234 ∧ j = 15) → ¬ (c = 234 ∧ j = 16) → ¬ (c = 234 ∧ j = 17) → ¬ (c = 234 ∧ j = 18) → ¬ (c = 234 ∧ j = 19) → ¬ (c = 234 ∧ j = 20) → ¬ (c = 234 ∧ j = 21) → ¬ (c = 234 ∧ j = 25) → ¬ (c = 234 ∧ j = 27) → ¬ (c = 238 ∧ 600 * g ≤ j ∧ j < 600 * g + 600) → ¬ (c = 239 ∧ 600 * g ≤ j ∧ j < 600 * g + 600) → ¬ (c = 240 ∧ 600 * g ≤ j ∧ j < 600 * g + 600) → ¬ (c = 241 ∧ 600 * g ≤ j ∧ j < 600 * g + 600) → ¬ (c = 242 ∧ 600 * g ≤ j ∧ j < 600 * g + 600) → ¬ (c = 243 ∧ 600 * g ≤ j ∧ j < 600 * g + 600) → ¬ (c = 244 ∧ 26 * g ≤ j ∧ j < 26 * g + 26) → ¬ (c = 245 ∧ 1000 * g ≤ j ∧ j < 1000 * g + 1000) → ¬ (c = 246 ∧ 1000 * g ≤ j ∧ j < 1000 * g + 1000) → ¬ c = 247 → ¬ c = 248 → ¬ c = 250 → ¬ (c = 234 ∧ j = 36) → ¬ (c = 234 ∧ j = 38) → ¬ (c = 234 ∧ j = 40) → ¬ (c = 234 ∧ j = 42) → ¬ (c = 234 ∧ j = 44) → ¬ (c = 234 ∧ j = 45) → ¬ (c = 234 ∧ j = 46) → ¬ (c = 234 ∧ j = 47) → ¬ (c = 234 ∧ j = 48) → ¬ c = 236 → ¬ c = 237 → I' c j = I c j) → (∀ c j : Nat, ¬ c = 253 → ¬ (c = 234 ∧ j = 35) → L' c j = L c j) → Q (some (zvi (v))) I' L' R S
set_option maxHeartbeats 4000000 in
theorem sn_G_rea : ZSnd 8 12 39 T_G_rea := ZSnd.loops (zT12_39 7) (by
  rintro args I L R S Q hz ⟨gn, g, N, c, rfl, hS, hR, hT, h3, hg, hQ⟩
  obtain ⟨hT1, hT2, hT3⟩ := id hT
  have hn4 := hT2.1
  refine ⟨[47, 74, 100, 207], fun nM tM lsM stM I1 L1 R1 S1 => match tM with
      | 47 => ∃ (f : Nat), nM = (5, (30 - f), 0) ∧ lsM = [some (zvr (234)), some (zvi (f)), none] ∧ stM = [] ∧ L1 = L ∧ R1 = R ∧ S1 = S ∧ (f ≤ 26) ∧ (I1 234 15 = g) ∧ (I1 234 16 = 0) ∧ (I1 234 17 = -1) ∧ (I1 234 18 = 0) ∧ (I1 234 19 = 0) ∧ (I1 234 20 = 0) ∧ (I1 234 21 = 0) ∧ (∀ q : Nat, q < f → I1 244 (26 * g + q) = -1) ∧ (∀ c j : Nat, ¬ (c = 234 ∧ j = 0) → ¬ (c = 234 ∧ j = 15) → ¬ (c = 234 ∧ j = 16) → ¬ (c = 234 ∧ j = 17) → ¬ (c = 234 ∧ j = 18) → ¬ (c = 234 ∧ j = 19) → ¬ (c = 234 ∧ j = 20) → ¬ (c = 234 ∧ j = 21) → ¬ (c = 234 ∧ j = 25) → ¬ (c = 234 ∧ j = 27) → ¬ (c = 238 ∧ 600 * g ≤ j ∧ j < 600 * g + 600) → ¬ (c = 239 ∧ 600 * g ≤ j ∧ j < 600 * g + 600) → ¬ (c = 240 ∧ 600 * g ≤ j ∧ j < 600 * g + 600) → ¬ (c = 241 ∧ 600 * g ≤ j ∧ j < 600 * g + 600) → ¬ (c = 242 ∧ 600 * g ≤ j ∧ j < 600 * g + 600) → ¬ (c = 243 ∧ 600 * g ≤ j ∧ j < 600 * g + 600) → ¬ (c = 244 ∧ 26 * g ≤ j ∧ j < 26 * g + 26) → ¬ (c = 245 ∧ 1000 * g ≤ j ∧ j < 1000 * g + 1000) → ¬ (c = 246 ∧ 1000 * g ≤ j ∧ j < 1000 * g + 1000) → ¬ c = 247 → ¬ c = 248 → ¬ c = 250 → I1 c j = I c j)
      | 74 => ∃ (x : RdT), nM = (4, (rdMe N x), (rdTh N x)) ∧ lsM = [some (zvr (234)), none, none] ∧ stM = [] ∧ L1 = L ∧ R1 = R ∧ S1 = S ∧ (itR (rdS c N) rdX0 x) ∧ (rdI N x) ∧ (zRd g x I1) ∧ (I1 234 15 = g) ∧ (∀ c j : Nat, ¬ (c = 234 ∧ j = 0) → ¬ (c = 234 ∧ j = 15) → ¬ (c = 234 ∧ j = 16) → ¬ (c = 234 ∧ j = 17) → ¬ (c = 234 ∧ j = 18) → ¬ (c = 234 ∧ j = 19) → ¬ (c = 234 ∧ j = 20) → ¬ (c = 234 ∧ j = 21) → ¬ (c = 234 ∧ j = 25) → ¬ (c = 234 ∧ j = 27) → ¬ (c = 238 ∧ 600 * g ≤ j ∧ j < 600 * g + 600) → ¬ (c = 239 ∧ 600 * g ≤ j ∧ j < 600 * g + 600) → ¬ (c = 240 ∧ 600 * g ≤ j ∧ j < 600 * g + 600) → ¬ (c = 241 ∧ 600 * g ≤ j ∧ j < 600 * g + 600) → ¬ (c = 242 ∧ 600 * g ≤ j ∧ j < 600 * g + 600) → ¬ (c = 243 ∧ 600 * g ≤ j ∧ j < 600 * g + 600) → ¬ (c = 244 ∧ 26 * g ≤ j ∧ j < 26 * g + 26) → ¬ (c = 245 ∧ 1000 * g ≤ j ∧ j < 1000 * g + 1000) → ¬ (c = 246 ∧ 1000 * g ≤ j ∧ j < 1000 * g + 1000) → ¬ c = 247 → ¬ c = 248 → ¬ c = 250 → I1 c j = I c j)
      | 100 => ∃ (x : RdT), nM = (4, (rdMe N x), 1) ∧ lsM = [some (zvr (234)), none, none] ∧ stM = [] ∧ L1 = L ∧ R1 = R ∧ S1 = S ∧ (itR (rdS c N) rdX0 x) ∧ (rdI N x) ∧ (zRd g x I1) ∧ (x.1 = 1) ∧ (I1 234 15 = g) ∧ (∀ c j : Nat, ¬ (c = 234 ∧ j = 0) → ¬ (c = 234 ∧ j = 15) → ¬ (c = 234 ∧ j = 16) → ¬ (c = 234 ∧ j = 17) → ¬ (c = 234 ∧ j = 18) → ¬ (c = 234 ∧ j = 19) → ¬ (c = 234 ∧ j = 20) → ¬ (c = 234 ∧ j = 21) → ¬ (c = 234 ∧ j = 25) → ¬ (c = 234 ∧ j = 27) → ¬ (c = 238 ∧ 600 * g ≤ j ∧ j < 600 * g + 600) → ¬ (c = 239 ∧ 600 * g ≤ j ∧ j < 600 * g + 600) → ¬ (c = 240 ∧ 600 * g ≤ j ∧ j < 600 * g + 600) → ¬ (c = 241 ∧ 600 * g ≤ j ∧ j < 600 * g + 600) → ¬ (c = 242 ∧ 600 * g ≤ j ∧ j < 600 * g + 600) → ¬ (c = 243 ∧ 600 * g ≤ j ∧ j < 600 * g + 600) → ¬ (c = 244 ∧ 26 * g ≤ j ∧ j < 26 * g + 26) → ¬ (c = 245 ∧ 1000 * g ≤ j ∧ j < 1000 * g + 1000) → ¬ (c = 246 ∧ 1000 * g ≤ j ∧ j < 1000 * g + 1000) → ¬ c = 247 → ¬ c = 248 → ¬ c = 250 → I1 c j = I c j)
      | 207 => ∃ (x : RdT) (i : Nat), nM = (3, (401 - i), 0) ∧ lsM = [some (zvr (234)), some (zvi (N)), some (zvi (i))] ∧ stM = [] ∧ L1 = L ∧ R1 = R ∧ S1 = S ∧ (i ≤ N) ∧ (itR (rdS c N) rdX0 x) ∧ (rdI N x) ∧ (x.1 = 1) ∧ (rdEn N x) ∧ (I1 234 15 = g) ∧ (I1 234 1 = 0) ∧ (I1 234 20 = x.2.2.2.2.1) ∧ (zPg g x I1) ∧ (∀ c j : Nat, ¬ (c = 234 ∧ j = 0) → ¬ (c = 234 ∧ j = 15) → ¬ (c = 234 ∧ j = 16) → ¬ (c = 234 ∧ j = 17) → ¬ (c = 234 ∧ j = 18) → ¬ (c = 234 ∧ j = 19) → ¬ (c = 234 ∧ j = 20) → ¬ (c = 234 ∧ j = 21) → ¬ (c = 234 ∧ j = 25) → ¬ (c = 234 ∧ j = 27) → ¬ (c = 238 ∧ 600 * g ≤ j ∧ j < 600 * g + 600) → ¬ (c = 239 ∧ 600 * g ≤ j ∧ j < 600 * g + 600) → ¬ (c = 240 ∧ 600 * g ≤ j ∧ j < 600 * g + 600) → ¬ (c = 241 ∧ 600 * g ≤ j ∧ j < 600 * g + 600) → ¬ (c = 242 ∧ 600 * g ≤ j ∧ j < 600 * g + 600) → ¬ (c = 243 ∧ 600 * g ≤ j ∧ j < 600 * g + 600) → ¬ (c = 244 ∧ 26 * g ≤ j ∧ j < 26 * g + 26) → ¬ (c = 245 ∧ 1000 * g ≤ j ∧ j < 1000 * g + 1000) → ¬ (c = 246 ∧ 1000 * g ≤ j ∧ j < 1000 * g + 1000) → ¬ c = 247 → ¬ c = 248 → ¬ c = 250 → ¬ (c = 234 ∧ j = 1) → ¬ c = 237 → I1 c j = I c j)
      | _ => False, rfl, ?_, ⟨?_, ?_, ?_, ?_, True.intro⟩⟩
  · refine And.intro (zA_234 hS) ⟨_, (zWi (zRb rfl)), ?_⟩
    refine And.intro (zA_234 hS) (zrd (v := gn) h3 ?_)
    refine And.intro (zA_234 hS) ⟨_, (zWi (by omega)), ?_⟩
    refine And.intro (zA_234 hS) ⟨_, (zWi (zRb rfl)), ?_⟩
    refine And.intro (zA_234 hS) ⟨_, (zWi (zRb rfl)), ?_⟩
    refine And.intro (zA_234 hS) ⟨_, (zWi (zRb rfl)), ?_⟩
    refine And.intro (zA_234 hS) ⟨_, (zWi (zRb rfl)), ?_⟩
    refine And.intro (zA_234 hS) ⟨_, (zWi (zRb rfl)), ?_⟩
    refine And.intro (zA_234 hS) ⟨_, (zWi (zRb rfl)), ?_⟩
    refine ⟨(5, (30 - (0 : Nat)), 0), [some (zvr (234)), some (zvi ((0 : Nat))), none], ⟨rfl, rfl, rfl⟩, 0, rfl, rfl, rfl, rfl, rfl, rfl, (by omega), ((show _ = ((1 - gn) : Int) from rfl).trans (by omega)), rfl, (Eq.trans (b := ((-1) : Int)) rfl (by omega)), rfl, rfl, rfl, rfl, (fun q h => absurd h (Nat.not_lt_zero q)), (fun c j h0 h1 h2 h3 h4 h5 h6 h7 h8 h9 h10 h11 h12 h13 h14 h15 h16 h17 h18 h19 h20 h21 => (zxcj h7 (zxcj h6 (zxcj h5 (zxcj h4 (zxcj h3 (zxcj h2 (zxcj h1 (zxcj h0 rfl)))))))))⟩
  · rintro nM lsM stM I1 L1 R1 S1 hz1 ⟨f, rfl, rfl, rfl, rfl, rfl, rfl, hf, h15_, g16, g17, g18, g19, g20, g21, hfq, fr⟩
    refine And.intro ⟨(by omega), (zRb rfl)⟩ ⟨fun h50 => ?_, fun h50 => ?_⟩
    · refine ⟨(4, (rdMe N rdX0), (rdTh N rdX0)), zlt6 (by omega), [some (zvr (234)), none, none], ⟨rfl, rfl⟩, rdX0, rfl, rfl, rfl, rfl, rfl, rfl, itR_r, (rdI_1 (Nat.zero_le N) (by decide) (by show 0 + 0 ≤ 3 * 0; decide) (by omega) (by decide) True.intro), (show zRd g (1, 0, 0, 0, 0, [], (fun _ => (0, 0, 0, [], [], 0)), (fun _ => -1)) I1 from zRd_G g16 g17 g18 g19 g20 (g21.trans rfl) True.intro (fun i hi => absurd hi (Nat.not_lt_zero i)) (fun q hq => hfq q (by omega))), h15_, (fun c j h0 h1 h2 h3 h4 h5 h6 h7 h8 h9 h10 h11 h12 h13 h14 h15 h16 h17 h18 h19 h20 h21 => ((fr c j h0 h1 h2 h3 h4 h5 h6 h7 h8 h9 h10 h11 h12 h13 h14 h15 h16 h17 h18 h19 h20 h21).trans rfl))⟩
    · refine And.intro (zA_234 hS) (zrdR (v := some 244) (zR_234_12 hR) ?_)
      refine And.intro (zA_234 hS) (zrd (v := g) h15_ ?_)
      refine And.intro ⟨(zx0 rfl), (zP_244 hS (by omega) (by omega))⟩ ⟨_, (zWi (zRb rfl)), ?_⟩
      refine ⟨(5, (30 - (f + 1)), 0), zlt6 (by omega), [some (zvr (234)), some (zvi ((f + 1))), none], ⟨rfl, rfl, rfl⟩, (f + 1), rfl, rfl, rfl, rfl, rfl, rfl, (by omega), h15_, g16, (Eq.trans (b := ((-1) : Int)) g17 (by omega)), g18, g19, g20, g21, ?_, (fun c j h0 h1 h2 h3 h4 h5 h6 h7 h8 h9 h10 h11 h12 h13 h14 h15 h16 h17 h18 h19 h20 h21 => (zxcj (by omega) ((fr c j h0 h1 h2 h3 h4 h5 h6 h7 h8 h9 h10 h11 h12 h13 h14 h15 h16 h17 h18 h19 h20 h21).trans rfl)))⟩
      · intro q hq
        by_cases e9 : q = f
        · rw [e9]; exact zxe' (by omega)
        · exact zxs (by omega) (hfq q (by omega))
  · rintro nM lsM stM I1 L1 R1 S1 hz1 ⟨x, rfl, rfl, rfl, rfl, rfl, rfl, hit, hI, hx, h15_, fr⟩
    have hT_1 : zTx N c I1 := zTx_fr hT (fun c j h => fr c j (by omega) (by omega) (by omega) (by omega) (by omega) (by omega) (by omega) (by omega) (by omega) (by omega) (by omega) (by omega) (by omega) (by omega) (by omega) (by omega) (by omega) (by omega) (by omega) (by omega) (by omega) (by omega) )
    have hb7 := hT2.2.2 x.2.1
    have hI1 := hI.1
    have hI2 := hI.2.1
    have hu1 : I1 234 1 = N := hT_1.1
    have hn3 : I1 234 3 = gn := (fr 234 3 (by omega) (by omega) (by omega) (by omega) (by omega) (by omega) (by omega) (by omega) (by omega) (by omega) (by omega) (by omega) (by omega) (by omega) (by omega) (by omega) (by omega) (by omega) (by omega) (by omega) (by omega) (by omega) ).trans h3
    rcases hx with hx | hx
    · refine And.intro (zA_234 hS) (zrd (v := (-1)) hx.2.1.2.1 ?_)
      refine And.intro ⟨(zRb rfl), (zRb rfl)⟩ (zbf rfl ?_)
      refine And.intro (zA_234 hS) (zrd (v := (x.2.1)) hx.2.1.1 ?_)
      refine And.intro (zA_234 hS) (zrd (v := N) hu1 ?_)
      refine And.intro ⟨(by omega), (by omega)⟩ ⟨fun h90 => ?_, fun h90 => ?_⟩
      · have t90 : rdTh N x = 2 ∧ ¬ rdEn N x := (rdTh_2 hx.1 (Or.inl (by omega)))
        refine ⟨(4, (rdMe N x), 1), zlt6 (by omega), [some (zvr (234)), none, none], ⟨rfl, rfl⟩, x, rfl, rfl, rfl, rfl, rfl, rfl, hit, hI, (Or.inl hx), hx.1, h15_, (fun c j h0 h1 h2 h3 h4 h5 h6 h7 h8 h9 h10 h11 h12 h13 h14 h15 h16 h17 h18 h19 h20 h21 => ((fr c j h0 h1 h2 h3 h4 h5 h6 h7 h8 h9 h10 h11 h12 h13 h14 h15 h16 h17 h18 h19 h20 h21).trans rfl))⟩
      · have t90 : x.2.2.2.2.2.1.length ≤ 2 := (by have y := hI.2.2 hx.1; omega)
        have t90b : x.2.2.1 ≤ 300 := (by have y := hI.2.2 hx.1; omega)
        refine And.intro (zA_234 hS) (zrd (v := (x.2.2.2.2.2.1.length)) hx.2.1.2.2.2.2.2 ?_)
        refine And.intro (by omega) ⟨fun h97 => ?_, fun h97 => ?_⟩
        · refine And.intro (zA_234 hS) (zrd (v := N) hu1 ?_)
          refine And.intro (zA_234 hS) ⟨_, (zWi (zRb rfl)), ?_⟩
          refine And.intro (zA_234 hS) (zrd (v := (-1)) hx.2.1.2.1 ?_)
          refine And.intro ⟨(zRb rfl), (zRb rfl)⟩ (zbt rfl ?_)
          refine And.intro (zA_234 hS) ⟨_, sn_G_ord.up (by decide), ?_⟩
          refine ⟨g, x.2.2.1, (20 : Int), (0 : Int), rfl, hS, hR, h15_, (by omega), hx.2.1.2.2.1, (by omega), (by omega), (by omega), ?_⟩
          intro I201o p201q0 p201bq1 p201bbq2 p201bbbq3 p201bbbbxt p201bbbbbfr
          refine ⟨(3, (401 - (0 : Nat)), 0), zlt6 (by omega), [some (zvr (234)), some (zvi (N)), some (zvi ((0 : Nat)))], ⟨rfl, rfl, rfl, rfl⟩, x, 0, rfl, rfl, rfl, rfl, rfl, rfl, (by omega), hit, hI, hx.1, (rdEn_1 hx.1 (by omega) (by omega)), ((p201bbbbbfr 234 15 (by omega) (by omega) (by omega) (by omega) (by omega) (by omega) (by omega)).trans h15_), ((p201bbbbbfr 234 1 (by omega) (by omega) (by omega) (by omega) (by omega) (by omega) (by omega)).trans rfl), (Eq.trans (b := ((x.2.2.2.2.1) : Int)) ((p201bbbbbfr 234 20 (by omega) (by omega) (by omega) (by omega) (by omega) (by omega) (by omega)).trans hx.2.1.2.2.2.2.1) (by omega)), ⟨p201q0, orA_fr hx.2.2.2.1 (Nat.le_refl _) (fun c j h1 h2 h3 => ((p201bbbbbfr c j (by omega) (by omega) (by omega) (by omega) (by omega) (by omega) (by omega)).trans (zxcj (by omega) rfl))) (fun c j h1 h2 => ((p201bbbbbfr c j (by omega) (by omega) (by omega) (by omega) (by omega) (by omega) (by omega)).trans (zxcj (by omega) rfl))), fun f hf => ((p201bbbbbfr 244 _ (by omega) (by omega) (by omega) (by omega) (by omega) (by omega) (by omega)).trans (zxu (by omega) rfl)).trans (hx.2.2.2.2 f hf)⟩, (fun c j h0 h1 h2 h3 h4 h5 h6 h7 h8 h9 h10 h11 h12 h13 h14 h15 h16 h17 h18 h19 h20 h21 h22 h23 => ((p201bbbbbfr c j (by omega) (by omega) (by omega) (by omega) (by omega) (by omega) h4).trans (zxcj h22 ((fr c j h0 h1 h2 h3 h4 h5 h6 h7 h8 h9 h10 h11 h12 h13 h14 h15 h16 h17 h18 h19 h20 h21).trans rfl))))⟩
        · have t97 : rdTh N x = 2 ∧ ¬ rdEn N x := (rdTh_2 hx.1 (Or.inr (by omega)))
          refine ⟨(4, (rdMe N x), 1), zlt6 (by omega), [some (zvr (234)), none, none], ⟨rfl, rfl⟩, x, rfl, rfl, rfl, rfl, rfl, rfl, hit, hI, (Or.inl hx), hx.1, h15_, (fun c j h0 h1 h2 h3 h4 h5 h6 h7 h8 h9 h10 h11 h12 h13 h14 h15 h16 h17 h18 h19 h20 h21 => ((fr c j h0 h1 h2 h3 h4 h5 h6 h7 h8 h9 h10 h11 h12 h13 h14 h15 h16 h17 h18 h19 h20 h21).trans rfl))⟩
    · refine And.intro (zA_234 hS) (zrd (v := (x.2.1)) hx.2.1 ?_)
      refine And.intro ⟨(by omega), (zRb rfl)⟩ ⟨fun h79 => ?_, (fun h79 => False.elim (by omega))⟩
      refine And.intro (zA_234 hS) (zrd (v := N) hu1 ?_)
      refine And.intro (zA_234 hS) ⟨_, (zWi (zRb rfl)), ?_⟩
      refine And.intro (zA_234 hS) (zrd (v := (x.2.1)) hx.2.1 ?_)
      refine And.intro ⟨(by omega), (zRb rfl)⟩ ⟨(fun h187 => False.elim (by omega)), fun h187 => ?_⟩
      refine And.intro (zA_234 hS) (zrd (v := (x.2.1)) hx.2.1 ?_)
      refine hQ x _ _ _ hit (Or.inl hx.1) hI (Or.inl ⟨hx.1, rfl, (show _ = (gn : Int) from hn3).trans (by omega), fun j hj => (zxcj (by omega) ((fr 234 _ (by omega) (by omega) (by omega) (by omega) (by omega) (by omega) (by omega) (by omega) (by omega) (by omega) (by omega) (by omega) (by omega) (by omega) (by omega) (by omega) (by omega) (by omega) (by omega) (by omega) (by omega) (by omega)).trans rfl)), rfl⟩) rfl (fun c j h0 h1 h2 h3 h4 h5 h6 h7 h8 h9 h10 h11 h12 h13 h14 h15 h16 h17 h18 h19 h20 h21 h22 h23 h24 h25 h26 h27 h28 h29 h30 h31 h32 h33 h34 => (zxcj h1 ((fr c j h0 h3 h4 h5 h6 h7 h8 h9 h10 h11 h12 h13 h14 h15 h16 h17 h18 h19 h20 h21 h22 h23).trans rfl))) (fun c j h0 h1 => rfl)
  · rintro nM lsM stM I1 L1 R1 S1 hz1 ⟨x, rfl, rfl, rfl, rfl, rfl, rfl, hit, hI, hx, hx1, h15_, fr⟩
    have hT_1 : zTx N c I1 := zTx_fr hT (fun c j h => fr c j (by omega) (by omega) (by omega) (by omega) (by omega) (by omega) (by omega) (by omega) (by omega) (by omega) (by omega) (by omega) (by omega) (by omega) (by omega) (by omega) (by omega) (by omega) (by omega) (by omega) (by omega) (by omega) )
    have hb7 := hT2.2.2 x.2.1
    have hI1 := hI.1
    have hI2 := hI.2.1
    have hu1 : I1 234 1 = N := hT_1.1
    have hn3 : I1 234 3 = gn := (fr 234 3 (by omega) (by omega) (by omega) (by omega) (by omega) (by omega) (by omega) (by omega) (by omega) (by omega) (by omega) (by omega) (by omega) (by omega) (by omega) (by omega) (by omega) (by omega) (by omega) (by omega) (by omega) (by omega) ).trans h3
    obtain ⟨⟨xa, xw, xt, xk, xn, xd⟩, hOs, hOr, hFu⟩ := zRd_2 hx hx1
    obtain ⟨y1, y2, y3, y4, y5⟩ := hI.2.2 hx1
    refine And.intro (zA_234 hS) ⟨_, sn_G_pk.up (by decide), ?_⟩
    refine ⟨N, c, x.2.1, rfl, hS, hR, hT_1, xa, (by omega), ?_⟩
    intro v101o p101hv p101bhv2
    refine And.intro ⟨(by omega), (zRb rfl)⟩ ⟨fun h106 => ?_, fun h106 => ?_⟩
    · refine And.intro (zA_234 hS) (Exists.intro _ (And.intro (zinl_ok (zT12_24 6)) (And.intro rfl ?_)))
      refine And.intro (zA_234 hS) (zrd (v := (x.2.2.2.2.2.1.length)) xd ?_)
      refine And.intro (by omega) ⟨fun h4_123 => ?_, fun h4_123 => ?_⟩
      · refine And.intro (Or.inl rfl) ?_
        refine And.intro (zRb rfl) (zbt rfl ?_)
        refine And.intro (zA_234 hS) (zrd (v := (x.2.1)) xa ?_)
        refine And.intro (zA_234 hS) (zrd (v := N) hu1 ?_)
        refine And.intro ⟨(by omega), (by omega)⟩ ⟨fun h144 => ?_, fun h144 => ?_⟩
        · refine And.intro (zA_234 hS) (zrd (v := (x.2.2.2.2.2.1.length)) xd ?_)
          refine And.intro (by omega) ⟨fun h158 => ?_, (fun h158 => False.elim (by omega))⟩
          have t158 : rdEn N x := (rdEn_1 hx1 (by omega) (by omega))
          refine ⟨(4, (rdMe N (rdS c N x)), (rdTh N (rdS c N x))), (zlt6 (by rw [rdS_f hT2 t158, rdTh_0 t158]; omega)), [some (zvr (234)), none, none], ⟨rfl, rfl⟩, (rdS c N x), rfl, rfl, rfl, rfl, rfl, rfl, (itR_t hit (itR_1 rfl)), (rdS_I hT2 hI).1, (by rw [rdS_f hT2 t158]; exact hx), h15_, (fun c j h0 h1 h2 h3 h4 h5 h6 h7 h8 h9 h10 h11 h12 h13 h14 h15 h16 h17 h18 h19 h20 h21 => ((fr c j h0 h1 h2 h3 h4 h5 h6 h7 h8 h9 h10 h11 h12 h13 h14 h15 h16 h17 h18 h19 h20 h21).trans rfl))⟩
        · refine And.intro (zA_234 hS) ⟨_, sn_G_sta.up (by decide), ?_⟩
          refine ⟨g, N, c, x.2.1, x.2.2.1, x.2.2.2.1, x.2.2.2.2.1, x.2.2.2.2.2.1, x.2.2.2.2.2.2.1, x.2.2.2.2.2.2.2, rfl, hS, hR, (zTx_fr hT_1 (fun c j h => rfl)), h15_, (by omega), (rd_et hx hx1), (by omega), (by omega), ?_⟩
          intro I148o p148hR p148bfr
          refine ⟨(4, (rdMe N (rdS c N x)), (rdTh N (rdS c N x))), (zlt2 ((rdS_I hT2 hI).2 (rdTh_2 hx1 (by omega)).2)), [some (zvr (234)), none, none], ⟨rfl, rfl⟩, (rdS c N x), rfl, rfl, rfl, rfl, rfl, rfl, (itR_t hit (itR_1 rfl)), (rdS_I hT2 hI).1, (zRd_x (rd_st hx1 (by omega) (by first | exact Or.inl (by omega) | exact Or.inr (by first | (rw [if_pos (by omega)]; omega) | (rw [if_neg (by omega)]; omega))) (by omega)).symm p148hR), ((p148bfr 234 15 (by omega) (by omega) (by omega) (by omega) (by omega) (by omega) (by omega) (by omega) (by omega) (by omega) (by omega) (by omega) (by omega) (by omega) (by omega) (by omega) (by omega) (by omega) (by omega) (by omega)).trans h15_), (fun c j h0 h1 h2 h3 h4 h5 h6 h7 h8 h9 h10 h11 h12 h13 h14 h15 h16 h17 h18 h19 h20 h21 => ((p148bfr c j h2 h3 h4 h5 h6 h7 h8 h9 h10 h11 h12 h13 h14 h15 h16 h17 h18 h19 h20 h21).trans ((fr c j h0 h1 h2 h3 h4 h5 h6 h7 h8 h9 h10 h11 h12 h13 h14 h15 h16 h17 h18 h19 h20 h21).trans rfl)))⟩
      · refine And.intro (zA_234 hS) ⟨_, sn_G_pk.up (by decide), ?_⟩
        refine ⟨N, c, x.2.1, rfl, hS, hR, hT_1, xa, (by omega), ?_⟩
        intro v8_123o p8_123hv p8_123bhv2
        refine And.intro (zA_234 hS) (zrdR (v := some 247) (zR_234_22 hR) ?_)
        refine And.intro (zA_234 hS) (zrd (v := (x.2.2.2.2.2.1.length)) xd ?_)
        refine And.intro (zP_247 hS (by omega) (by omega)) (fun v21_123 e21_123 r21_123 => ?_)
        have f21_123 : v21_123 = (x.2.2.2.2.2.1.getD 0 (0, 0)).1 := (e21_123.trans ((congrArg (I1 247) (by omega)).trans (zOs_h hOs (by omega)).1))
        refine And.intro ⟨r21_123, (zRb rfl)⟩ ⟨fun h23_123 => ?_, fun h23_123 => ?_⟩
        · refine And.intro ⟨(by omega), (zRb rfl)⟩ ⟨fun h33_123 => ?_, fun h33_123 => ?_⟩
          · refine And.intro (Or.inl rfl) ?_
            refine And.intro (zRb rfl) (zbt rfl ?_)
            refine And.intro (zA_234 hS) (zrd (v := (x.2.1)) xa ?_)
            refine And.intro (zA_234 hS) (zrd (v := N) hu1 ?_)
            refine And.intro ⟨(by omega), (by omega)⟩ ⟨fun h144 => ?_, fun h144 => ?_⟩
            · refine And.intro (zA_234 hS) (zrd (v := (x.2.2.2.2.2.1.length)) xd ?_)
              refine And.intro (by omega) ⟨(fun h158 => False.elim (by omega)), fun h158 => ?_⟩
              refine And.intro (zA_234 hS) (zrd (v := (x.2.1)) xa ?_)
              refine And.intro (zA_234 hS) ⟨_, (zWi (by omega)), ?_⟩
              refine ⟨(4, (rdMe N (rdS c N x)), (rdTh N (rdS c N x))), (zlt2 ((rdS_I hT2 hI).2 (rdTh_2 hx1 (by omega)).2)), [some (zvr (234)), none, none], ⟨rfl, rfl⟩, (rdS c N x), rfl, rfl, rfl, rfl, rfl, rfl, (itR_t hit (itR_1 rfl)), (rdS_I hT2 hI).1, (zRd_x (rd_sw hx1 (by omega) (by omega) (by first | (rw [if_pos (by omega)]; omega) | (rw [if_neg (by omega)]; omega)) (by omega)).symm (show zRd g (0, x.2.1, x.2.2) _ from zRd_K (zxe.trans (by omega)) (zxs (by omega) xa) (by omega))), h15_, (fun c j h0 h1 h2 h3 h4 h5 h6 h7 h8 h9 h10 h11 h12 h13 h14 h15 h16 h17 h18 h19 h20 h21 => (zxcj h3 ((fr c j h0 h1 h2 h3 h4 h5 h6 h7 h8 h9 h10 h11 h12 h13 h14 h15 h16 h17 h18 h19 h20 h21).trans rfl)))⟩
            · refine And.intro (zA_234 hS) ⟨_, sn_G_sta.up (by decide), ?_⟩
              refine ⟨g, N, c, x.2.1, x.2.2.1, x.2.2.2.1, x.2.2.2.2.1, x.2.2.2.2.2.1, x.2.2.2.2.2.2.1, x.2.2.2.2.2.2.2, rfl, hS, hR, (zTx_fr hT_1 (fun c j h => rfl)), h15_, (by omega), (rd_et hx hx1), (by omega), (by omega), ?_⟩
              intro I148o p148hR p148bfr
              refine ⟨(4, (rdMe N (rdS c N x)), (rdTh N (rdS c N x))), (zlt2 ((rdS_I hT2 hI).2 (rdTh_2 hx1 (by omega)).2)), [some (zvr (234)), none, none], ⟨rfl, rfl⟩, (rdS c N x), rfl, rfl, rfl, rfl, rfl, rfl, (itR_t hit (itR_1 rfl)), (rdS_I hT2 hI).1, (zRd_x (rd_st hx1 (by omega) (by first | exact Or.inl (by omega) | exact Or.inr (by first | (rw [if_pos (by omega)]; omega) | (rw [if_neg (by omega)]; omega))) (by omega)).symm p148hR), ((p148bfr 234 15 (by omega) (by omega) (by omega) (by omega) (by omega) (by omega) (by omega) (by omega) (by omega) (by omega) (by omega) (by omega) (by omega) (by omega) (by omega) (by omega) (by omega) (by omega) (by omega) (by omega)).trans h15_), (fun c j h0 h1 h2 h3 h4 h5 h6 h7 h8 h9 h10 h11 h12 h13 h14 h15 h16 h17 h18 h19 h20 h21 => ((p148bfr c j h2 h3 h4 h5 h6 h7 h8 h9 h10 h11 h12 h13 h14 h15 h16 h17 h18 h19 h20 h21).trans ((fr c j h0 h1 h2 h3 h4 h5 h6 h7 h8 h9 h10 h11 h12 h13 h14 h15 h16 h17 h18 h19 h20 h21).trans rfl)))⟩
          · refine And.intro (Or.inr rfl) ?_
            refine And.intro (zRb rfl) (zbf rfl ?_)
            refine And.intro (zA_234 hS) ⟨_, sn_G_clo.up (by decide), ?_⟩
            refine ⟨g, N, c, x.2.1, x.2.2.1, x.2.2.2.1, x.2.2.2.2.1, (x.2.2.2.2.2.1.drop 1), x.2.2.2.2.2.2.1, x.2.2.2.2.2.2.2, (x.2.2.2.2.2.1.getD 0 (0, 0)).1, (x.2.2.2.2.2.1.getD 0 (0, 0)).2, rfl, hS, hR, (zTx_fr hT_1 (fun c j h => rfl)), h15_, (by omega), (rd_cs hx hx1 (by omega)), (eTx_lt hT2 (by omega)), (by rw [List.length_drop]; omega), (opG_h y5 (by omega)).1, (opG_h y5 (by omega)).2, ?_⟩
            intro I130o p130hR p130bfr
            refine ⟨(4, (rdMe N (rdS c N x)), (rdTh N (rdS c N x))), (zlt2 ((rdS_I hT2 hI).2 (rdTh_2 hx1 (by omega)).2)), [some (zvr (234)), none, none], ⟨rfl, rfl⟩, (rdS c N x), rfl, rfl, rfl, rfl, rfl, rfl, (itR_t hit (itR_1 rfl)), (rdS_I hT2 hI).1, (zRd_x (rd_sc hx1 (by omega) (by omega) (by first | (rw [if_pos (by omega)]; omega) | (rw [if_neg (by omega)]; omega))).symm p130hR), ((p130bfr 234 15 (by omega) (by omega) (by omega) (by omega) (by omega) (by omega) (by omega) (by omega) (by omega) (by omega) (by omega) (by omega) (by omega) (by omega) (by omega) (by omega) (by omega) (by omega) (by omega) (by omega)).trans h15_), (fun c j h0 h1 h2 h3 h4 h5 h6 h7 h8 h9 h10 h11 h12 h13 h14 h15 h16 h17 h18 h19 h20 h21 => ((p130bfr c j h2 h3 h4 h5 h6 h7 h8 h9 h10 h11 h12 h13 h14 h15 h16 h17 h18 h19 h20 h21).trans ((fr c j h0 h1 h2 h3 h4 h5 h6 h7 h8 h9 h10 h11 h12 h13 h14 h15 h16 h17 h18 h19 h20 h21).trans rfl)))⟩
        · refine And.intro ⟨(by omega), (zRb rfl)⟩ ⟨fun h33_123 => ?_, fun h33_123 => ?_⟩
          · refine And.intro (Or.inl rfl) ?_
            refine And.intro (zRb rfl) (zbt rfl ?_)
            refine And.intro (zA_234 hS) (zrd (v := (x.2.1)) xa ?_)
            refine And.intro (zA_234 hS) (zrd (v := N) hu1 ?_)
            refine And.intro ⟨(by omega), (by omega)⟩ ⟨fun h144 => ?_, fun h144 => ?_⟩
            · refine And.intro (zA_234 hS) (zrd (v := (x.2.2.2.2.2.1.length)) xd ?_)
              refine And.intro (by omega) ⟨(fun h158 => False.elim (by omega)), fun h158 => ?_⟩
              refine And.intro (zA_234 hS) (zrd (v := (x.2.1)) xa ?_)
              refine And.intro (zA_234 hS) ⟨_, (zWi (by omega)), ?_⟩
              refine ⟨(4, (rdMe N (rdS c N x)), (rdTh N (rdS c N x))), (zlt2 ((rdS_I hT2 hI).2 (rdTh_2 hx1 (by omega)).2)), [some (zvr (234)), none, none], ⟨rfl, rfl⟩, (rdS c N x), rfl, rfl, rfl, rfl, rfl, rfl, (itR_t hit (itR_1 rfl)), (rdS_I hT2 hI).1, (zRd_x (rd_sw hx1 (by omega) (by omega) (by first | (rw [if_pos (by omega)]; omega) | (rw [if_neg (by omega)]; omega)) (by omega)).symm (show zRd g (0, x.2.1, x.2.2) _ from zRd_K (zxe.trans (by omega)) (zxs (by omega) xa) (by omega))), h15_, (fun c j h0 h1 h2 h3 h4 h5 h6 h7 h8 h9 h10 h11 h12 h13 h14 h15 h16 h17 h18 h19 h20 h21 => (zxcj h3 ((fr c j h0 h1 h2 h3 h4 h5 h6 h7 h8 h9 h10 h11 h12 h13 h14 h15 h16 h17 h18 h19 h20 h21).trans rfl)))⟩
            · refine And.intro (zA_234 hS) ⟨_, sn_G_sta.up (by decide), ?_⟩
              refine ⟨g, N, c, x.2.1, x.2.2.1, x.2.2.2.1, x.2.2.2.2.1, x.2.2.2.2.2.1, x.2.2.2.2.2.2.1, x.2.2.2.2.2.2.2, rfl, hS, hR, (zTx_fr hT_1 (fun c j h => rfl)), h15_, (by omega), (rd_et hx hx1), (by omega), (by omega), ?_⟩
              intro I148o p148hR p148bfr
              refine ⟨(4, (rdMe N (rdS c N x)), (rdTh N (rdS c N x))), (zlt2 ((rdS_I hT2 hI).2 (rdTh_2 hx1 (by omega)).2)), [some (zvr (234)), none, none], ⟨rfl, rfl⟩, (rdS c N x), rfl, rfl, rfl, rfl, rfl, rfl, (itR_t hit (itR_1 rfl)), (rdS_I hT2 hI).1, (zRd_x (rd_st hx1 (by omega) (by first | exact Or.inl (by omega) | exact Or.inr (by first | (rw [if_pos (by omega)]; omega) | (rw [if_neg (by omega)]; omega))) (by omega)).symm p148hR), ((p148bfr 234 15 (by omega) (by omega) (by omega) (by omega) (by omega) (by omega) (by omega) (by omega) (by omega) (by omega) (by omega) (by omega) (by omega) (by omega) (by omega) (by omega) (by omega) (by omega) (by omega) (by omega)).trans h15_), (fun c j h0 h1 h2 h3 h4 h5 h6 h7 h8 h9 h10 h11 h12 h13 h14 h15 h16 h17 h18 h19 h20 h21 => ((p148bfr c j h2 h3 h4 h5 h6 h7 h8 h9 h10 h11 h12 h13 h14 h15 h16 h17 h18 h19 h20 h21).trans ((fr c j h0 h1 h2 h3 h4 h5 h6 h7 h8 h9 h10 h11 h12 h13 h14 h15 h16 h17 h18 h19 h20 h21).trans rfl)))⟩
          · refine And.intro (Or.inr rfl) ?_
            refine And.intro (zRb rfl) (zbf rfl ?_)
            refine And.intro (zA_234 hS) ⟨_, sn_G_clo.up (by decide), ?_⟩
            refine ⟨g, N, c, x.2.1, x.2.2.1, x.2.2.2.1, x.2.2.2.2.1, (x.2.2.2.2.2.1.drop 1), x.2.2.2.2.2.2.1, x.2.2.2.2.2.2.2, (x.2.2.2.2.2.1.getD 0 (0, 0)).1, (x.2.2.2.2.2.1.getD 0 (0, 0)).2, rfl, hS, hR, (zTx_fr hT_1 (fun c j h => rfl)), h15_, (by omega), (rd_cs hx hx1 (by omega)), (eTx_lt hT2 (by omega)), (by rw [List.length_drop]; omega), (opG_h y5 (by omega)).1, (opG_h y5 (by omega)).2, ?_⟩
            intro I130o p130hR p130bfr
            refine ⟨(4, (rdMe N (rdS c N x)), (rdTh N (rdS c N x))), (zlt2 ((rdS_I hT2 hI).2 (rdTh_2 hx1 (by omega)).2)), [some (zvr (234)), none, none], ⟨rfl, rfl⟩, (rdS c N x), rfl, rfl, rfl, rfl, rfl, rfl, (itR_t hit (itR_1 rfl)), (rdS_I hT2 hI).1, (zRd_x (rd_sc hx1 (by omega) (by omega) (by first | (rw [if_pos (by omega)]; omega) | (rw [if_neg (by omega)]; omega))).symm p130hR), ((p130bfr 234 15 (by omega) (by omega) (by omega) (by omega) (by omega) (by omega) (by omega) (by omega) (by omega) (by omega) (by omega) (by omega) (by omega) (by omega) (by omega) (by omega) (by omega) (by omega) (by omega) (by omega)).trans h15_), (fun c j h0 h1 h2 h3 h4 h5 h6 h7 h8 h9 h10 h11 h12 h13 h14 h15 h16 h17 h18 h19 h20 h21 => ((p130bfr c j h2 h3 h4 h5 h6 h7 h8 h9 h10 h11 h12 h13 h14 h15 h16 h17 h18 h19 h20 h21).trans ((fr c j h0 h1 h2 h3 h4 h5 h6 h7 h8 h9 h10 h11 h12 h13 h14 h15 h16 h17 h18 h19 h20 h21).trans rfl)))⟩
    · refine And.intro (zA_234 hS) (zrd (v := (x.2.1)) xa ?_)
      refine And.intro (zA_234 hS) ⟨_, (zWi (by omega)), ?_⟩
      refine ⟨(4, (rdMe N (rdS c N x)), 1), (zlt2 ((rdS_I hT2 hI).2 (rdTh_2 hx1 (Or.inl (eTx_lt hT2 (by omega)))).2)), [some (zvr (234)), none, none], ⟨rfl, rfl⟩, (rdS c N x), rfl, rfl, rfl, rfl, rfl, rfl, (itR_t hit (itR_1 rfl)), (rdS_I hT2 hI).1, (by rw [rdS_n hx1 (by omega)]; exact zRd_G ((show _ = (((x.2.1) + 1) : Int) from rfl).trans (by omega)) ((show _ = ((-1) : Int) from xw).trans (by omega)) ((show _ = ((x.2.2.1) : Int) from xt).trans (by omega)) ((show _ = ((x.2.2.2.1) : Int) from xk).trans (by omega)) ((show _ = ((x.2.2.2.2.1) : Int) from xn).trans (by omega)) ((show _ = ((x.2.2.2.2.2.1.length) : Int) from xd).trans (by omega)) (zOs_fr hOs (fun c j h1 h2 => (zxcj (by omega) rfl))) (orA_fr hOr (Nat.le_refl _) (fun c j h1 h2 h3 => (zxcj (by omega) rfl)) (fun c j h1 h2 => (zxcj (by omega) rfl))) (fun f hf => zxu (by omega) (hFu f hf))), (by rw [rdS_n hx1 (by omega)]), h15_, (fun c j h0 h1 h2 h3 h4 h5 h6 h7 h8 h9 h10 h11 h12 h13 h14 h15 h16 h17 h18 h19 h20 h21 => (zxcj h2 ((fr c j h0 h1 h2 h3 h4 h5 h6 h7 h8 h9 h10 h11 h12 h13 h14 h15 h16 h17 h18 h19 h20 h21).trans rfl)))⟩
  · rintro nM lsM stM I1 L1 R1 S1 hz1 ⟨x, i, rfl, rfl, rfl, rfl, rfl, rfl, hi, hit, hI, hx1, hend, h15_, h1_, hn20, hP, fr⟩
    have hI1 := hI.1
    have hI2 := hI.2.1
    have hT_1 : ∀ p : Nat, p < N → I1 235 p = c p := fun p hp => (fr 235 p (by omega) (by omega) (by omega) (by omega) (by omega) (by omega) (by omega) (by omega) (by omega) (by omega) (by omega) (by omega) (by omega) (by omega) (by omega) (by omega) (by omega) (by omega) (by omega) (by omega) (by omega) (by omega) (by omega) (by omega) ).trans (hT3 p hp)
    refine And.intro ⟨(by omega), (by omega)⟩ ⟨fun h209 => ?_, fun h209 => ?_⟩
    · refine And.intro (zA_234 hS) (zrdR (v := some 236) (zR_234_4 hR) ?_)
      refine And.intro (zA_234 hS) (zrd (v := g) h15_ ?_)
      refine And.intro ⟨(zx0 rfl), (zP_236 hS (by omega) (by omega))⟩ ⟨_, (zWi (by omega)), ?_⟩
      refine And.intro (zA_234 hS) (zrd (v := g) h15_ ?_)
      refine And.intro (zA_234 hS) ⟨_, (zWi (by omega)), ?_⟩
      refine And.intro (zA_234 hS) ⟨_, sn_G_fgt.up (by decide), ?_⟩
      refine ⟨rfl, hS, hR, ?_⟩
      intro I258o L258o p258hF p258bfr p258bbfrL p258bbbh42
      refine And.intro (zA_234 hS) (zrd (v := (x.2.2.2.2.1)) ((p258bfr 234 20 (by omega) (by omega) (by omega) (by omega) (by omega) (by omega) (by omega) (by omega) (by omega)).trans hn20) ?_)
      refine hQ x _ _ _ hit hend hI (Or.inr ⟨hx1, rfl, (show _ = (g : Int) from ((p258bfr 234 3 (by omega) (by omega) (by omega) (by omega) (by omega) (by omega) (by omega) (by omega) (by omega)).trans rfl)).trans (by omega), zPg_fr hP (fun c j h1 h2 => ((p258bfr c j (by omega) (by omega) (by omega) (by omega) (by omega) (by omega) (by omega) (by omega) (by omega)).trans (zxcj (by omega) (zxcj (by omega) rfl)))), p258hF⟩) ((p258bfr 234 1 (by omega) (by omega) (by omega) (by omega) (by omega) (by omega) (by omega) (by omega) (by omega)).trans h1_) (fun c j h0 h1 h2 h3 h4 h5 h6 h7 h8 h9 h10 h11 h12 h13 h14 h15 h16 h17 h18 h19 h20 h21 h22 h23 h24 h25 h26 h27 h28 h29 h30 h31 h32 h33 h34 => ((p258bfr c j h24 h25 h26 h27 h28 h29 h30 h31 h32).trans (zxcj h2 (zxu h33 ((fr c j h0 h3 h4 h5 h6 h7 h8 h9 h10 h11 h12 h13 h14 h15 h16 h17 h18 h19 h20 h21 h22 h23 h1 h34).trans rfl))))) (fun c j h0 h1 => ((p258bbfrL c j h0 h1).trans rfl))
    · refine And.intro (zA_234 hS) (zrdR (v := some 237) (zR_234_5 hR) ?_)
      refine And.intro (zA_234 hS) (zrd (v := g) h15_ ?_)
      refine And.intro (zA_234 hS) (zrdR (v := some 235) (zR_234_2 hR) ?_)
      refine And.intro (zP_235 hS (by omega) (by omega)) (fun v231 e231 r231 => ?_)
      refine And.intro ⟨(zx0 rfl), (zP_237 hS (by omega) (by omega))⟩ ⟨_, (zWi r231), ?_⟩
      refine ⟨(3, (401 - (i + 1)), 0), zlt6 (by omega), [some (zvr (234)), some (zvi (N)), some (zvi ((i + 1)))], ⟨rfl, rfl, rfl, rfl⟩, x, (i + 1), rfl, rfl, rfl, rfl, rfl, rfl, (by omega), hit, hI, hx1, hend, h15_, h1_, (Eq.trans (b := ((x.2.2.2.2.1) : Int)) hn20 (by omega)), (zPg_fr hP (fun c j h1 h2 => zxu (by omega) rfl)), (fun c j h0 h1 h2 h3 h4 h5 h6 h7 h8 h9 h10 h11 h12 h13 h14 h15 h16 h17 h18 h19 h20 h21 h22 h23 => (zxu h23 ((fr c j h0 h1 h2 h3 h4 h5 h6 h7 h8 h9 h10 h11 h12 h13 h14 h15 h16 h17 h18 h19 h20 h21 h22 h23).trans rfl)))⟩)
