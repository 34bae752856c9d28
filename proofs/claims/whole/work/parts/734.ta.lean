/-! ta -/
def T_G_str : ZT := fun args I L R S Q => ∃ (u : Int), args = [zvi u] ∧ (zSh S) ∧ (zRs R) ∧ (r32 u) ∧ ∀ (v : Int), (v = sgS u) → (0 ≤ v ∧ v ≤ 3) → Q (some (zvi (v))) I L R S
theorem sn_G_str : ZSnd 1 12 52 T_G_str := ZSnd.of (zT12_52 0) (by
  rintro args I L R S Q hz ⟨u, rfl, hS, hR, hu, hQ⟩
  refine And.intro rfl ?_
  refine And.intro ⟨(by omega), (zRb rfl)⟩ ⟨fun h3 => ?_, fun h3 => ?_⟩
  · refine hQ _ ?_ (by omega)
    · unfold sgS
      first
      | (rw [if_pos (by omega)]; rfl)
      | (rw [if_neg (by omega), if_pos (by omega)]; rfl)
      | (rw [if_neg (by omega), if_neg (by omega), if_pos (by omega)]; rfl)
      | (rw [if_neg (by omega), if_neg (by omega), if_neg (by omega)]; rfl)
  · refine And.intro ⟨(by omega), (zRb rfl)⟩ ⟨fun h9 => ?_, fun h9 => ?_⟩
    · refine hQ _ ?_ (by omega)
      · unfold sgS
        first
        | (rw [if_pos (by omega)]; rfl)
        | (rw [if_neg (by omega), if_pos (by omega)]; rfl)
        | (rw [if_neg (by omega), if_neg (by omega), if_pos (by omega)]; rfl)
        | (rw [if_neg (by omega), if_neg (by omega), if_neg (by omega)]; rfl)
    · refine And.intro ⟨(by omega), (zRb rfl)⟩ ⟨fun h15 => ?_, fun h15 => ?_⟩
      · refine And.intro ⟨(by omega), (zRb rfl)⟩ ⟨fun h23 => ?_, fun h23 => ?_⟩
        · refine hQ _ ?_ (by omega)
          · unfold sgS
            first
            | (rw [if_pos (by omega)]; rfl)
            | (rw [if_neg (by omega), if_pos (by omega)]; rfl)
            | (rw [if_neg (by omega), if_neg (by omega), if_pos (by omega)]; rfl)
            | (rw [if_neg (by omega), if_neg (by omega), if_neg (by omega)]; rfl)
        · refine And.intro ⟨(by omega), (zRb rfl)⟩ ⟨fun h29 => ?_, fun h29 => ?_⟩
          · refine And.intro ⟨(by omega), (zRb rfl)⟩ ⟨fun h37 => ?_, fun h37 => ?_⟩
            · refine hQ _ ?_ (by omega)
              · unfold sgS
                first
                | (rw [if_pos (by omega)]; rfl)
                | (rw [if_neg (by omega), if_pos (by omega)]; rfl)
                | (rw [if_neg (by omega), if_neg (by omega), if_pos (by omega)]; rfl)
                | (rw [if_neg (by omega), if_neg (by omega), if_neg (by omega)]; rfl)
            · refine And.intro ⟨(by omega), (zRb rfl)⟩ ⟨fun h43 => ?_, fun h43 => ?_⟩
              · refine hQ _ ?_ (by omega)
                · unfold sgS
                  first
                  | (rw [if_pos (by omega)]; rfl)
                  | (rw [if_neg (by omega), if_pos (by omega)]; rfl)
                  | (rw [if_neg (by omega), if_neg (by omega), if_pos (by omega)]; rfl)
                  | (rw [if_neg (by omega), if_neg (by omega), if_neg (by omega)]; rfl)
              · refine hQ _ ?_ (by omega)
                · unfold sgS
                  first
                  | (rw [if_pos (by omega)]; rfl)
                  | (rw [if_neg (by omega), if_pos (by omega)]; rfl)
                  | (rw [if_neg (by omega), if_neg (by omega), if_pos (by omega)]; rfl)
                  | (rw [if_neg (by omega), if_neg (by omega), if_neg (by omega)]; rfl)
          · refine hQ _ ?_ (by omega)
            · unfold sgS
              first
              | (rw [if_pos (by omega)]; rfl)
              | (rw [if_neg (by omega), if_pos (by omega)]; rfl)
              | (rw [if_neg (by omega), if_neg (by omega), if_pos (by omega)]; rfl)
              | (rw [if_neg (by omega), if_neg (by omega), if_neg (by omega)]; rfl)
      · refine hQ _ ?_ (by omega)
        · unfold sgS
          first
          | (rw [if_pos (by omega)]; rfl)
          | (rw [if_neg (by omega), if_pos (by omega)]; rfl)
          | (rw [if_neg (by omega), if_neg (by omega), if_pos (by omega)]; rfl)
          | (rw [if_neg (by omega), if_neg (by omega), if_neg (by omega)]; rfl))
def T_G_pk : ZT := fun args I L R S Q => ∃ (n : Nat) (c : Nat → Int) (p : Nat), args = [zvr 234] ∧ (zSh S) ∧ (zRs R) ∧ (zTx n c I) ∧ (I 234 16 = p) ∧ (p ≤ 1000) ∧ ∀ (v : Int), (v = c p) → (-1 ≤ v ∧ v ≤ 126) → Q (some (zvi (v))) I L R S
theorem sn_G_pk : ZSnd 1 12 36 T_G_pk := ZSnd.of (zT12_36 0) (by
  rintro args I L R S Q hz ⟨n, c, p, rfl, hS, hR, hT, h16, hp, hQ⟩
  obtain ⟨hT1, hT2, hT3⟩ := id hT
  have hn4 := hT2.1
  have hb9 := hT2.2.2 p
  refine And.intro rfl ?_
  refine And.intro (zA_234 hS) (zrd (v := p) h16 ?_)
  refine And.intro (zA_234 hS) (zrd (v := n) hT1 ?_)
  refine And.intro ⟨(by omega), (by omega)⟩ ⟨fun h8 => ?_, fun h8 => ?_⟩
  · refine hQ _ (by first | omega | (have z9 := hT2.2.1 p (by omega); omega)) (by omega)
  · refine And.intro (zA_234 hS) (zrdR (v := some 235) (zR_234_2 hR) ?_)
    refine And.intro (zA_234 hS) (zrd (v := p) h16 ?_)
    refine And.intro (zP_235 hS (by omega) (by omega)) (fun v19 e19 r19 => ?_)
    have f19 : v19 = c p := (e19.trans ((congrArg (I 235) (by omega)).trans (hT3 p (by omega))))
    refine hQ _ (by first | omega | (have z9 := hT2.2.1 p (by omega); omega)) (by omega))
def T_G_cod : ZT := fun args I L R S Q => ∃ (g : Nat) (q : Nat) (K : CdL) (u : Int) (v : Int), args = [zvr 234, zvi u, zvi v] ∧ (zSh S) ∧ (zRs R) ∧ (I 234 15 = g) ∧ (g ≤ 1) ∧ (I 234 19 = q + K.length) ∧ (zCo (1000 * g + q) K I) ∧ (r32 u) ∧ (r32 v) ∧ (q + K.length < 1000) ∧ ∀ (I' : ZI), (I' 234 19 = q + K.length + 1) → (zCo (1000 * g + q) (K ++ [(u, v)]) I') → (∀ c j : Nat, ¬ (c = 234 ∧ j = 19) → ¬ (c = 245 ∧ 1000 * g + q ≤ j ∧ j < 1000 * g + 1000) → ¬ (c = 246 ∧ 1000 * g + q ≤ j ∧ j < 1000 * g + 1000) → I' c j = I c j) → Q none I' L R S
theorem sn_G_cod : ZSnd 1 12 10 T_G_cod := ZSnd.of (zT12_10 0) (by
  rintro args I L R S Q hz ⟨g, q, K, u, v, rfl, hS, hR, h15, hg, h19, hK, hu, hv, hb, hQ⟩
  refine And.intro rfl ?_
  refine And.intro (zA_234 hS) (zrdR (v := some 245) (zR_234_13 hR) ?_)
  refine And.intro (zA_234 hS) (zrd (v := g) h15 ?_)
  refine And.intro (zA_234 hS) (zrd (v := (q + K.length)) h19 ?_)
  refine And.intro ⟨(zx0 rfl), (zP_245 hS (by omega) (by omega))⟩ ⟨_, (zWi (by omega)), ?_⟩
  refine And.intro (zA_234 hS) (zrdR (v := some 246) (zR_234_14 hR) ?_)
  refine And.intro (zA_234 hS) (zrd (v := g) h15 ?_)
  refine And.intro (zA_234 hS) (zrd (v := (q + K.length)) h19 ?_)
  refine And.intro ⟨(zx0 rfl), (zP_246 hS (by omega) (by omega))⟩ ⟨_, (zWi (by omega)), ?_⟩
  refine And.intro (zA_234 hS) (zrd (v := (q + K.length)) h19 ?_)
  refine And.intro (zA_234 hS) ⟨_, (zWi (by omega)), ?_⟩
  refine hQ _ (zxe.trans (by omega)) (zCo_ap hK (fun x j h1 h2 => zxu (by omega) (zxcj (by omega) (zxcj (by omega) rfl))) (zxu (by omega) (zxu (by omega) (zxe' (by omega)))) (zxu (by omega) (zxe' (by omega)))) (fun c j h0 h1 h2 => (zxcj h0 (zxcj (by omega) (zxcj (by omega) rfl)))))
def T_G_exY : ZT := fun args I L R S Q => ∃ (n : Nat) (c : Nat → Int) (p : Nat) (u : Int), args = [zvr 234, zvi u] ∧ (zSh S) ∧ (zRs R) ∧ (zTx n c I) ∧ (I 234 16 = p) ∧ (I 234 17 = -1) ∧ (p ≤ 1000) ∧ (c p = u) ∧ ∀ (I' : ZI), (I' 234 16 = p + 1) → (∀ c j : Nat, ¬ (c = 234 ∧ j = 16) → I' c j = I c j) → Q none I' L R S
theorem sn_G_exY : ZSnd 2 12 16 T_G_exY := ZSnd.of (zT12_16 1) (by
  rintro args I L R S Q hz ⟨n, c, p, u, rfl, hS, hR, hT, h16, h17, hp, hu, hQ⟩
  obtain ⟨hT1, hT2, hT3⟩ := id hT
  have hn4 := hT2.1
  have hb9 := hT2.2.2 p
  refine And.intro rfl ?_
  refine And.intro (zA_234 hS) (zrd (v := (-1)) h17 ?_)
  refine And.intro ⟨(zRb rfl), (zRb rfl)⟩ (zbt rfl ?_)
  refine And.intro (zA_234 hS) ⟨_, sn_G_pk.up (by decide), ?_⟩
  refine ⟨n, c, p, rfl, hS, hR, (by first | exact (zTx_fr hT (fun c j h => rfl)) | (clear hQ; grind [xu])), h16, (by omega), ?_⟩
  intro v10o p10hv p10bhv2
  refine And.intro ⟨(by omega), (by omega)⟩ ⟨(fun h14 => False.elim (by omega)), fun h14 => ?_⟩
  refine And.intro (zA_234 hS) (zrd (v := p) h16 ?_)
  refine And.intro (zA_234 hS) ⟨_, (zWi (by omega)), ?_⟩
  refine hQ _ (zxe.trans (by omega)) (fun c j h0 => (zxcj h0 rfl)))
def T_G_exN : ZT := fun args I L R S Q => ∃ (n : Nat) (c : Nat → Int) (p : Nat) (u : Int), args = [zvr 234, zvi u] ∧ (zSh S) ∧ (zRs R) ∧ (zTx n c I) ∧ (I 234 16 = p) ∧ (I 234 17 = -1) ∧ (p ≤ 1000) ∧ (¬ c p = u) ∧ (r32 u) ∧ ∀ (I' : ZI), (I' 234 17 = p) → (∀ c j : Nat, ¬ (c = 234 ∧ j = 17) → I' c j = I c j) → Q none I' L R S
theorem sn_G_exN : ZSnd 2 12 16 T_G_exN := ZSnd.of (zT12_16 1) (by
  rintro args I L R S Q hz ⟨n, c, p, u, rfl, hS, hR, hT, h16, h17, hp, hu, hur, hQ⟩
  obtain ⟨hT1, hT2, hT3⟩ := id hT
  have hn4 := hT2.1
  have hb9 := hT2.2.2 p
  refine And.intro rfl ?_
  refine And.intro (zA_234 hS) (zrd (v := (-1)) h17 ?_)
  refine And.intro ⟨(zRb rfl), (zRb rfl)⟩ (zbt rfl ?_)
  refine And.intro (zA_234 hS) ⟨_, sn_G_pk.up (by decide), ?_⟩
  refine ⟨n, c, p, rfl, hS, hR, (by first | exact (zTx_fr hT (fun c j h => rfl)) | (clear hQ; grind [xu])), h16, (by omega), ?_⟩
  intro v10o p10hv p10bhv2
  refine And.intro ⟨(by omega), (by omega)⟩ ⟨fun h14 => ?_, fun h14 => ?_⟩
  · refine And.intro (zA_234 hS) (zrd (v := p) h16 ?_)
    refine And.intro (zA_234 hS) ⟨_, (zWi (by omega)), ?_⟩
    refine hQ _ rfl (fun c j h0 => (zxcj h0 rfl))
  · exact False.elim (by omega))
def T_G_exF : ZT := fun args I L R S Q => ∃ (u : Int) (f : Int), args = [zvr 234, zvi u] ∧ (zSh S) ∧ (zRs R) ∧ (I 234 17 = f) ∧ (¬ f = -1) ∧ Q none I L R S
theorem sn_G_exF : ZSnd 2 12 16 T_G_exF := ZSnd.of (zT12_16 1) (by
  rintro args I L R S Q hz ⟨u, f, rfl, hS, hR, h17, hf, hQ⟩
  have hfr : r32 f := by rw [← h17]; exact hz.1 234 17
  refine And.intro rfl ?_
  refine And.intro (zA_234 hS) (zrd (v := f) h17 ?_)
  refine And.intro ⟨(by omega), (zRb rfl)⟩ ⟨fun h5 => ?_, fun h5 => ?_⟩
  · exact False.elim (by omega)
  · refine hQ )
def T_G_hp : ZT := fun args I L R S Q => ∃ (m : Nat) (s : Nat → Int), args = [zvr 234] ∧ (zSh S) ∧ (zRs R) ∧ (I 234 25 = m) ∧ (m ≤ 60) ∧ (∀ i : Nat, i < m → I 250 i = s i) ∧ ∀ (v : Int), (v = hpN s m) → (0 ≤ v ∧ v ≤ 1) → Q (some (zvi (v))) I L R S
theorem sn_G_hp : ZSnd 1 12 21 T_G_hp := ZSnd.loops (zT12_21 0) (by
  rintro args I L R S Q hz ⟨m, s, rfl, hS, hR, h25, hm, hs, hQ⟩
  refine ⟨[4], fun nM tM lsM stM I1 L1 R1 S1 => match tM with
      | 4 => ∃ (k : Nat) (b : Int), nM = ((61 - k), 0, 0) ∧ lsM = [some (zvr (234)), some (zvi (b)), some (zvi (k))] ∧ stM = [] ∧ I1 = I ∧ L1 = L ∧ R1 = R ∧ S1 = S ∧ (k ≤ m) ∧ (b = hpN s k) ∧ (0 ≤ b ∧ b ≤ 1)
      | _ => False, rfl, ?_, ⟨?_, True.intro⟩⟩
  · refine ⟨((61 - (0 : Nat)), 0, 0), [some (zvr (234)), some (zvi ((0 : Int))), some (zvi ((0 : Nat)))], ⟨rfl, rfl, rfl, rfl⟩, 0, 0, rfl, rfl, rfl, rfl, rfl, rfl, rfl, (by omega), rfl, (by omega)⟩
  · rintro nM lsM stM I1 L1 R1 S1 hz1 ⟨k, b, rfl, rfl, rfl, rfl, rfl, rfl, rfl, hk, hb, hb2⟩
    refine And.intro (zA_234 hS) (zrd (v := m) h25 ?_)
    refine And.intro ⟨(by omega), (by omega)⟩ ⟨fun h9 => ?_, fun h9 => ?_⟩
    · refine And.intro (by omega) ?_
      refine hQ _ (by have e9 : k = m := (by omega); rw [← e9]; exact hb) (by omega)
    · refine And.intro (by omega) ⟨fun h13 => ?_, fun h13 => ?_⟩
      · refine ⟨((61 - (k + 1)), 0, 0), zlt6 (by omega), [some (zvr (234)), some (zvi ((1 : Int))), some (zvi ((k + 1)))], ⟨rfl, rfl, rfl, rfl⟩, (k + 1), 1, rfl, rfl, rfl, rfl, rfl, rfl, rfl, (by omega), ?_, (by omega)⟩
        · show (_ : Int) = ((if s k = 40 then 1 else hpN s k : Nat) : Int)
          first
          | (rw [if_pos (by omega)]; rfl)
          | (rw [if_neg (by omega)]; omega)
          | (by_cases e9 : s k = 40
             · rw [if_pos e9]; rfl
             · rw [if_neg e9]; omega)
      · refine And.intro (zA_234 hS) (zrdR (v := some 250) (zR_234_26 hR) ?_)
        refine And.intro (zP_250 hS (by omega) (by omega)) (fun v21 e21 r21 => ?_)
        have f21 : v21 = s k := (e21.trans ((congrArg (I1 250) (by omega)).trans (hs k (by omega))))
        refine And.intro ⟨r21, (zRb rfl)⟩ ⟨fun h24 => ?_, fun h24 => ?_⟩
        · refine ⟨((61 - (k + 1)), 0, 0), zlt6 (by omega), [some (zvr (234)), some (zvi ((0 : Int))), some (zvi ((k + 1)))], ⟨rfl, rfl, rfl, rfl⟩, (k + 1), 0, rfl, rfl, rfl, rfl, rfl, rfl, rfl, (by omega), ?_, (by omega)⟩
          · show (_ : Int) = ((if s k = 40 then 1 else hpN s k : Nat) : Int)
            first
            | (rw [if_pos (by omega)]; rfl)
            | (rw [if_neg (by omega)]; omega)
            | (by_cases e9 : s k = 40
               · rw [if_pos e9]; rfl
               · rw [if_neg e9]; omega)
        · refine ⟨((61 - (k + 1)), 0, 0), zlt6 (by omega), [some (zvr (234)), some (zvi ((1 : Int))), some (zvi ((k + 1)))], ⟨rfl, rfl, rfl, rfl⟩, (k + 1), 1, rfl, rfl, rfl, rfl, rfl, rfl, rfl, (by omega), ?_, (by omega)⟩
          · show (_ : Int) = ((if s k = 40 then 1 else hpN s k : Nat) : Int)
            first
            | (rw [if_pos (by omega)]; rfl)
            | (rw [if_neg (by omega)]; omega)
            | (by_cases e9 : s k = 40
               · rw [if_pos e9]; rfl
               · rw [if_neg e9]; omega))
def T_G_hc : ZT := fun args I L R S Q => ∃ (m : Nat) (s : Nat → Int), args = [zvr 234] ∧ (zSh S) ∧ (zRs R) ∧ (I 234 25 = m) ∧ (m ≤ 60) ∧ (∀ i : Nat, i < m → I 250 i = s i) ∧ ∀ (v : Int), (v = hcN s m) → (0 ≤ v ∧ v ≤ 1) → Q (some (zvi (v))) I L R S
theorem sn_G_hc : ZSnd 2 12 20 T_G_hc := ZSnd.loops (zT12_20 1) (by
  rintro args I L R S Q hz ⟨m, s, rfl, hS, hR, h25, hm, hs, hQ⟩
  refine ⟨[7], fun nM tM lsM stM I1 L1 R1 S1 => match tM with
      | 7 => ∃ (k : Nat), nM = (k, 0, 0) ∧ lsM = [some (zvr (234)), some (zvi (k - 1))] ∧ stM = [] ∧ I1 = I ∧ L1 = L ∧ R1 = R ∧ S1 = S ∧ (k ≤ m) ∧ (hcN s k = hcN s m)
      | _ => False, rfl, ?_, ⟨?_, True.intro⟩⟩
  · refine And.intro (zA_234 hS) (zrd (v := m) h25 ?_)
    refine ⟨(m, 0, 0), [some (zvr (234)), some (zvi (m - 1))], ⟨rfl, rfl, rfl⟩, m, rfl, rfl, rfl, rfl, rfl, rfl, rfl, (by omega), rfl⟩
  · rintro nM lsM stM I1 L1 R1 S1 hz1 ⟨k, rfl, rfl, rfl, rfl, rfl, rfl, rfl, hk, hb⟩
    refine And.intro (by omega) ⟨fun h8 => ?_, fun h8 => ?_⟩
    · refine And.intro (Or.inl rfl) ?_
      refine hQ _ ?_ (by omega)
      · rw [← hb]
        first
        | (have e9 : k = 0 := (by omega)
           rw [e9]; rfl)
        | (obtain ⟨k2, rfl⟩ : ∃ k2, k = k2 + 1 := ⟨k - 1, by omega⟩
           rw [Nat.add_sub_cancel] at f16
           show (_ : Int) = ((if s k2 = 40 then 0 else if sgS (s k2) = 1 then 1 else hcN s k2 : Nat) : Int)
           first
           | (rw [if_pos (by omega)]; rfl)
           | (rw [Nat.add_sub_cancel] at f27
              rw [if_neg (by omega), if_pos (by rw [← f27]; omega)]; rfl))
    · refine And.intro (zA_234 hS) (zrdR (v := some 250) (zR_234_26 hR) ?_)
      refine And.intro (zP_250 hS (by omega) (by omega)) (fun v16 e16 r16 => ?_)
      have f16 : v16 = s (k - 1) := (e16.trans ((congrArg (I1 250) (by omega)).trans (hs (k - 1) (by omega))))
      refine And.intro ⟨r16, (zRb rfl)⟩ ⟨fun h19 => ?_, fun h19 => ?_⟩
      · refine And.intro (Or.inl rfl) ?_
        refine hQ _ ?_ (by omega)
        · rw [← hb]
          first
          | (have e9 : k = 0 := (by omega)
             rw [e9]; rfl)
          | (obtain ⟨k2, rfl⟩ : ∃ k2, k = k2 + 1 := ⟨k - 1, by omega⟩
             rw [Nat.add_sub_cancel] at f16
             show (_ : Int) = ((if s k2 = 40 then 0 else if sgS (s k2) = 1 then 1 else hcN s k2 : Nat) : Int)
             first
             | (rw [if_pos (by omega)]; rfl)
             | (rw [Nat.add_sub_cancel] at f27
                rw [if_neg (by omega), if_pos (by rw [← f27]; omega)]; rfl))
      · refine And.intro (zA_234 hS) (zrdR (v := some 250) (zR_234_26 hR) ?_)
        refine And.intro (zP_250 hS (by omega) (by omega)) (fun v27 e27 r27 => ?_)
        have f27 : v27 = s (k - 1) := (e27.trans ((congrArg (I1 250) (by omega)).trans (hs (k - 1) (by omega))))
        refine ⟨_, sn_G_str.up (by decide), ?_⟩
        refine ⟨(v27 : Int), rfl, hS, hR, (by omega), ?_⟩
        intro v28o p28hv p28bhv2
        refine And.intro ⟨(by omega), (zRb rfl)⟩ ⟨fun h32 => ?_, fun h32 => ?_⟩
        · refine ⟨(((k - 1) : Nat), 0, 0), zlt6 (by omega), [some (zvr (234)), some (zvi (((k - 1) : Nat) - 1))], ⟨rfl, (congrArg (fun z => some (zvi z)) (by omega)), rfl⟩, (k - 1), rfl, rfl, rfl, rfl, rfl, rfl, rfl, (by omega), ?_⟩
          · obtain ⟨k2, rfl⟩ : ∃ k2, k = k2 + 1 := ⟨k - 1, by omega⟩
            rw [← hb]
            refine ((if_neg ?_).trans (if_neg ?_)).symm
            · rw [Nat.add_sub_cancel] at f16; omega
            · rw [Nat.add_sub_cancel] at f27
              rw [← f27]; omega
        · refine And.intro (Or.inr rfl) ?_
          refine hQ _ ?_ (by omega)
          · rw [← hb]
            first
            | (have e9 : k = 0 := (by omega)
               rw [e9]; rfl)
            | (obtain ⟨k2, rfl⟩ : ∃ k2, k = k2 + 1 := ⟨k - 1, by omega⟩
               rw [Nat.add_sub_cancel] at f16
               show (_ : Int) = ((if s k2 = 40 then 0 else if sgS (s k2) = 1 then 1 else hcN s k2 : Nat) : Int)
               first
               | (rw [if_pos (by omega)]; rfl)
               | (rw [Nat.add_sub_cancel] at f27
                  rw [if_neg (by omega), if_pos (by rw [← f27]; omega)]; rfl)))
def T_G_dr : ZT := fun args I L R S Q => ∃ (g : Nat) (q : Nat) (K : CdL) (m : Nat) (s : Nat → Int) (l : Nat) (a : Int), args = [zvr 234, zvi a] ∧ (zSh S) ∧ (zRs R) ∧ (I 234 15 = g) ∧ (g ≤ 1) ∧ (I 234 19 = q + K.length) ∧ (zCo (1000 * g + q) K I) ∧ (I 234 25 = m) ∧ (m ≤ 60) ∧ (∀ i : Nat, i < m → I 250 i = s i) ∧ (q + K.length + m ≤ 990) ∧ (a = l ∧ l ≤ 10) ∧ ∀ (I' : ZI), (I' 234 25 = drM s l m) → (I' 234 19 = q + ((K ++ drK s l m).length : Nat)) → (zCo (1000 * g + q) (K ++ drK s l m) I') → ((K ++ drK s l m).length + drM s l m = K.length + m) → (∀ c j : Nat, ¬ (c = 234 ∧ j = 25) → ¬ (c = 234 ∧ j = 19) → ¬ (c = 245 ∧ 1000 * g + q ≤ j ∧ j < 1000 * g + 1000) → ¬ (c = 246 ∧ 1000 * g + q ≤ j ∧ j < 1000 * g + 1000) → I' c j = I c j) → Q none I' L R S
theorem sn_G_dr : ZSnd 2 12 12 T_G_dr := ZSnd.loops0 (zT12_12 1) (by
  rintro args I L R S Q hz ⟨g, q, K, m, s, l, a, rfl, hS, hR, h15, hg, h19, hK, h25, hm, hs, hb, ha, hQ⟩
  refine ⟨[0], fun nM tM lsM stM I1 L1 R1 S1 => match tM with
      | 0 => ∃ (m1 : Nat) (K1 : CdL), nM = ((m1 + 1), 0, 0) ∧ lsM = [some (zvr (234)), some (zvi (a))] ∧ stM = [] ∧ L1 = L ∧ R1 = R ∧ S1 = S ∧ (I1 234 25 = m1) ∧ (I1 234 19 = q + K1.length) ∧ (zCo (1000 * g + q) K1 I1) ∧ (drM s l m1 = drM s l m ∧ K1 ++ drK s l m1 = K ++ drK s l m) ∧ (m1 ≤ m) ∧ (K1.length + m1 = K.length + m) ∧ (∀ c j : Nat, ¬ (c = 234 ∧ j = 25) → ¬ (c = 234 ∧ j = 19) → ¬ (c = 245 ∧ 1000 * g + q ≤ j ∧ j < 1000 * g + 1000) → ¬ (c = 246 ∧ 1000 * g + q ≤ j ∧ j < 1000 * g + 1000) → I1 c j = I c j)
      | _ => False, rfl, rfl, ?_, ⟨?_, True.intro⟩⟩
  · refine ⟨((m + 1), 0, 0), [some (zvr (234)), some (zvi (a))], ⟨rfl, rfl, rfl⟩, m, K, rfl, rfl, rfl, rfl, rfl, rfl, h25, (Eq.trans (b := ((q + K.length) : Int)) h19 (by omega)), hK, ⟨rfl, rfl⟩, (by omega), (by omega), (fun c j h0 h1 h2 h3 => rfl)⟩
  · rintro nM lsM stM I1 L1 R1 S1 hz1 ⟨m1, K1, rfl, rfl, rfl, rfl, rfl, rfl, h251, h191, hK1, hd, hm1, hb1, fr⟩
    refine And.intro (zA_234 hS) (zrd (v := m1) h251 ?_)
    refine And.intro (by omega) ⟨fun h4 => ?_, fun h4 => ?_⟩
    · refine hQ _ (h251.trans (by have z := dr_end (l := l) (s := s) (m := m1) (by first | exact Or.inr ⟨by omega, by rw [← f17]; omega⟩ | exact Or.inl (by omega)); rw [z.1] at hd; omega)) (h191.trans (by have z := dr_end (l := l) (s := s) (m := m1) (by first | exact Or.inr ⟨by omega, by rw [← f17]; omega⟩ | exact Or.inl (by omega)); rw [z.2, List.append_nil] at hd; rw [hd.2])) (by have z := dr_end (l := l) (s := s) (m := m1) (by first | exact Or.inr ⟨by omega, by rw [← f17]; omega⟩ | exact Or.inl (by omega)); rw [z.2, List.append_nil] at hd; rw [← hd.2]; exact hK1) (by have z := drK_len (s := s) (l := l) (m := m); rw [List.length_append]; omega) (fun c j h0 h1 h2 h3 => ((fr c j h0 h1 (by omega) (by omega)).trans rfl))
    · refine And.intro (zA_234 hS) (zrdR (v := some 250) (zR_234_26 hR) ?_)
      refine And.intro (zA_234 hS) (zrd (v := m1) h251 ?_)
      refine And.intro (zP_250 hS (by omega) (by omega)) (fun v17 e17 r17 => ?_)
      have f17 : v17 = s (m1 - 1) := (e17.trans ((fr 250 _ (by omega) (by omega) (by omega) (by omega)).trans ((congrArg (I 250) (by omega)).trans (hs (m1 - 1) (by omega)))))
      refine ⟨_, sn_G_str.up (by decide), ?_⟩
      refine ⟨(v17 : Int), rfl, hS, hR, (by omega), ?_⟩
      intro v18o p18hv p18bhv2
      refine And.intro ⟨(by omega), (by omega)⟩ ⟨fun h22 => ?_, fun h22 => ?_⟩
      · refine hQ _ (h251.trans (by have z := dr_end (l := l) (s := s) (m := m1) (by first | exact Or.inr ⟨by omega, by rw [← f17]; omega⟩ | exact Or.inl (by omega)); rw [z.1] at hd; omega)) (h191.trans (by have z := dr_end (l := l) (s := s) (m := m1) (by first | exact Or.inr ⟨by omega, by rw [← f17]; omega⟩ | exact Or.inl (by omega)); rw [z.2, List.append_nil] at hd; rw [hd.2])) (by have z := dr_end (l := l) (s := s) (m := m1) (by first | exact Or.inr ⟨by omega, by rw [← f17]; omega⟩ | exact Or.inl (by omega)); rw [z.2, List.append_nil] at hd; rw [← hd.2]; exact hK1) (by have z := drK_len (s := s) (l := l) (m := m); rw [List.length_append]; omega) (fun c j h0 h1 h2 h3 => ((fr c j h0 h1 (by omega) (by omega)).trans rfl))
      · refine And.intro (zA_234 hS) (zrd (v := m1) h251 ?_)
        refine And.intro (zA_234 hS) ⟨_, (zWi (by omega)), ?_⟩
        refine And.intro (zA_234 hS) (zrdR (v := some 250) (zR_234_26 hR) ?_)
        refine And.intro (zA_234 hS) (zrd (v := (m1 - 1)) rfl ?_)
        refine And.intro (zP_250 hS (by omega) (by omega)) (fun v44 e44 r44 => ?_)
        have f44 : v44 = s (m1 - 1) := (e44.trans (zxu (by omega) ((fr 250 _ (by omega) (by omega) (by omega) (by omega)).trans ((congrArg (I 250) (by omega)).trans (hs (m1 - 1) (by omega))))))
        refine And.intro (zA_234 hS) ⟨_, sn_G_cod.up (by decide), ?_⟩
        refine ⟨g, q, K1, (v44 : Int), (0 : Int), rfl, hS, hR, ((fr 234 15 (by omega) (by omega) (by omega) (by omega)).trans h15), (by omega), (Eq.trans (b := ((q + K1.length) : Int)) h191 (by omega)), (zCo_fr hK1 (fun x j h1 h2 => zxu (by omega) rfl)), (by omega), (by omega), (by omega), ?_⟩
        intro I46o p46h19 p46bhK p46bbfr
        refine ⟨((((m1 - 1) : Nat) + 1), 0, 0), zlt6 (by omega), [some (zvr (234)), some (zvi (a))], ⟨rfl, rfl, rfl⟩, (m1 - 1), (K1 ++ [(s (m1 - 1), 0)]), rfl, rfl, rfl, rfl, rfl, rfl, ((p46bbfr 234 25 (by omega) (by omega) (by omega)).trans (zxe.trans (by omega))), (p46h19.trans (by rw [List.length_append]; show (_ : Int) = (q : Int) + ((K1.length + 1 : Nat) : Int); omega)), (by rw [← f44]; exact p46bhK), (dr_st (by omega) (by rw [← f17]; omega) hd), (by omega), (by rw [List.length_append]; show K1.length + 1 + (m1 - 1) = _; omega), (fun c j h0 h1 h2 h3 => ((p46bbfr c j h1 (by omega) (by omega)).trans (zxcj h0 ((fr c j h0 h1 (by omega) (by omega)).trans rfl))))⟩)
