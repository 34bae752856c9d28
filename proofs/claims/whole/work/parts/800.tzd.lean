/-! tzd -/
def T_E_mlN : ZT := fun args I L R S Q => ∃ (a : Int) (p : Int), args = [zvr 138, zvl a, zvi p] ∧ (zSh S) ∧ (zRs R) ∧ (r64 a) ∧ (r32 p) ∧ (a < 0 ∨ 20 < a) ∧ ∀ (I' : ZI), (I' 138 13 = 3) → (I' 138 14 = p) → (I' 138 15 = 0) → (∀ c j : Nat, ¬ (c = 138 ∧ j = 13) → ¬ (c = 138 ∧ j = 14) → ¬ (c = 138 ∧ j = 15) → I' c j = I c j) → Q none I' L R S
theorem sn_E_mlN : ZSnd 2 4 17 T_E_mlN := ZSnd.of (zT4_17 1) (by
  rintro args I L R S Q hz ⟨a, p, rfl, hS, hR, ha, hp, hb, hQ⟩
  obtain ⟨hp1, hp2⟩ : r32 p := hp
  refine And.intro rfl ?_
  refine ⟨_, _, ⟨zW6i (by omega), zW6i (zRL rfl)⟩, fun z2 c2 => ?_⟩
  refine And.intro c2.2.2 ⟨fun h3 => ?_, fun h3 => ?_⟩
  · have k3 : a < 0 := by omega
    clear h3 c2
    refine And.intro (zA_138 hS) (Exists.intro _ (And.intro (zinl_ok (zT4_12 0)) (And.intro rfl ?_)))
    refine And.intro (zA_138 hS) ⟨_, (zWi (zRb rfl)), ?_⟩
    refine And.intro (zA_138 hS) ⟨_, (zWi (by omega)), ?_⟩
    refine And.intro (zA_138 hS) ⟨_, (zWi (zRb rfl)), ?_⟩
    refine hQ _ rfl rfl rfl (fun c j h0 h1 h2 => (zxcj h2 (zxcj h1 (zxcj h0 rfl))))
  · have k3b : a ≥ 0 := by omega
    clear h3 c2
    refine ⟨_, _, ⟨zW6i (by omega), zW6i (zRL rfl)⟩, fun z10 c10 => ?_⟩
    refine And.intro c10.2.2 ⟨fun h11 => ?_, fun h11 => ?_⟩
    · have k11 : a ≤ 20 := by omega
      clear h11 c10
      exact False.elim (by omega)
    · have k11b : a > 20 := by omega
      clear h11 c10
      have t11 : 20 < a := (by omega)
      refine And.intro (zA_138 hS) (Exists.intro _ (And.intro (zinl_ok (zT4_12 0)) (And.intro rfl ?_)))
      refine And.intro (zA_138 hS) ⟨_, (zWi (zRb rfl)), ?_⟩
      refine And.intro (zA_138 hS) ⟨_, (zWi (by omega)), ?_⟩
      refine And.intro (zA_138 hS) ⟨_, (zWi (zRb rfl)), ?_⟩
      refine hQ _ rfl rfl rfl (fun c j h0 h1 h2 => (zxcj h2 (zxcj h1 (zxcj h0 rfl)))))
def T_E_mlY : ZT := fun args I L R S Q => ∃ (E : EvE) (a : Int) (p : Int), args = [zvr 138, zvl a, zvi p] ∧ (zSh S) ∧ (zRs R) ∧ (zEv E I L) ∧ (r64 a) ∧ (r32 p) ∧ (0 ≤ a ∧ a ≤ 20) ∧ ∀ (I' : ZI) (L' : ZI), (zEv (evLn E a.toNat) I' L') → (∀ c j : Nat, ¬ (c = 138 ∧ j = 6) → I' c j = I c j) → (∀ c j : Nat, ¬ c = 142 → L' c j = L c j) → Q none I' L' R S
theorem sn_E_mlY : ZSnd 2 4 17 T_E_mlY := ZSnd.loops (zT4_17 1) (by
  rintro args I L R S Q hz ⟨E, a, p, rfl, hS, hR, hV, ha, hp, hb, hQ⟩
  obtain ⟨hV1, ⟨hV2, hV2b⟩, hV3, ⟨hV4, hV4b⟩, hV5⟩ := id hV
  refine ⟨[31], fun nM tM lsM stM I1 L1 R1 S1 => match tM with
      | 31 => ∃ (i : Nat), nM = ((21 - i), 0, 0) ∧ lsM = [some (zvr (138)), none, none, none, some (zvi (i))] ∧ stM = [] ∧ R1 = R ∧ S1 = S ∧ (i ≤ 20) ∧ (I1 138 6 = a) ∧ (∀ q : Nat, q < i → L1 142 q = 0) ∧ (∀ c j : Nat, ¬ (c = 138 ∧ j = 6) → I1 c j = I c j) ∧ (∀ c j : Nat, ¬ c = 142 → L1 c j = L c j)
      | _ => False, rfl, ?_, ⟨?_, True.intro⟩⟩
  · refine ⟨_, _, ⟨zW6i (by omega), zW6i (zRL rfl)⟩, fun z2 c2 => ?_⟩
    refine And.intro c2.2.2 ⟨(fun h3 => False.elim (by omega)), fun h3 => ?_⟩
    have k3 : a ≥ 0 := by omega
    clear h3 c2
    refine ⟨_, _, ⟨zW6i (by omega), zW6i (zRL rfl)⟩, fun z10 c10 => ?_⟩
    refine And.intro c10.2.2 ⟨fun h11 => ?_, (fun h11 => False.elim (by omega))⟩
    have k11 : a ≤ 20 := by omega
    clear h11 c10
    refine ⟨_, (zWi (by omega)), ?_⟩
    refine And.intro (zA_138 hS) ⟨_, (zWi (by omega)), ?_⟩
    refine ⟨((21 - (0 : Nat)), 0, 0), [some (zvr (138)), none, none, none, some (zvi ((0 : Nat)))], ⟨rfl, rfl, rfl⟩, 0, rfl, rfl, rfl, rfl, rfl, (by omega), rfl, (fun q h => absurd h (Nat.not_lt_zero q)), (fun c j h0 => (zxcj h0 rfl)), (fun c j h0 => rfl)⟩
  · rintro nM lsM stM I1 L1 R1 S1 hz1 ⟨i, rfl, rfl, rfl, rfl, rfl, hi, h30, hz0, fr, frL⟩
    refine And.intro ⟨(by omega), (zRb rfl)⟩ ⟨fun h35 => ?_, fun h35 => ?_⟩
    · refine hQ _ _ ⟨fun v hv => (frL _ _ (by omega)).trans (hV1 v hv), ⟨(fr _ _ (by omega)).trans hV2, hV2b⟩, fun j hj => (frL _ _ (by omega)).trans (hV3 j hj), ⟨h30.trans (by show a = ((a.toNat : Nat) : Int); omega), by show a.toNat ≤ 20; omega⟩, fun j hj => hz0 j (by omega)⟩ (fun c j h0 => ((fr c j h0).trans rfl)) (fun c j h0 => ((frL c j h0).trans rfl))
    · refine And.intro (zA_138 hS) (zrdR (v := some 142) (zR_138_5 hR) ?_)
      refine And.intro ⟨(zx0 rfl), (zP_142 hS (by omega) (by omega))⟩ ⟨_, zW6i (zRL rfl), ?_⟩
      refine ⟨((21 - (i + 1)), 0, 0), zlt6 (by omega), [some (zvr (138)), none, none, none, some (zvi ((i + 1)))], ⟨rfl, rfl, rfl⟩, (i + 1), rfl, rfl, rfl, rfl, rfl, (by omega), h30, ?_, (fun c j h0 => ((fr c j h0).trans rfl)), (fun c j h0 => (zxu h0 ((frL c j h0).trans rfl)))⟩
      · intro q hq
        by_cases e9 : q = i
        · rw [e9]; exact zxe' (by omega)
        · exact zxs (by omega) (hz0 q (by omega)))
def T_E_nfN : ZT := fun args I L R S Q => ∃ (E : EvE) (a : Int) (p : Int), args = [zvr 138, zvl a, zvi p] ∧ (zSh S) ∧ (zRs R) ∧ (zEv E I L) ∧ (r64 a) ∧ (r32 p) ∧ (E.2.1 = 12) ∧ ∀ (I' : ZI), (I' 138 13 = 3) → (I' 138 14 = p) → (I' 138 15 = 0) → (∀ c j : Nat, ¬ (c = 138 ∧ j = 13) → ¬ (c = 138 ∧ j = 14) → ¬ (c = 138 ∧ j = 15) → I' c j = I c j) → Q none I' L R S
theorem sn_E_nfN : ZSnd 2 4 1 T_E_nfN := ZSnd.of (zT4_1 1) (by
  rintro args I L R S Q hz ⟨E, a, p, rfl, hS, hR, hV, ha, hp, h12, hQ⟩
  obtain ⟨hV1, ⟨hV2, hV2b⟩, hV3, ⟨hV4, hV4b⟩, hV5⟩ := id hV
  obtain ⟨hp1, hp2⟩ : r32 p := hp
  refine And.intro rfl ?_
  refine And.intro (zA_138 hS) (zrd (v := (E.2.1)) hV2 ?_)
  refine And.intro ⟨(by omega), (zRb rfl)⟩ ⟨(fun h6 => False.elim (by omega)), fun h6 => ?_⟩
  refine And.intro (zA_138 hS) (Exists.intro _ (And.intro (zinl_ok (zT4_12 0)) (And.intro rfl ?_)))
  refine And.intro (zA_138 hS) ⟨_, (zWi (zRb rfl)), ?_⟩
  refine And.intro (zA_138 hS) ⟨_, (zWi (by omega)), ?_⟩
  refine And.intro (zA_138 hS) ⟨_, (zWi (zRb rfl)), ?_⟩
  refine hQ _ rfl rfl rfl (fun c j h0 h1 h2 => (zxcj h2 (zxcj h1 (zxcj h0 rfl)))))
def T_E_nfY : ZT := fun args I L R S Q => ∃ (E : EvE) (a : Int) (p : Int), args = [zvr 138, zvl a, zvi p] ∧ (zSh S) ∧ (zRs R) ∧ (zEv E I L) ∧ (r64 a) ∧ (r32 p) ∧ (E.2.1 < 12) ∧ ∀ (I' : ZI) (L' : ZI), (zEv (evNw E a) I' L') → (∀ c j : Nat, ¬ (c = 138 ∧ j = 3) → I' c j = I c j) → (∀ c j : Nat, ¬ c = 140 → L' c j = L c j) → Q none I' L' R S
theorem sn_E_nfY : ZSnd 2 4 1 T_E_nfY := ZSnd.of (zT4_1 1) (by
  rintro args I L R S Q hz ⟨E, a, p, rfl, hS, hR, hV, ha, hp, h12, hQ⟩
  obtain ⟨hV1, ⟨hV2, hV2b⟩, hV3, ⟨hV4, hV4b⟩, hV5⟩ := id hV
  refine And.intro rfl ?_
  refine And.intro (zA_138 hS) (zrd (v := (E.2.1)) hV2 ?_)
  refine And.intro ⟨(by omega), (zRb rfl)⟩ ⟨fun h6 => ?_, (fun h6 => False.elim (by omega))⟩
  refine And.intro (zA_138 hS) (zrd (v := (E.2.1)) hV2 ?_)
  refine And.intro (zA_138 hS) (zrdR (v := some 140) (zR_138_2 hR) ?_)
  refine And.intro ⟨(zx0 rfl), (zP_140 hS (by omega) (by omega))⟩ ⟨_, zW6i (by omega), ?_⟩
  refine And.intro ⟨(zRb rfl), (zRb rfl)⟩ (zbf rfl ?_)
  refine And.intro (zA_138 hS) (zrdR (v := some 140) (zR_138_2 hR) ?_)
  refine And.intro ⟨(zx0 rfl), (zP_140 hS (by omega) (by omega))⟩ ⟨_, zW6i (zRL rfl), ?_⟩
  refine And.intro ⟨(zRb rfl), (zRb rfl)⟩ (zbf rfl ?_)
  refine And.intro (zA_138 hS) (zrdR (v := some 140) (zR_138_2 hR) ?_)
  refine And.intro ⟨(zx0 rfl), (zP_140 hS (by omega) (by omega))⟩ ⟨_, zW6i (zRL rfl), ?_⟩
  refine And.intro ⟨(zRb rfl), (zRb rfl)⟩ (zbf rfl ?_)
  refine And.intro (zA_138 hS) (zrdR (v := some 140) (zR_138_2 hR) ?_)
  refine And.intro ⟨(zx0 rfl), (zP_140 hS (by omega) (by omega))⟩ ⟨_, zW6i (zRL rfl), ?_⟩
  refine And.intro ⟨(zRb rfl), (zRb rfl)⟩ (zbf rfl ?_)
  refine And.intro (zA_138 hS) (zrdR (v := some 140) (zR_138_2 hR) ?_)
  refine And.intro ⟨(zx0 rfl), (zP_140 hS (by omega) (by omega))⟩ ⟨_, zW6i (zRL rfl), ?_⟩
  refine And.intro ⟨(zRb rfl), (zRb rfl)⟩ (zbf rfl ?_)
  refine And.intro (zA_138 hS) (zrdR (v := some 140) (zR_138_2 hR) ?_)
  refine And.intro ⟨(zx0 rfl), (zP_140 hS (by omega) (by omega))⟩ ⟨_, zW6i (zRL rfl), ?_⟩
  refine And.intro ⟨(zRb rfl), (zRb rfl)⟩ (zbt rfl ?_)
  refine And.intro (zA_138 hS) (zrd (v := (E.2.1)) hV2 ?_)
  refine And.intro (zA_138 hS) ⟨_, (zWi (by omega)), ?_⟩
  refine hQ _ _ ?_ (fun c j h0 => (zxcj h0 rfl)) (fun c j h0 => (zxu h0 (zxu h0 (zxu h0 (zxu h0 (zxu h0 (zxu h0 rfl)))))))
  · refine ⟨fun v hv => ((zxu (by omega) (zxu (by omega) (zxu (by omega) (zxu (by omega) (zxu (by omega) (zxu (by omega) rfl)))))).trans (hV1 v hv)), ⟨zxe.trans (by show _ = ((E.2.1 + 1 : Nat) : Int); omega), by show E.2.1 + 1 ≤ 12; omega⟩, fun j hj => ?_, ⟨(zxs (by omega) hV4), hV4b⟩, fun j hj => ((zxu (by omega) (zxu (by omega) (zxu (by omega) (zxu (by omega) (zxu (by omega) (zxu (by omega) rfl)))))).trans (hV5 j hj))⟩
    show _ = (if j = 6 * E.2.1 then a else if 6 * E.2.1 < j ∧ j < 6 * E.2.1 + 6 then 0 else E.2.2.1 j)
    by_cases e1 : j = 6 * E.2.1
    · rw [if_pos e1]
      exact (zxs (by omega) (zxs (by omega) (zxs (by omega) (zxs (by omega) (zxs (by omega) (zxe' (by omega)))))))
    · rw [if_neg e1]
      by_cases e2 : 6 * E.2.1 < j ∧ j < 6 * E.2.1 + 6
      · rw [if_pos e2]
        rcases (show j = 6 * E.2.1 + 1 ∨ j = 6 * E.2.1 + 2 ∨ j = 6 * E.2.1 + 3 ∨ j = 6 * E.2.1 + 4 ∨ j = 6 * E.2.1 + 5 by omega) with q | q | q | q | q
        · exact (zxs (by omega) (zxs (by omega) (zxs (by omega) (zxs (by omega) (zxe' (by omega))))))
        · exact (zxs (by omega) (zxs (by omega) (zxs (by omega) (zxe' (by omega)))))
        · exact (zxs (by omega) (zxs (by omega) (zxe' (by omega))))
        · exact (zxs (by omega) (zxe' (by omega)))
        · exact (zxe' (by omega))
      · rw [if_neg e2]
        exact (zxs (by omega) (zxs (by omega) (zxs (by omega) (zxs (by omega) (zxs (by omega) (zxs (by omega) (hV3 j hj))))))))
