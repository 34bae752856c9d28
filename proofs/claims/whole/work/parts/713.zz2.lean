/-! zz2 -/
def T_S_clo : ZT := fun args I L R S Q => ∃ (k : Nat) (n : Nat) (e : Nat → Int) (a : Int) (cl : Nat → Int), args = [zvr k, zvi a] ∧ (zSh S) ∧ (zRs R) ∧ (zDy zT8 zF8 k R S) ∧ (k = 130 ∨ k = 134) ∧ (zEt k n e I) ∧ (∀ p : Nat, p < n → I (k + 2) p = cl p) ∧ (r32 a) ∧ ∀ (v : Int), (v = if 0 ≤ a ∧ a < n then cl a.toNat else n) → Q (some (zvi (v))) I L R S
theorem sn_S_clo : ZSnd 1 8 1 T_S_clo := ZSnd.of (zT8_1 0) (by
  rintro args I L R S Q hz ⟨k, n, e, a, cl, rfl, hS, hR, hD, hk, hE, hcl, ra, hQ⟩
  have hk130 : 130 ≤ k := by omega
  have hk134 : k ≤ 134 := by omega
  obtain ⟨hE1, hE2, hE3⟩ := id hE
  have hn4 := hE2.1
  refine And.intro rfl ?_
  refine And.intro (by omega) ⟨fun h1 => ?_, fun h1 => ?_⟩
  · refine And.intro (zDX hD 0 rfl) (zrd (v := n) hE1 ?_)
    refine hQ _ ?_
    · first
      | (rw [if_pos (by omega)]; exact f17)
      | (rw [if_neg (by omega)])
  · refine And.intro (zDX hD 0 rfl) (zrd (v := n) hE1 ?_)
    refine And.intro ⟨(by omega), (by omega)⟩ ⟨fun h9 => ?_, fun h9 => ?_⟩
    · refine And.intro (zDX hD 0 rfl) (zrd (v := n) hE1 ?_)
      refine hQ _ ?_
      · first
        | (rw [if_pos (by omega)]; exact f17)
        | (rw [if_neg (by omega)])
    · refine And.intro (zDX hD 0 rfl) (zrdR (v := some (k + 2)) (zDR hD 1 rfl) ?_)
      refine And.intro (zDP hD 2 rfl rfl (by omega) (by omega)) (fun v17 e17 r17 => ?_)
      have f17 : v17 = cl a.toNat := (e17.trans (hcl a.toNat (by omega)))
      refine hQ _ ?_
      · first
        | (rw [if_pos (by omega)]; exact f17)
        | (rw [if_neg (by omega)]))
def T_S_beh : ZT := fun args I L R S Q => ∃ (k : Nat) (n : Nat) (e : Nat → Int) (p : Nat), args = [zvr k, zvi p] ∧ (zSh S) ∧ (zRs R) ∧ (zDy zT8 zF8 k R S) ∧ (k = 130 ∨ k = 134) ∧ (zEt k n e I) ∧ (p ≤ n) ∧ ∀ (v : Int), (v = eSm e n 400 p + 1) → Q (some (zvi (v))) I L R S
theorem sn_S_beh : ZSnd 1 8 0 T_S_beh := ZSnd.loops (zT8_0 0) (by
  rintro args I L R S Q hz ⟨k, n, e, p, rfl, hS, hR, hD, hk, hE, hp, hQ⟩
  have hk130 : 130 ≤ k := by omega
  have hk134 : k ≤ 134 := by omega
  obtain ⟨hE1, hE2, hE3⟩ := id hE
  have hn4 := hE2.1
  refine ⟨[2], fun nM tM lsM stM I1 L1 R1 S1 => match tM with
      | 2 => ∃ (y : Nat) (m : Nat), nM = ((500 - y), 0, 0) ∧ lsM = [some (zvr (k)), some (zvi (p)), some (zvi (y))] ∧ stM = [] ∧ I1 = I ∧ L1 = L ∧ R1 = R ∧ S1 = S ∧ (y ≤ n) ∧ (m ≤ 400 ∧ n ≤ y + m) ∧ (eSm e n m y = eSm e n 400 p)
      | _ => False, rfl, ?_, ⟨?_, True.intro⟩⟩
  · refine ⟨((500 - p), 0, 0), [some (zvr (k)), some (zvi (p)), some (zvi (p))], ⟨rfl, rfl, rfl, rfl⟩, p, 400, rfl, rfl, rfl, rfl, rfl, rfl, rfl, (by omega), (by omega), rfl⟩
  · rintro nM lsM stM I1 L1 R1 S1 hz1 ⟨y, m, rfl, rfl, rfl, rfl, rfl, rfl, rfl, hy, hm, hs⟩
    refine And.intro (zDX hD 0 rfl) (zrd (v := n) hE1 ?_)
    refine And.intro ⟨(by omega), (by omega)⟩ ⟨fun h7 => ?_, fun h7 => ?_⟩
    · refine hQ _ (by rw [← hs, eSm_n (fun q => by omega)])
    · refine And.intro (zDX hD 0 rfl) (zrdR (v := some (k + 1)) (zDR hD 0 rfl) ?_)
      refine And.intro (zDP hD 1 rfl rfl (by omega) (by omega)) (fun v15 e15 r15 => ?_)
      have f15 : v15 = e y := (e15.trans ((congrArg (I1 (k + 1)) (by omega)).trans (hE3 y (by omega))))
      refine And.intro ⟨r15, (zRb rfl)⟩ ⟨fun h18 => ?_, fun h18 => ?_⟩
      · refine hQ _ (by rw [← hs, eSm_n (fun q => by omega)])
      · refine ⟨((500 - (y + 1)), 0, 0), zlt6 (by omega), [some (zvr (k)), some (zvi (p)), some (zvi ((y + 1)))], ⟨rfl, rfl, rfl, rfl⟩, (y + 1), (m - 1), rfl, rfl, rfl, rfl, rfl, rfl, rfl, (by omega), (by omega), (by have z1 : m = (m - 1) + 1 := (by omega); rw [z1, eSm_y ⟨by omega, by omega⟩] at hs; exact hs)⟩)
