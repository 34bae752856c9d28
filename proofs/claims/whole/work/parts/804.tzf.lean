/-! tzf -/
def T_S_bsm : ZT := fun args I L R S Q => ∃ (k : Nat) (n : Nat) (e : Nat → Int) (p : Nat), args = [zvr k, zvi p] ∧ (zSh S) ∧ (zRs R) ∧ (zDy zT8 zF8 k R S) ∧ (k = 130 ∨ k = 134) ∧ (zEt k n e I) ∧ (p ≤ n) ∧ ∀ (v : Int), (v = (smF e (n - p) p : Nat) + 1) → Q (some (zvi (v))) I L R S
theorem sn_S_bsm : ZSnd 1 8 0 T_S_bsm := ZSnd.loops (zT8_0 0) (by
  rintro args I L R S Q hz ⟨k, n, e, p, rfl, hS, hR, hD, hk, hE, hp, hQ⟩
  have hk130 : 130 ≤ k := by omega
  have hk134 : k ≤ 134 := by omega
  obtain ⟨hE1, hE2, hE3⟩ := id hE
  have hn4 := hE2.1
  refine ⟨[2], fun nM tM lsM stM I1 L1 R1 S1 => match tM with
      | 2 => ∃ (q : Nat), nM = ((401 - q), 0, 0) ∧ lsM = [some (zvr (k)), some (zvi (p)), some (zvi (q))] ∧ stM = [] ∧ I1 = I ∧ L1 = L ∧ R1 = R ∧ S1 = S ∧ (q ≤ n) ∧ (smF e (n - q) q = smF e (n - p) p)
      | _ => False, rfl, ?_, ⟨?_, True.intro⟩⟩
  · refine ⟨((401 - p), 0, 0), [some (zvr (k)), some (zvi (p)), some (zvi (p))], ⟨rfl, rfl, rfl, rfl⟩, p, rfl, rfl, rfl, rfl, rfl, rfl, rfl, (by omega), rfl⟩
  · rintro nM lsM stM I1 L1 R1 S1 hz1 ⟨q, rfl, rfl, rfl, rfl, rfl, rfl, rfl, hq, hs⟩
    refine And.intro (zDX hD 0 rfl) (zrd (v := n) hE1 ?_)
    refine And.intro ⟨(by omega), (by omega)⟩ ⟨fun h7 => ?_, fun h7 => ?_⟩
    · refine hQ _ (by rw [← hs]; first | (rw [smF_y (by omega)]) | (rw [show n - q = 0 by omega]; show _ = ((q : Nat) : Int) + 1; omega))
    · refine And.intro (zDX hD 0 rfl) (zrdR (v := some (k + 1)) (zDR hD 0 rfl) ?_)
      refine And.intro (zDP hD 1 rfl rfl (by omega) (by omega)) (fun v15 e15 r15 => ?_)
      have f15 : v15 = e q := (e15.trans (hE3 q (by omega)))
      refine And.intro ⟨r15, (zRb rfl)⟩ ⟨fun h18 => ?_, fun h18 => ?_⟩
      · refine hQ _ (by rw [← hs]; first | (rw [smF_y (by omega)]) | (rw [show n - q = 0 by omega]; show _ = ((q : Nat) : Int) + 1; omega))
      · refine ⟨((401 - (q + 1)), 0, 0), zlt6 (by omega), [some (zvr (k)), some (zvi (p)), some (zvi ((q + 1)))], ⟨rfl, rfl, rfl, rfl⟩, (q + 1), rfl, rfl, rfl, rfl, rfl, rfl, rfl, (by omega), ((smF_n' (by omega) (by omega)).symm.trans hs)⟩)
