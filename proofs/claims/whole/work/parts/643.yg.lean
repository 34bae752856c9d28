/-! yg -/
def T_Y_hld : ZT := fun args I L R S Q => ∃ (k : Nat) (s : BdS) (n : Int) (l : Int) (i : Int) (j : Int), args = [zvr 165, zvi n, zvi l, zvi i, zvi j] ∧ (zSh S) ∧ (zRs R) ∧ (R 165 12 = some k) ∧ (zDy zT17 zF17 k R S) ∧ (302 ≤ k) ∧ (zBB k (-1) s I L) ∧ (bGd s) ∧ (r32 n ∧ r32 l ∧ r32 i ∧ r32 j) ∧ ∀ (v : Int), (v = cuHb s n l i j) → (v = 0 ∨ v = 1) → Q (some (zvi (v))) I L R S
theorem sn_Y_hld : ZSnd 2 21 27 T_Y_hld := ZSnd.of (zT21_27 1) (by
  rintro args I L R S Q hz ⟨k, s, n, l, i, j, rfl, hS, hR, hg, hd, hk, hBB, hGd, hr, hQ⟩
  obtain ⟨-, hcl, -⟩ := id hBB
  have hB9 := hGd.1.2.2.2
  refine And.intro rfl ?_
  refine And.intro (zA_165 hS) (zrdR (v := some k) hg ?_)
  refine And.intro (zDX hd 0 rfl) ⟨_, sn_G_cell.up (by decide), ?_⟩
  refine ⟨k, _, s, (l : Int), (i : Int), (j : Int), rfl, hd, (by first | exact (zBB_fr hBB (fun c j h => rfl) (fun c j h => rfl)) | (clear hQ; grind [xu])), (bGd_z hGd), (by omega), ?_⟩
  intro v8o p8hv p8bhv2
  have g8 : -1 ≤ v8o ∧ v8o ≤ 1023 := (by omega)
  refine And.intro ⟨(by omega), (zRb rfl)⟩ ⟨fun h16 => ?_, fun h16 => ?_⟩
  · refine And.intro (Or.inl rfl) ?_
    refine hQ _ ?_ (by omega)
    · first
      | exact (cuHb_y (by rw [← p8hv]; omega) (by rw [← p8hv]; omega)).symm
      | exact (cuHb_n (fun q => by rw [← p8hv] at q; omega)).symm
  · refine And.intro (zA_165 hS) (zrdR (v := some k) hg ?_)
    refine And.intro (zDX hd 0 rfl) (zrdR (v := some (k + 3)) (zDR hd 2 rfl) ?_)
    refine And.intro (zDP hd 3 rfl rfl (by omega) (by omega)) (fun v28 e28 r28 => ?_)
    have f28 : v28 = bho s v8o.toNat := (e28.trans (hcl v8o.toNat (by omega)).1)
    refine And.intro ⟨r28, (by omega)⟩ ⟨fun h30 => ?_, fun h30 => ?_⟩
    · refine And.intro (Or.inl rfl) ?_
      refine hQ _ ?_ (by omega)
      · first
        | exact (cuHb_y (by rw [← p8hv]; omega) (by rw [← p8hv]; omega)).symm
        | exact (cuHb_n (fun q => by rw [← p8hv] at q; omega)).symm
    · refine And.intro (Or.inr rfl) ?_
      refine hQ _ ?_ (by omega)
      · first
        | exact (cuHb_y (by rw [← p8hv]; omega) (by rw [← p8hv]; omega)).symm
        | exact (cuHb_n (fun q => by rw [← p8hv] at q; omega)).symm)
