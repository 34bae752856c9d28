/-! wl -/
def T_V_wri : ZT := fun args I L R S Q => ∃ (k : Nat) (O : OoS) (dp : Nat → Nat) (fm : Int) (j : Int), args = [zvr k, zvi j] ∧ (zDy zT20 zF20 k R S) ∧ (zOM k O I L) ∧ (oGd O) ∧ (oNg O) ∧ (zOU k O I) ∧ (-2147483648 ≤ j ∧ j ≤ 2147483647) ∧ (I k 1 = fm) ∧ (0 ≤ fm ∧ fm ≤ 1) ∧ (wPre O dp) ∧ (∀ m x, m ≤ ocn O → x ≤ 200 → (wWr O dp fm m x).length + 2900 ≤ 110000) ∧ (∀ j, j < ocn O → okd O j = 9 → otl O j 0 ≤ 2000) ∧ (zPS k O (wPg O dp fm) I) ∧ ((wPg O dp fm).length ≤ 110000) ∧ ∀ (v : Int) (I' : ZI), (I' k 0 = wTh O j) → (v = wOt (wPg O dp fm) (wTh O j) j) → (zPS k O (wPg O dp fm) I') → (∀ c j : Nat, ¬ (c = k ∧ j = 0) → ¬ (c = k ∧ j = 26) → ¬ (c = k ∧ j = 27) → ¬ c = k + 12 → I' c j = I c j) → Q (some (zvi (v))) I' L R S
theorem sn_V_wri : ZSnd 6 20 55 T_V_wri := ZSnd.of (zT20_55 5) (by
  rintro args I L R S Q hz ⟨k, O, dp, fm, j, rfl, hD, hO, hG, hN, hU, hj, hfm, hfm2, hp, hW, h9, hs, hl9, hQ⟩
  have hk40 := hD.1
  obtain ⟨o1, o2, o3, o4⟩ := id hO
  obtain ⟨g1, g2, g3, g4, g5⟩ := id hG
  refine And.intro rfl ?_
  refine And.intro (by omega) ⟨fun h2 => ?_, fun h2 => ?_⟩
  · refine And.intro (zDX hD 0 rfl) (zrd (v := (ocn O)) o1 ?_)
    refine And.intro (by omega) ⟨fun h13 => ?_, fun h13 => ?_⟩
    · refine And.intro (zDX hD 0 rfl) ⟨_, (zWi (zRb rfl)), ?_⟩
      refine And.intro (zDX hD 0 rfl) (zrd (v := 0) zxe ?_)
      refine And.intro (zRb rfl) (zbt rfl ?_)
      refine And.intro (zDX hD 0 rfl) (fun v34 e34 r34 => ?_)
      have f34 : v34 = I k 27 := (e34.trans (zxs (by decide) rfl))
      refine And.intro r34 ⟨fun h37 => ?_, fun h37 => ?_⟩
      · refine And.intro (zDX hD 0 rfl) (fun v46 e46 r46 => ?_)
        have f46 : v46 = (wPg O dp fm).length := (by first | exact e46.trans p41hP2.1 | exact e46.trans (zxs (by decide) (hs (by omega) (by omega)).1))
        refine And.intro ⟨(by omega), r46⟩ ⟨fun h49 => ?_, fun h49 => ?_⟩
        · refine hQ _ _ ?_ ?_ (by first | exact fun _ _ => p41hP2 | exact zPS_fr hs (fun c j h => zxcj (by omega) rfl)) (fun c j h0 h1 h2 h3 => (zxcj h0 rfl))
          · first
            | exact zxe.trans (wTh_1 (by omega)).symm
            | exact zxe.trans (wTh_2 (by omega) (by omega)).symm
            | exact zxe.trans (wTh_3 (by omega) (by omega)).symm
            | exact (p41bbfr k 0 (by omega) (by omega) (by omega)).trans (zxe.trans (wTh_3 (by omega) (by omega)).symm)
          · first
            | exact (wOt_0 (by rw [wTh_1 (show j < 0 by omega)]; decide)).symm
            | exact (wOt_0 (by rw [wTh_2 (show ¬ j < 0 by omega) (show ocn O = 0 by omega)]; decide)).symm
            | exact (wOt_2 (wTh_3 (by omega) (by omega)) (by omega)).symm
            | exact f57.trans (wOt_1 (wTh_3 (by omega) (by omega)) (by omega)).symm
        · refine And.intro (zDX hD 0 rfl) (zrdR (v := some (k + 12)) (zDR hD 11 rfl) ?_)
          refine And.intro (zDP hD 12 rfl rfl (by omega) (by omega)) (fun v57 e57 r57 => ?_)
          have f57 : v57 = wAt (wPg O dp fm) j.toNat := (by first | exact e57.trans (p41hP2.2 j.toNat (by omega)) | exact e57.trans ((zxcj (by omega) rfl).trans ((hs (by omega) (by omega)).2 j.toNat (by omega))))
          refine hQ _ _ ?_ ?_ (by first | exact fun _ _ => p41hP2 | exact zPS_fr hs (fun c j h => zxcj (by omega) rfl)) (fun c j h0 h1 h2 h3 => (zxcj h0 rfl))
          · first
            | exact zxe.trans (wTh_1 (by omega)).symm
            | exact zxe.trans (wTh_2 (by omega) (by omega)).symm
            | exact zxe.trans (wTh_3 (by omega) (by omega)).symm
            | exact (p41bbfr k 0 (by omega) (by omega) (by omega)).trans (zxe.trans (wTh_3 (by omega) (by omega)).symm)
          · first
            | exact (wOt_0 (by rw [wTh_1 (show j < 0 by omega)]; decide)).symm
            | exact (wOt_0 (by rw [wTh_2 (show ¬ j < 0 by omega) (show ocn O = 0 by omega)]; decide)).symm
            | exact (wOt_2 (wTh_3 (by omega) (by omega)) (by omega)).symm
            | exact f57.trans (wOt_1 (wTh_3 (by omega) (by omega)) (by omega)).symm
      · refine And.intro (zDX hD 0 rfl) ⟨_, sn_V_wal.up (by decide), ?_⟩
        refine ⟨k, O, dp, fm, rfl, hD, (by first | exact (zOM_fr hO (fun c j h => (zxcj (by omega) rfl)) (fun c j h => rfl)) | (clear hQ; grind [xu])), (by first | exact hG | (clear hQ; grind [xu])), (by first | exact hN | (clear hQ; grind [xu])), (by first | exact (zOU_fr hU (fun c j h => (zxcj (by omega) rfl))) | (clear hQ; grind [xu])), (zxs (by decide) hfm), (by omega), (by omega), (by first | exact hp | (clear hQ; grind [xu])), (by first | exact hW | (clear hQ; grind [xu])), h9, ?_⟩
        intro I41o p41hP2 p41bhst p41bbfr
        refine And.intro (zDX hD 0 rfl) (fun v46 e46 r46 => ?_)
        have f46 : v46 = (wPg O dp fm).length := (by first | exact e46.trans p41hP2.1 | exact e46.trans (zxs (by decide) (hs (by omega) (by omega)).1))
        refine And.intro ⟨(by omega), r46⟩ ⟨fun h49 => ?_, fun h49 => ?_⟩
        · refine hQ _ _ ?_ ?_ (by first | exact fun _ _ => p41hP2 | exact zPS_fr hs (fun c j h => zxcj (by omega) rfl)) (fun c j h0 h1 h2 h3 => ((p41bbfr c j h1 h2 h3).trans (zxcj h0 rfl)))
          · first
            | exact zxe.trans (wTh_1 (by omega)).symm
            | exact zxe.trans (wTh_2 (by omega) (by omega)).symm
            | exact zxe.trans (wTh_3 (by omega) (by omega)).symm
            | exact (p41bbfr k 0 (by omega) (by omega) (by omega)).trans (zxe.trans (wTh_3 (by omega) (by omega)).symm)
          · first
            | exact (wOt_0 (by rw [wTh_1 (show j < 0 by omega)]; decide)).symm
            | exact (wOt_0 (by rw [wTh_2 (show ¬ j < 0 by omega) (show ocn O = 0 by omega)]; decide)).symm
            | exact (wOt_2 (wTh_3 (by omega) (by omega)) (by omega)).symm
            | exact f57.trans (wOt_1 (wTh_3 (by omega) (by omega)) (by omega)).symm
        · refine And.intro (zDX hD 0 rfl) (zrdR (v := some (k + 12)) (zDR hD 11 rfl) ?_)
          refine And.intro (zDP hD 12 rfl rfl (by omega) (by omega)) (fun v57 e57 r57 => ?_)
          have f57 : v57 = wAt (wPg O dp fm) j.toNat := (by first | exact e57.trans (p41hP2.2 j.toNat (by omega)) | exact e57.trans ((zxcj (by omega) rfl).trans ((hs (by omega) (by omega)).2 j.toNat (by omega))))
          refine hQ _ _ ?_ ?_ (by first | exact fun _ _ => p41hP2 | exact zPS_fr hs (fun c j h => zxcj (by omega) rfl)) (fun c j h0 h1 h2 h3 => ((p41bbfr c j h1 h2 h3).trans (zxcj h0 rfl)))
          · first
            | exact zxe.trans (wTh_1 (by omega)).symm
            | exact zxe.trans (wTh_2 (by omega) (by omega)).symm
            | exact zxe.trans (wTh_3 (by omega) (by omega)).symm
            | exact (p41bbfr k 0 (by omega) (by omega) (by omega)).trans (zxe.trans (wTh_3 (by omega) (by omega)).symm)
          · first
            | exact (wOt_0 (by rw [wTh_1 (show j < 0 by omega)]; decide)).symm
            | exact (wOt_0 (by rw [wTh_2 (show ¬ j < 0 by omega) (show ocn O = 0 by omega)]; decide)).symm
            | exact (wOt_2 (wTh_3 (by omega) (by omega)) (by omega)).symm
            | exact f57.trans (wOt_1 (wTh_3 (by omega) (by omega)) (by omega)).symm
    · refine And.intro (zDX hD 0 rfl) ⟨_, (zWi (zRb rfl)), ?_⟩
      refine And.intro (zDX hD 0 rfl) (zrd (v := 2) zxe ?_)
      refine And.intro (zRb rfl) (zbf rfl ?_)
      refine hQ _ _ ?_ ?_ (by first | exact fun _ _ => p41hP2 | exact zPS_fr hs (fun c j h => zxcj (by omega) rfl)) (fun c j h0 h1 h2 h3 => (zxcj h0 rfl))
      · first
        | exact zxe.trans (wTh_1 (by omega)).symm
        | exact zxe.trans (wTh_2 (by omega) (by omega)).symm
        | exact zxe.trans (wTh_3 (by omega) (by omega)).symm
        | exact (p41bbfr k 0 (by omega) (by omega) (by omega)).trans (zxe.trans (wTh_3 (by omega) (by omega)).symm)
      · first
        | exact (wOt_0 (by rw [wTh_1 (show j < 0 by omega)]; decide)).symm
        | exact (wOt_0 (by rw [wTh_2 (show ¬ j < 0 by omega) (show ocn O = 0 by omega)]; decide)).symm
        | exact (wOt_2 (wTh_3 (by omega) (by omega)) (by omega)).symm
        | exact f57.trans (wOt_1 (wTh_3 (by omega) (by omega)) (by omega)).symm
  · refine And.intro (zDX hD 0 rfl) ⟨_, (zWi (zRb rfl)), ?_⟩
    refine And.intro (zDX hD 0 rfl) (zrd (v := 1) zxe ?_)
    refine And.intro (zRb rfl) (zbf rfl ?_)
    refine hQ _ _ ?_ ?_ (by first | exact fun _ _ => p41hP2 | exact zPS_fr hs (fun c j h => zxcj (by omega) rfl)) (fun c j h0 h1 h2 h3 => (zxcj h0 rfl))
    · first
      | exact zxe.trans (wTh_1 (by omega)).symm
      | exact zxe.trans (wTh_2 (by omega) (by omega)).symm
      | exact zxe.trans (wTh_3 (by omega) (by omega)).symm
      | exact (p41bbfr k 0 (by omega) (by omega) (by omega)).trans (zxe.trans (wTh_3 (by omega) (by omega)).symm)
    · first
      | exact (wOt_0 (by rw [wTh_1 (show j < 0 by omega)]; decide)).symm
      | exact (wOt_0 (by rw [wTh_2 (show ¬ j < 0 by omega) (show ocn O = 0 by omega)]; decide)).symm
      | exact (wOt_2 (wTh_3 (by omega) (by omega)) (by omega)).symm
      | exact f57.trans (wOt_1 (wTh_3 (by omega) (by omega)) (by omega)).symm)
