/-! tze -/
def T_Y_pdo : ZT := fun args I L R S Q => ∃ (s : BdS) (n : Int), args = [zvr 165, zvi n] ∧ (zSh S) ∧ (zRs R) ∧ (zPB s I) ∧ (bnp s ≤ 40) ∧ (r32 n) ∧ ∀ (v : Int), (v = (bcn (bP s) n (bnp s) : Nat)) → Q (some (zvi (v))) I L R S
theorem sn_Y_pdo : ZSnd 1 21 43 T_Y_pdo := ZSnd.loops (zT21_43 0) (by
  rintro args I L R S Q hz ⟨s, n, rfl, hS, hR, hP, hb, hn, hQ⟩
  have hP1 := hP.1
  obtain ⟨hn1, hn2⟩ : r32 n := hn
  refine ⟨[4], fun nM tM lsM stM I1 L1 R1 S1 => match tM with
      | 4 => ∃ (m : Nat), nM = ((41 - m), 0, 0) ∧ lsM = [some (zvr (165)), some (zvi (n)), some (zvi (bcn (bP s) n m)), some (zvi (m))] ∧ stM = [] ∧ I1 = I ∧ L1 = L ∧ R1 = R ∧ S1 = S ∧ (m ≤ bnp s)
      | _ => False, rfl, ?_, ⟨?_, True.intro⟩⟩
  · refine ⟨((41 - (0 : Nat)), 0, 0), [some (zvr (165)), some (zvi (n)), some (zvi (bcn (bP s) n (0 : Nat))), some (zvi ((0 : Nat)))], ⟨rfl, rfl, (congrArg (fun z => some (zvi z)) rfl), rfl, rfl⟩, 0, rfl, rfl, rfl, rfl, rfl, rfl, rfl, (by omega)⟩
  · rintro nM lsM stM I1 L1 R1 S1 hz1 ⟨m, rfl, rfl, rfl, rfl, rfl, rfl, rfl, hm⟩
    have hkm : bcn (bP s) n m ≤ m := bcn_le _ _ _
    refine And.intro (zA_165 hS) (zrd (v := (bnp s)) hP1 ?_)
    refine And.intro ⟨(by omega), (by omega)⟩ ⟨fun h9 => ?_, fun h9 => ?_⟩
    · refine hQ _ (by rw [show bnp s = m by omega])
    · refine And.intro (zA_165 hS) (zrdR (v := some 202) (zR_165_21 hR) ?_)
      refine And.intro (zP_202 hS (by omega) (by omega)) (fun v18 e18 r18 => ?_)
      have f18 : v18 = bP s m 3 := (e18.trans (hP.2.2.1 m (by omega)).1.2.2)
      refine And.intro ⟨r18, (by omega)⟩ ⟨fun h20 => ?_, fun h20 => ?_⟩
      · refine ⟨((41 - (m + 1)), 0, 0), zlt6 (by omega), [some (zvr (165)), some (zvi (n)), some (zvi (bcn (bP s) n (m + 1))), some (zvi ((m + 1)))], ⟨rfl, rfl, (congrArg (fun z => some (zvi z)) (by first | (rw [bcn_y (by omega)]; omega) | (rw [bcn_n (by omega)]; omega))), rfl, rfl⟩, (m + 1), rfl, rfl, rfl, rfl, rfl, rfl, rfl, (by omega)⟩
      · refine ⟨((41 - (m + 1)), 0, 0), zlt6 (by omega), [some (zvr (165)), some (zvi (n)), some (zvi (bcn (bP s) n (m + 1))), some (zvi ((m + 1)))], ⟨rfl, rfl, (congrArg (fun z => some (zvi z)) (by first | (rw [bcn_y (by omega)]; omega) | (rw [bcn_n (by omega)]; omega))), rfl, rfl⟩, (m + 1), rfl, rfl, rfl, rfl, rfl, rfl, rfl, (by omega)⟩)
