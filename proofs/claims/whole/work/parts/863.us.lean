/-! us -/
def T_Y_fctB : ZT := fun args I L R S Q => ∃ (g : Nat) (s : BdS) (qq : Nat) (w : List CuR) (pc : Nat) (n : Nat) (q : Nat), args = [zvr 165, zvi n, zvi q] ∧ (zSh S) ∧ (zRs R) ∧ (R 165 12 = some g) ∧ (zDy zT17 zF17 g R S) ∧ (zBB g (-1) s I L) ∧ (bGd s) ∧ (302 ≤ g) ∧ (zPB s I) ∧ (R 165 31 = none) ∧ (n < 12) ∧ (q < 6) ∧ ∀ (v : Int) (I' : ZI) (L' : ZI), (v = fcV s (fun n => -1) n q) → (r64 v) → (∀ c j : Nat, ¬ (c = g ∧ j = 0) → I' c j = I c j) → (∀ c j : Nat, L' c j = L c j) → Q (some (zvl (v))) I' L' R S
theorem sn_Y_fctB : ZSnd 7 21 19 T_Y_fctB := ZSnd.of (zT21_19 6) (by
  rintro args I L R S Q hz ⟨g, s, qq, w, pc, n, q, rfl, hS, hR, hg, hDg, hBB, hGd, hg3, hPB, h31, hn, hq, hQ⟩
  obtain ⟨hP1, hP2, hP3, hP4⟩ := id hPB
  obtain ⟨hb1, hb2, hb3, hb4, hb5, hb6⟩ := id hBB
  have hnn := hGd.2.1.2
  have hnp := hGd.2.1.1
  have hN9 := hGd.2.2.2.2.1
  refine And.intro rfl ?_
  refine And.intro (zA_165 hS) (zrd (v := (bnn s)) hP2 ?_)
  refine And.intro ⟨(by omega), (by omega)⟩ ⟨fun h5 => ?_, fun h5 => ?_⟩
  · refine And.intro (by omega) (And.intro (And.intro (fun h13 => ?_) (And.intro (fun h13 => ?_) (And.intro (fun h13 => ?_) (And.intro (fun h13 => ?_) (And.intro (fun h13 => ?_) True.intro))))) (fun h13 => ?_))
    · refine And.intro (zA_165 hS) (zrdR (v := some 203) (zR_165_23 hR) ?_)
      refine And.intro (zP_203 hS (by omega) (by omega)) (fun v53 e53 r53 => ?_)
      have f53 : v53 = bN s n 0 := (e53.trans ((congrArg (I 203) (by omega)).trans (hP4 n (by omega))))
      refine And.intro r53 ?_
      refine hQ _ _ _ (by first | exact (fcV_n (s := s) (n := n) (q := q) (show bnn s ≤ n by omega)).symm | (have e : q = 0 := (by omega); subst e; rw [fcV_0 (by omega)]; omega) | (have e : q = 1 := (by omega); subst e; rw [fcV_1 (by omega), (hN9 n (by omega)).1]; omega) | (have e : q = 2 := (by omega); subst e; rw [fcV_2 (by omega)]; omega) | (have e : q = 3 := (by omega); subst e; rw [fcV_3 (by omega), g86]; exact gCo_n (by omega)) | (have e : q = 4 := (by omega); subst e; rw [fcV_4 (by omega)]; omega) | (have e : q = 5 := (by omega); subst e; exact (fcV_5 (al := fun _ => -1) (s := s) (n := n) (show n < bnn s by omega)).symm)) (by first | omega | exact zRL rfl | (rw [g86, gCo_n (by omega)]; by_cases q9 : bN s n 2 = 1; (rw [if_pos q9, ← ((hb5 n (by omega)).2.2.2.1 (by omega)).2 q9]; exact hz.2 (g + 13) n); (rw [if_neg q9]; exact zRL rfl))) (fun c j h0 => rfl) (fun c j  => rfl)
    · refine And.intro (zA_165 hS) ⟨_, sn_Y_pdo.up (by decide), ?_⟩
      refine ⟨s, (n : Int), rfl, hS, hR, hPB, hnp, (show r32 (n : Int) from ⟨by omega, by omega⟩), ?_⟩
      intro v58o p58hv
      have g58 : 0 ≤ v58o ∧ v58o ≤ 40 := (by have z := bcn_le (bP s) (n : Int) (bnp s); omega)
      refine And.intro (by omega) ?_
      refine hQ _ _ _ (by first | exact (fcV_n (s := s) (n := n) (q := q) (show bnn s ≤ n by omega)).symm | (have e : q = 0 := (by omega); subst e; rw [fcV_0 (by omega)]; omega) | (have e : q = 1 := (by omega); subst e; rw [fcV_1 (by omega), (hN9 n (by omega)).1]; omega) | (have e : q = 2 := (by omega); subst e; rw [fcV_2 (by omega)]; omega) | (have e : q = 3 := (by omega); subst e; rw [fcV_3 (by omega), g86]; exact gCo_n (by omega)) | (have e : q = 4 := (by omega); subst e; rw [fcV_4 (by omega)]; omega) | (have e : q = 5 := (by omega); subst e; exact (fcV_5 (al := fun _ => -1) (s := s) (n := n) (show n < bnn s by omega)).symm)) (by first | omega | exact zRL rfl | (rw [g86, gCo_n (by omega)]; by_cases q9 : bN s n 2 = 1; (rw [if_pos q9, ← ((hb5 n (by omega)).2.2.2.1 (by omega)).2 q9]; exact hz.2 (g + 13) n); (rw [if_neg q9]; exact zRL rfl))) (fun c j h0 => rfl) (fun c j  => rfl)
    · refine And.intro (zA_165 hS) (zrdR (v := some g) hg ?_)
      refine And.intro (zDX hDg 0 rfl) (zrdR (v := some (g + 10)) (zDR hDg 9 rfl) ?_)
      refine And.intro (Or.inr (zDP hDg 10 rfl rfl (by omega) (by omega))) (fun v71 e71 r71 => ?_)
      have f71 : v71 = bN s n 2 := (e71.trans ((congrArg (I (g + 10)) (by omega)).trans (hb5 n (by omega)).1))
      have f71b : v71 = 0 ∨ v71 = 1 := (by have z := (hN9 n (by omega)).2.2.1; omega)
      refine And.intro r71 ⟨fun h72 => ?_, fun h72 => ?_⟩
      · refine hQ _ _ _ (by first | exact (fcV_n (s := s) (n := n) (q := q) (show bnn s ≤ n by omega)).symm | (have e : q = 0 := (by omega); subst e; rw [fcV_0 (by omega)]; omega) | (have e : q = 1 := (by omega); subst e; rw [fcV_1 (by omega), (hN9 n (by omega)).1]; omega) | (have e : q = 2 := (by omega); subst e; rw [fcV_2 (by omega)]; omega) | (have e : q = 3 := (by omega); subst e; rw [fcV_3 (by omega), g86]; exact gCo_n (by omega)) | (have e : q = 4 := (by omega); subst e; rw [fcV_4 (by omega)]; omega) | (have e : q = 5 := (by omega); subst e; exact (fcV_5 (al := fun _ => -1) (s := s) (n := n) (show n < bnn s by omega)).symm)) (by first | omega | exact zRL rfl | (rw [g86, gCo_n (by omega)]; by_cases q9 : bN s n 2 = 1; (rw [if_pos q9, ← ((hb5 n (by omega)).2.2.2.1 (by omega)).2 q9]; exact hz.2 (g + 13) n); (rw [if_neg q9]; exact zRL rfl))) (fun c j h0 => rfl) (fun c j  => rfl)
      · refine hQ _ _ _ (by first | exact (fcV_n (s := s) (n := n) (q := q) (show bnn s ≤ n by omega)).symm | (have e : q = 0 := (by omega); subst e; rw [fcV_0 (by omega)]; omega) | (have e : q = 1 := (by omega); subst e; rw [fcV_1 (by omega), (hN9 n (by omega)).1]; omega) | (have e : q = 2 := (by omega); subst e; rw [fcV_2 (by omega)]; omega) | (have e : q = 3 := (by omega); subst e; rw [fcV_3 (by omega), g86]; exact gCo_n (by omega)) | (have e : q = 4 := (by omega); subst e; rw [fcV_4 (by omega)]; omega) | (have e : q = 5 := (by omega); subst e; exact (fcV_5 (al := fun _ => -1) (s := s) (n := n) (show n < bnn s by omega)).symm)) (by first | omega | exact zRL rfl | (rw [g86, gCo_n (by omega)]; by_cases q9 : bN s n 2 = 1; (rw [if_pos q9, ← ((hb5 n (by omega)).2.2.2.1 (by omega)).2 q9]; exact hz.2 (g + 13) n); (rw [if_neg q9]; exact zRL rfl))) (fun c j h0 => rfl) (fun c j  => rfl)
    · refine And.intro (zA_165 hS) (zrdR (v := some g) hg ?_)
      refine And.intro (zDX hDg 0 rfl) ⟨_, sn_G_cost.up (by decide), ?_⟩
      refine ⟨g, s, (n : Int), rfl, hDg, hBB, hGd, (show r32 (n : Int) from ⟨by omega, by omega⟩), ?_⟩
      intro v86o I86o p86hth p86bfr
      have g86 : v86o = gCo s (n : Int) := (by rcases p86hth with y | y; exact y.2.2.2; exfalso; omega)
      refine hQ _ _ _ (by first | exact (fcV_n (s := s) (n := n) (q := q) (show bnn s ≤ n by omega)).symm | (have e : q = 0 := (by omega); subst e; rw [fcV_0 (by omega)]; omega) | (have e : q = 1 := (by omega); subst e; rw [fcV_1 (by omega), (hN9 n (by omega)).1]; omega) | (have e : q = 2 := (by omega); subst e; rw [fcV_2 (by omega)]; omega) | (have e : q = 3 := (by omega); subst e; rw [fcV_3 (by omega), g86]; exact gCo_n (by omega)) | (have e : q = 4 := (by omega); subst e; rw [fcV_4 (by omega)]; omega) | (have e : q = 5 := (by omega); subst e; exact (fcV_5 (al := fun _ => -1) (s := s) (n := n) (show n < bnn s by omega)).symm)) (by first | omega | exact zRL rfl | (rw [g86, gCo_n (by omega)]; by_cases q9 : bN s n 2 = 1; (rw [if_pos q9, ← ((hb5 n (by omega)).2.2.2.1 (by omega)).2 q9]; exact hz.2 (g + 13) n); (rw [if_neg q9]; exact zRL rfl))) (fun c j h0 => ((p86bfr c j h0).trans rfl)) (fun c j  => rfl)
    · refine And.intro (zA_165 hS) (zrdR (v := some g) hg ?_)
      refine And.intro (zDX hDg 0 rfl) ⟨_, sn_G_rip.up (by decide), ?_⟩
      refine ⟨g, s, (n : Int), rfl, hDg, hBB, hGd, (show r32 (n : Int) from ⟨by omega, by omega⟩), ?_⟩
      intro v95o I95o p95hth p95bfr
      have g95 : v95o = bN s n 4 := (p95hth (by omega) (by omega))
      have g95b : -2147483648 ≤ v95o ∧ v95o ≤ 2147483647 := (by rw [p95hth (by omega) (by omega)]; exact (show r32 (bN s n 4) from by rw [← (hb5 n (by omega)).2.2.1]; exact hz.1 (g + 14) n))
      refine And.intro (by omega) ?_
      refine hQ _ _ _ (by first | exact (fcV_n (s := s) (n := n) (q := q) (show bnn s ≤ n by omega)).symm | (have e : q = 0 := (by omega); subst e; rw [fcV_0 (by omega)]; omega) | (have e : q = 1 := (by omega); subst e; rw [fcV_1 (by omega), (hN9 n (by omega)).1]; omega) | (have e : q = 2 := (by omega); subst e; rw [fcV_2 (by omega)]; omega) | (have e : q = 3 := (by omega); subst e; rw [fcV_3 (by omega), g86]; exact gCo_n (by omega)) | (have e : q = 4 := (by omega); subst e; rw [fcV_4 (by omega)]; omega) | (have e : q = 5 := (by omega); subst e; exact (fcV_5 (al := fun _ => -1) (s := s) (n := n) (show n < bnn s by omega)).symm)) (by first | omega | exact zRL rfl | (rw [g86, gCo_n (by omega)]; by_cases q9 : bN s n 2 = 1; (rw [if_pos q9, ← ((hb5 n (by omega)).2.2.2.1 (by omega)).2 q9]; exact hz.2 (g + 13) n); (rw [if_neg q9]; exact zRL rfl))) (fun c j h0 => ((p95bfr c j h0).trans rfl)) (fun c j  => rfl)
    · refine And.intro (zA_165 hS) (zrdR (v := none) h31 ?_)
      refine hQ _ _ _ (by first | exact (fcV_n (s := s) (n := n) (q := q) (show bnn s ≤ n by omega)).symm | (have e : q = 0 := (by omega); subst e; rw [fcV_0 (by omega)]; omega) | (have e : q = 1 := (by omega); subst e; rw [fcV_1 (by omega), (hN9 n (by omega)).1]; omega) | (have e : q = 2 := (by omega); subst e; rw [fcV_2 (by omega)]; omega) | (have e : q = 3 := (by omega); subst e; rw [fcV_3 (by omega), g86]; exact gCo_n (by omega)) | (have e : q = 4 := (by omega); subst e; rw [fcV_4 (by omega)]; omega) | (have e : q = 5 := (by omega); subst e; exact (fcV_5 (al := fun _ => -1) (s := s) (n := n) (show n < bnn s by omega)).symm)) (by first | omega | exact zRL rfl | (rw [g86, gCo_n (by omega)]; by_cases q9 : bN s n 2 = 1; (rw [if_pos q9, ← ((hb5 n (by omega)).2.2.2.1 (by omega)).2 q9]; exact hz.2 (g + 13) n); (rw [if_neg q9]; exact zRL rfl))) (fun c j h0 => rfl) (fun c j  => rfl)
  · refine hQ _ _ _ (by first | exact (fcV_n (s := s) (n := n) (q := q) (show bnn s ≤ n by omega)).symm | (have e : q = 0 := (by omega); subst e; rw [fcV_0 (by omega)]; omega) | (have e : q = 1 := (by omega); subst e; rw [fcV_1 (by omega), (hN9 n (by omega)).1]; omega) | (have e : q = 2 := (by omega); subst e; rw [fcV_2 (by omega)]; omega) | (have e : q = 3 := (by omega); subst e; rw [fcV_3 (by omega), g86]; exact gCo_n (by omega)) | (have e : q = 4 := (by omega); subst e; rw [fcV_4 (by omega)]; omega) | (have e : q = 5 := (by omega); subst e; exact (fcV_5 (al := fun _ => -1) (s := s) (n := n) (show n < bnn s by omega)).symm)) (by first | omega | exact zRL rfl | (rw [g86, gCo_n (by omega)]; by_cases q9 : bN s n 2 = 1; (rw [if_pos q9, ← ((hb5 n (by omega)).2.2.2.1 (by omega)).2 q9]; exact hz.2 (g + 13) n); (rw [if_neg q9]; exact zRL rfl))) (fun c j h0 => rfl) (fun c j  => rfl))
def T_Y_fctC : ZT := fun args I L R S Q => ∃ (g : Nat) (s : BdS) (qq : Nat) (w : List CuR) (pc : Nat) (cb : Int) (bb : Int) (n : Nat) (q : Nat), args = [zvr 165, zvi n, zvi q] ∧ (zSh S) ∧ (zRs R) ∧ (R 165 12 = some g) ∧ (zDy zT17 zF17 g R S) ∧ (zBB g (-1) s I L) ∧ (bGd s) ∧ (302 ≤ g) ∧ (zPB s I) ∧ (R 165 31 = some qq) ∧ (¬ cb = bb) ∧ (I 165 30 = cb) ∧ (I 165 14 = bb) ∧ (n < 12) ∧ (q < 6) ∧ ∀ (v : Int) (I' : ZI) (L' : ZI), (v = fcV s (fun n => -1) n q) → (r64 v) → (∀ c j : Nat, ¬ (c = g ∧ j = 0) → I' c j = I c j) → (∀ c j : Nat, L' c j = L c j) → Q (some (zvl (v))) I' L' R S
theorem sn_Y_fctC : ZSnd 7 21 19 T_Y_fctC := ZSnd.of (zT21_19 6) (by
  rintro args I L R S Q hz ⟨g, s, qq, w, pc, cb, bb, n, q, rfl, hS, hR, hg, hDg, hBB, hGd, hg3, hPB, h31, hne, hcb, hbb, hn, hq, hQ⟩
  obtain ⟨hP1, hP2, hP3, hP4⟩ := id hPB
  obtain ⟨hb1, hb2, hb3, hb4, hb5, hb6⟩ := id hBB
  have hnn := hGd.2.1.2
  have hnp := hGd.2.1.1
  have hN9 := hGd.2.2.2.2.1
  obtain ⟨hcb1, hcb2⟩ : r32 cb := by rw [← hcb]; exact hz.1 165 30
  obtain ⟨hbb1, hbb2⟩ : r32 bb := by rw [← hbb]; exact hz.1 165 14
  refine And.intro rfl ?_
  refine And.intro (zA_165 hS) (zrd (v := (bnn s)) hP2 ?_)
  refine And.intro ⟨(by omega), (by omega)⟩ ⟨fun h5 => ?_, fun h5 => ?_⟩
  · refine And.intro (by omega) (And.intro (And.intro (fun h13 => ?_) (And.intro (fun h13 => ?_) (And.intro (fun h13 => ?_) (And.intro (fun h13 => ?_) (And.intro (fun h13 => ?_) True.intro))))) (fun h13 => ?_))
    · refine And.intro (zA_165 hS) (zrdR (v := some 203) (zR_165_23 hR) ?_)
      refine And.intro (zP_203 hS (by omega) (by omega)) (fun v53 e53 r53 => ?_)
      have f53 : v53 = bN s n 0 := (e53.trans ((congrArg (I 203) (by omega)).trans (hP4 n (by omega))))
      refine And.intro r53 ?_
      refine hQ _ _ _ (by first | exact (fcV_n (s := s) (n := n) (q := q) (show bnn s ≤ n by omega)).symm | (have e : q = 0 := (by omega); subst e; rw [fcV_0 (by omega)]; omega) | (have e : q = 1 := (by omega); subst e; rw [fcV_1 (by omega), (hN9 n (by omega)).1]; omega) | (have e : q = 2 := (by omega); subst e; rw [fcV_2 (by omega)]; omega) | (have e : q = 3 := (by omega); subst e; rw [fcV_3 (by omega), g86]; exact gCo_n (by omega)) | (have e : q = 4 := (by omega); subst e; rw [fcV_4 (by omega)]; omega) | (have e : q = 5 := (by omega); subst e; exact (fcV_5 (al := fun _ => -1) (s := s) (n := n) (show n < bnn s by omega)).symm)) (by first | omega | exact zRL rfl | (rw [g86, gCo_n (by omega)]; by_cases q9 : bN s n 2 = 1; (rw [if_pos q9, ← ((hb5 n (by omega)).2.2.2.1 (by omega)).2 q9]; exact hz.2 (g + 13) n); (rw [if_neg q9]; exact zRL rfl))) (fun c j h0 => rfl) (fun c j  => rfl)
    · refine And.intro (zA_165 hS) ⟨_, sn_Y_pdo.up (by decide), ?_⟩
      refine ⟨s, (n : Int), rfl, hS, hR, hPB, hnp, (show r32 (n : Int) from ⟨by omega, by omega⟩), ?_⟩
      intro v58o p58hv
      have g58 : 0 ≤ v58o ∧ v58o ≤ 40 := (by have z := bcn_le (bP s) (n : Int) (bnp s); omega)
      refine And.intro (by omega) ?_
      refine hQ _ _ _ (by first | exact (fcV_n (s := s) (n := n) (q := q) (show bnn s ≤ n by omega)).symm | (have e : q = 0 := (by omega); subst e; rw [fcV_0 (by omega)]; omega) | (have e : q = 1 := (by omega); subst e; rw [fcV_1 (by omega), (hN9 n (by omega)).1]; omega) | (have e : q = 2 := (by omega); subst e; rw [fcV_2 (by omega)]; omega) | (have e : q = 3 := (by omega); subst e; rw [fcV_3 (by omega), g86]; exact gCo_n (by omega)) | (have e : q = 4 := (by omega); subst e; rw [fcV_4 (by omega)]; omega) | (have e : q = 5 := (by omega); subst e; exact (fcV_5 (al := fun _ => -1) (s := s) (n := n) (show n < bnn s by omega)).symm)) (by first | omega | exact zRL rfl | (rw [g86, gCo_n (by omega)]; by_cases q9 : bN s n 2 = 1; (rw [if_pos q9, ← ((hb5 n (by omega)).2.2.2.1 (by omega)).2 q9]; exact hz.2 (g + 13) n); (rw [if_neg q9]; exact zRL rfl))) (fun c j h0 => rfl) (fun c j  => rfl)
    · refine And.intro (zA_165 hS) (zrdR (v := some g) hg ?_)
      refine And.intro (zDX hDg 0 rfl) (zrdR (v := some (g + 10)) (zDR hDg 9 rfl) ?_)
      refine And.intro (Or.inr (zDP hDg 10 rfl rfl (by omega) (by omega))) (fun v71 e71 r71 => ?_)
      have f71 : v71 = bN s n 2 := (e71.trans ((congrArg (I (g + 10)) (by omega)).trans (hb5 n (by omega)).1))
      have f71b : v71 = 0 ∨ v71 = 1 := (by have z := (hN9 n (by omega)).2.2.1; omega)
      refine And.intro r71 ⟨fun h72 => ?_, fun h72 => ?_⟩
      · refine hQ _ _ _ (by first | exact (fcV_n (s := s) (n := n) (q := q) (show bnn s ≤ n by omega)).symm | (have e : q = 0 := (by omega); subst e; rw [fcV_0 (by omega)]; omega) | (have e : q = 1 := (by omega); subst e; rw [fcV_1 (by omega), (hN9 n (by omega)).1]; omega) | (have e : q = 2 := (by omega); subst e; rw [fcV_2 (by omega)]; omega) | (have e : q = 3 := (by omega); subst e; rw [fcV_3 (by omega), g86]; exact gCo_n (by omega)) | (have e : q = 4 := (by omega); subst e; rw [fcV_4 (by omega)]; omega) | (have e : q = 5 := (by omega); subst e; exact (fcV_5 (al := fun _ => -1) (s := s) (n := n) (show n < bnn s by omega)).symm)) (by first | omega | exact zRL rfl | (rw [g86, gCo_n (by omega)]; by_cases q9 : bN s n 2 = 1; (rw [if_pos q9, ← ((hb5 n (by omega)).2.2.2.1 (by omega)).2 q9]; exact hz.2 (g + 13) n); (rw [if_neg q9]; exact zRL rfl))) (fun c j h0 => rfl) (fun c j  => rfl)
      · refine hQ _ _ _ (by first | exact (fcV_n (s := s) (n := n) (q := q) (show bnn s ≤ n by omega)).symm | (have e : q = 0 := (by omega); subst e; rw [fcV_0 (by omega)]; omega) | (have e : q = 1 := (by omega); subst e; rw [fcV_1 (by omega), (hN9 n (by omega)).1]; omega) | (have e : q = 2 := (by omega); subst e; rw [fcV_2 (by omega)]; omega) | (have e : q = 3 := (by omega); subst e; rw [fcV_3 (by omega), g86]; exact gCo_n (by omega)) | (have e : q = 4 := (by omega); subst e; rw [fcV_4 (by omega)]; omega) | (have e : q = 5 := (by omega); subst e; exact (fcV_5 (al := fun _ => -1) (s := s) (n := n) (show n < bnn s by omega)).symm)) (by first | omega | exact zRL rfl | (rw [g86, gCo_n (by omega)]; by_cases q9 : bN s n 2 = 1; (rw [if_pos q9, ← ((hb5 n (by omega)).2.2.2.1 (by omega)).2 q9]; exact hz.2 (g + 13) n); (rw [if_neg q9]; exact zRL rfl))) (fun c j h0 => rfl) (fun c j  => rfl)
    · refine And.intro (zA_165 hS) (zrdR (v := some g) hg ?_)
      refine And.intro (zDX hDg 0 rfl) ⟨_, sn_G_cost.up (by decide), ?_⟩
      refine ⟨g, s, (n : Int), rfl, hDg, hBB, hGd, (show r32 (n : Int) from ⟨by omega, by omega⟩), ?_⟩
      intro v86o I86o p86hth p86bfr
      have g86 : v86o = gCo s (n : Int) := (by rcases p86hth with y | y; exact y.2.2.2; exfalso; omega)
      refine hQ _ _ _ (by first | exact (fcV_n (s := s) (n := n) (q := q) (show bnn s ≤ n by omega)).symm | (have e : q = 0 := (by omega); subst e; rw [fcV_0 (by omega)]; omega) | (have e : q = 1 := (by omega); subst e; rw [fcV_1 (by omega), (hN9 n (by omega)).1]; omega) | (have e : q = 2 := (by omega); subst e; rw [fcV_2 (by omega)]; omega) | (have e : q = 3 := (by omega); subst e; rw [fcV_3 (by omega), g86]; exact gCo_n (by omega)) | (have e : q = 4 := (by omega); subst e; rw [fcV_4 (by omega)]; omega) | (have e : q = 5 := (by omega); subst e; exact (fcV_5 (al := fun _ => -1) (s := s) (n := n) (show n < bnn s by omega)).symm)) (by first | omega | exact zRL rfl | (rw [g86, gCo_n (by omega)]; by_cases q9 : bN s n 2 = 1; (rw [if_pos q9, ← ((hb5 n (by omega)).2.2.2.1 (by omega)).2 q9]; exact hz.2 (g + 13) n); (rw [if_neg q9]; exact zRL rfl))) (fun c j h0 => ((p86bfr c j h0).trans rfl)) (fun c j  => rfl)
    · refine And.intro (zA_165 hS) (zrdR (v := some g) hg ?_)
      refine And.intro (zDX hDg 0 rfl) ⟨_, sn_G_rip.up (by decide), ?_⟩
      refine ⟨g, s, (n : Int), rfl, hDg, hBB, hGd, (show r32 (n : Int) from ⟨by omega, by omega⟩), ?_⟩
      intro v95o I95o p95hth p95bfr
      have g95 : v95o = bN s n 4 := (p95hth (by omega) (by omega))
      have g95b : -2147483648 ≤ v95o ∧ v95o ≤ 2147483647 := (by rw [p95hth (by omega) (by omega)]; exact (show r32 (bN s n 4) from by rw [← (hb5 n (by omega)).2.2.1]; exact hz.1 (g + 14) n))
      refine And.intro (by omega) ?_
      refine hQ _ _ _ (by first | exact (fcV_n (s := s) (n := n) (q := q) (show bnn s ≤ n by omega)).symm | (have e : q = 0 := (by omega); subst e; rw [fcV_0 (by omega)]; omega) | (have e : q = 1 := (by omega); subst e; rw [fcV_1 (by omega), (hN9 n (by omega)).1]; omega) | (have e : q = 2 := (by omega); subst e; rw [fcV_2 (by omega)]; omega) | (have e : q = 3 := (by omega); subst e; rw [fcV_3 (by omega), g86]; exact gCo_n (by omega)) | (have e : q = 4 := (by omega); subst e; rw [fcV_4 (by omega)]; omega) | (have e : q = 5 := (by omega); subst e; exact (fcV_5 (al := fun _ => -1) (s := s) (n := n) (show n < bnn s by omega)).symm)) (by first | omega | exact zRL rfl | (rw [g86, gCo_n (by omega)]; by_cases q9 : bN s n 2 = 1; (rw [if_pos q9, ← ((hb5 n (by omega)).2.2.2.1 (by omega)).2 q9]; exact hz.2 (g + 13) n); (rw [if_neg q9]; exact zRL rfl))) (fun c j h0 => ((p95bfr c j h0).trans rfl)) (fun c j  => rfl)
    · refine And.intro (zA_165 hS) (zrdR (v := some qq) h31 ?_)
      refine And.intro (zA_165 hS) (zrd (v := cb) hcb ?_)
      refine And.intro (zA_165 hS) (zrd (v := bb) hbb ?_)
      refine And.intro ⟨(by omega), (by omega)⟩ ⟨fun h115 => ?_, fun h115 => ?_⟩
      · refine hQ _ _ _ (by first | exact (fcV_n (s := s) (n := n) (q := q) (show bnn s ≤ n by omega)).symm | (have e : q = 0 := (by omega); subst e; rw [fcV_0 (by omega)]; omega) | (have e : q = 1 := (by omega); subst e; rw [fcV_1 (by omega), (hN9 n (by omega)).1]; omega) | (have e : q = 2 := (by omega); subst e; rw [fcV_2 (by omega)]; omega) | (have e : q = 3 := (by omega); subst e; rw [fcV_3 (by omega), g86]; exact gCo_n (by omega)) | (have e : q = 4 := (by omega); subst e; rw [fcV_4 (by omega)]; omega) | (have e : q = 5 := (by omega); subst e; exact (fcV_5 (al := fun _ => -1) (s := s) (n := n) (show n < bnn s by omega)).symm)) (by first | omega | exact zRL rfl | (rw [g86, gCo_n (by omega)]; by_cases q9 : bN s n 2 = 1; (rw [if_pos q9, ← ((hb5 n (by omega)).2.2.2.1 (by omega)).2 q9]; exact hz.2 (g + 13) n); (rw [if_neg q9]; exact zRL rfl))) (fun c j h0 => rfl) (fun c j  => rfl)
      · exact False.elim (by omega)
  · refine hQ _ _ _ (by first | exact (fcV_n (s := s) (n := n) (q := q) (show bnn s ≤ n by omega)).symm | (have e : q = 0 := (by omega); subst e; rw [fcV_0 (by omega)]; omega) | (have e : q = 1 := (by omega); subst e; rw [fcV_1 (by omega), (hN9 n (by omega)).1]; omega) | (have e : q = 2 := (by omega); subst e; rw [fcV_2 (by omega)]; omega) | (have e : q = 3 := (by omega); subst e; rw [fcV_3 (by omega), g86]; exact gCo_n (by omega)) | (have e : q = 4 := (by omega); subst e; rw [fcV_4 (by omega)]; omega) | (have e : q = 5 := (by omega); subst e; exact (fcV_5 (al := fun _ => -1) (s := s) (n := n) (show n < bnn s by omega)).symm)) (by first | omega | exact zRL rfl | (rw [g86, gCo_n (by omega)]; by_cases q9 : bN s n 2 = 1; (rw [if_pos q9, ← ((hb5 n (by omega)).2.2.2.1 (by omega)).2 q9]; exact hz.2 (g + 13) n); (rw [if_neg q9]; exact zRL rfl))) (fun c j h0 => rfl) (fun c j  => rfl))
def T_Y_fctA : ZT := fun args I L R S Q => ∃ (g : Nat) (s : BdS) (qq : Nat) (w : List CuR) (pc : Nat) (cb : Int) (bb : Int) (n : Nat) (q : Nat), args = [zvr 165, zvi n, zvi q] ∧ (zSh S) ∧ (zRs R) ∧ (R 165 12 = some g) ∧ (zDy zT17 zF17 g R S) ∧ (zBB g (-1) s I L) ∧ (bGd s) ∧ (302 ≤ g) ∧ (zPB s I) ∧ (R 165 31 = some qq) ∧ (zDy zT15 zF15 qq R S) ∧ (302 ≤ qq ∧ qq + 14 ≤ g ∨ g + 19 ≤ qq) ∧ (cb = bb) ∧ (zPc qq w pc I L) ∧ (cuG w) ∧ (w.length ≤ 60) ∧ (cuPq w pc) ∧ (I 165 30 = cb) ∧ (I 165 14 = bb) ∧ (n < 12) ∧ (q < 6) ∧ ∀ (v : Int) (I' : ZI) (L' : ZI), (v = fcV s (fun n => cuAc w pc n) n q) → (r64 v) → (∀ c j : Nat, ¬ (c = g ∧ j = 0) → ¬ (c = qq ∧ j = 0) → ¬ (c = qq ∧ j = 17) → ¬ (c = qq ∧ j = 18) → ¬ c = qq + 11 → ¬ c = qq + 12 → ¬ c = qq + 13 → I' c j = I c j) → (∀ c j : Nat, ¬ (c = qq ∧ j = 16) → L' c j = L c j) → Q (some (zvl (v))) I' L' R S
theorem sn_Y_fctA : ZSnd 7 21 19 T_Y_fctA := ZSnd.of (zT21_19 6) (by
  rintro args I L R S Q hz ⟨g, s, qq, w, pc, cb, bb, n, q, rfl, hS, hR, hg, hDg, hBB, hGd, hg3, hPB, h31, hDq, hq3, hne, hPc, hG, hcl, hpq, hcb, hbb, hn, hq, hQ⟩
  obtain ⟨hP1, hP2, hP3, hP4⟩ := id hPB
  obtain ⟨hb1, hb2, hb3, hb4, hb5, hb6⟩ := id hBB
  have hnn := hGd.2.1.2
  have hnp := hGd.2.1.1
  have hN9 := hGd.2.2.2.2.1
  have hpq2 := hpq.2.1
  obtain ⟨hcb1, hcb2⟩ : r32 cb := by rw [← hcb]; exact hz.1 165 30
  obtain ⟨hbb1, hbb2⟩ : r32 bb := by rw [← hbb]; exact hz.1 165 14
  refine And.intro rfl ?_
  refine And.intro (zA_165 hS) (zrd (v := (bnn s)) hP2 ?_)
  refine And.intro ⟨(by omega), (by omega)⟩ ⟨fun h5 => ?_, fun h5 => ?_⟩
  · refine And.intro (by omega) (And.intro (And.intro (fun h13 => ?_) (And.intro (fun h13 => ?_) (And.intro (fun h13 => ?_) (And.intro (fun h13 => ?_) (And.intro (fun h13 => ?_) True.intro))))) (fun h13 => ?_))
    · refine And.intro (zA_165 hS) (zrdR (v := some 203) (zR_165_23 hR) ?_)
      refine And.intro (zP_203 hS (by omega) (by omega)) (fun v53 e53 r53 => ?_)
      have f53 : v53 = bN s n 0 := (e53.trans ((congrArg (I 203) (by omega)).trans (hP4 n (by omega))))
      refine And.intro r53 ?_
      refine hQ _ _ _ (by first | exact (fcV_n (s := s) (n := n) (q := q) (show bnn s ≤ n by omega)).symm | (have e : q = 0 := (by omega); subst e; rw [fcV_0 (by omega)]; omega) | (have e : q = 1 := (by omega); subst e; rw [fcV_1 (by omega), (hN9 n (by omega)).1]; omega) | (have e : q = 2 := (by omega); subst e; rw [fcV_2 (by omega)]; omega) | (have e : q = 3 := (by omega); subst e; rw [fcV_3 (by omega), g86]; exact gCo_n (by omega)) | (have e : q = 4 := (by omega); subst e; rw [fcV_4 (by omega)]; omega) | (have e : q = 5 := (by omega); subst e; exact p123hv.trans (fcV_5 (al := fun n => (cuAc w pc (n : Nat) : Int)) (s := s) (n := n) (show n < bnn s by omega)).symm)) (by first | omega | exact zRL rfl | (rw [g86, gCo_n (by omega)]; by_cases q9 : bN s n 2 = 1; (rw [if_pos q9, ← ((hb5 n (by omega)).2.2.2.1 (by omega)).2 q9]; exact hz.2 (g + 13) n); (rw [if_neg q9]; exact zRL rfl))) (fun c j h0 h1 h2 h3 h4 h5 h6 => rfl) (fun c j h0 => rfl)
    · refine And.intro (zA_165 hS) ⟨_, sn_Y_pdo.up (by decide), ?_⟩
      refine ⟨s, (n : Int), rfl, hS, hR, hPB, hnp, (show r32 (n : Int) from ⟨by omega, by omega⟩), ?_⟩
      intro v58o p58hv
      have g58 : 0 ≤ v58o ∧ v58o ≤ 40 := (by have z := bcn_le (bP s) (n : Int) (bnp s); omega)
      refine And.intro (by omega) ?_
      refine hQ _ _ _ (by first | exact (fcV_n (s := s) (n := n) (q := q) (show bnn s ≤ n by omega)).symm | (have e : q = 0 := (by omega); subst e; rw [fcV_0 (by omega)]; omega) | (have e : q = 1 := (by omega); subst e; rw [fcV_1 (by omega), (hN9 n (by omega)).1]; omega) | (have e : q = 2 := (by omega); subst e; rw [fcV_2 (by omega)]; omega) | (have e : q = 3 := (by omega); subst e; rw [fcV_3 (by omega), g86]; exact gCo_n (by omega)) | (have e : q = 4 := (by omega); subst e; rw [fcV_4 (by omega)]; omega) | (have e : q = 5 := (by omega); subst e; exact p123hv.trans (fcV_5 (al := fun n => (cuAc w pc (n : Nat) : Int)) (s := s) (n := n) (show n < bnn s by omega)).symm)) (by first | omega | exact zRL rfl | (rw [g86, gCo_n (by omega)]; by_cases q9 : bN s n 2 = 1; (rw [if_pos q9, ← ((hb5 n (by omega)).2.2.2.1 (by omega)).2 q9]; exact hz.2 (g + 13) n); (rw [if_neg q9]; exact zRL rfl))) (fun c j h0 h1 h2 h3 h4 h5 h6 => rfl) (fun c j h0 => rfl)
    · refine And.intro (zA_165 hS) (zrdR (v := some g) hg ?_)
      refine And.intro (zDX hDg 0 rfl) (zrdR (v := some (g + 10)) (zDR hDg 9 rfl) ?_)
      refine And.intro (Or.inr (zDP hDg 10 rfl rfl (by omega) (by omega))) (fun v71 e71 r71 => ?_)
      have f71 : v71 = bN s n 2 := (e71.trans ((congrArg (I (g + 10)) (by omega)).trans (hb5 n (by omega)).1))
      have f71b : v71 = 0 ∨ v71 = 1 := (by have z := (hN9 n (by omega)).2.2.1; omega)
      refine And.intro r71 ⟨fun h72 => ?_, fun h72 => ?_⟩
      · refine hQ _ _ _ (by first | exact (fcV_n (s := s) (n := n) (q := q) (show bnn s ≤ n by omega)).symm | (have e : q = 0 := (by omega); subst e; rw [fcV_0 (by omega)]; omega) | (have e : q = 1 := (by omega); subst e; rw [fcV_1 (by omega), (hN9 n (by omega)).1]; omega) | (have e : q = 2 := (by omega); subst e; rw [fcV_2 (by omega)]; omega) | (have e : q = 3 := (by omega); subst e; rw [fcV_3 (by omega), g86]; exact gCo_n (by omega)) | (have e : q = 4 := (by omega); subst e; rw [fcV_4 (by omega)]; omega) | (have e : q = 5 := (by omega); subst e; exact p123hv.trans (fcV_5 (al := fun n => (cuAc w pc (n : Nat) : Int)) (s := s) (n := n) (show n < bnn s by omega)).symm)) (by first | omega | exact zRL rfl | (rw [g86, gCo_n (by omega)]; by_cases q9 : bN s n 2 = 1; (rw [if_pos q9, ← ((hb5 n (by omega)).2.2.2.1 (by omega)).2 q9]; exact hz.2 (g + 13) n); (rw [if_neg q9]; exact zRL rfl))) (fun c j h0 h1 h2 h3 h4 h5 h6 => rfl) (fun c j h0 => rfl)
      · refine hQ _ _ _ (by first | exact (fcV_n (s := s) (n := n) (q := q) (show bnn s ≤ n by omega)).symm | (have e : q = 0 := (by omega); subst e; rw [fcV_0 (by omega)]; omega) | (have e : q = 1 := (by omega); subst e; rw [fcV_1 (by omega), (hN9 n (by omega)).1]; omega) | (have e : q = 2 := (by omega); subst e; rw [fcV_2 (by omega)]; omega) | (have e : q = 3 := (by omega); subst e; rw [fcV_3 (by omega), g86]; exact gCo_n (by omega)) | (have e : q = 4 := (by omega); subst e; rw [fcV_4 (by omega)]; omega) | (have e : q = 5 := (by omega); subst e; exact p123hv.trans (fcV_5 (al := fun n => (cuAc w pc (n : Nat) : Int)) (s := s) (n := n) (show n < bnn s by omega)).symm)) (by first | omega | exact zRL rfl | (rw [g86, gCo_n (by omega)]; by_cases q9 : bN s n 2 = 1; (rw [if_pos q9, ← ((hb5 n (by omega)).2.2.2.1 (by omega)).2 q9]; exact hz.2 (g + 13) n); (rw [if_neg q9]; exact zRL rfl))) (fun c j h0 h1 h2 h3 h4 h5 h6 => rfl) (fun c j h0 => rfl)
    · refine And.intro (zA_165 hS) (zrdR (v := some g) hg ?_)
      refine And.intro (zDX hDg 0 rfl) ⟨_, sn_G_cost.up (by decide), ?_⟩
      refine ⟨g, s, (n : Int), rfl, hDg, hBB, hGd, (show r32 (n : Int) from ⟨by omega, by omega⟩), ?_⟩
      intro v86o I86o p86hth p86bfr
      have g86 : v86o = gCo s (n : Int) := (by rcases p86hth with y | y; exact y.2.2.2; exfalso; omega)
      refine hQ _ _ _ (by first | exact (fcV_n (s := s) (n := n) (q := q) (show bnn s ≤ n by omega)).symm | (have e : q = 0 := (by omega); subst e; rw [fcV_0 (by omega)]; omega) | (have e : q = 1 := (by omega); subst e; rw [fcV_1 (by omega), (hN9 n (by omega)).1]; omega) | (have e : q = 2 := (by omega); subst e; rw [fcV_2 (by omega)]; omega) | (have e : q = 3 := (by omega); subst e; rw [fcV_3 (by omega), g86]; exact gCo_n (by omega)) | (have e : q = 4 := (by omega); subst e; rw [fcV_4 (by omega)]; omega) | (have e : q = 5 := (by omega); subst e; exact p123hv.trans (fcV_5 (al := fun n => (cuAc w pc (n : Nat) : Int)) (s := s) (n := n) (show n < bnn s by omega)).symm)) (by first | omega | exact zRL rfl | (rw [g86, gCo_n (by omega)]; by_cases q9 : bN s n 2 = 1; (rw [if_pos q9, ← ((hb5 n (by omega)).2.2.2.1 (by omega)).2 q9]; exact hz.2 (g + 13) n); (rw [if_neg q9]; exact zRL rfl))) (fun c j h0 h1 h2 h3 h4 h5 h6 => ((p86bfr c j h0).trans rfl)) (fun c j h0 => rfl)
    · refine And.intro (zA_165 hS) (zrdR (v := some g) hg ?_)
      refine And.intro (zDX hDg 0 rfl) ⟨_, sn_G_rip.up (by decide), ?_⟩
      refine ⟨g, s, (n : Int), rfl, hDg, hBB, hGd, (show r32 (n : Int) from ⟨by omega, by omega⟩), ?_⟩
      intro v95o I95o p95hth p95bfr
      have g95 : v95o = bN s n 4 := (p95hth (by omega) (by omega))
      have g95b : -2147483648 ≤ v95o ∧ v95o ≤ 2147483647 := (by rw [p95hth (by omega) (by omega)]; exact (show r32 (bN s n 4) from by rw [← (hb5 n (by omega)).2.2.1]; exact hz.1 (g + 14) n))
      refine And.intro (by omega) ?_
      refine hQ _ _ _ (by first | exact (fcV_n (s := s) (n := n) (q := q) (show bnn s ≤ n by omega)).symm | (have e : q = 0 := (by omega); subst e; rw [fcV_0 (by omega)]; omega) | (have e : q = 1 := (by omega); subst e; rw [fcV_1 (by omega), (hN9 n (by omega)).1]; omega) | (have e : q = 2 := (by omega); subst e; rw [fcV_2 (by omega)]; omega) | (have e : q = 3 := (by omega); subst e; rw [fcV_3 (by omega), g86]; exact gCo_n (by omega)) | (have e : q = 4 := (by omega); subst e; rw [fcV_4 (by omega)]; omega) | (have e : q = 5 := (by omega); subst e; exact p123hv.trans (fcV_5 (al := fun n => (cuAc w pc (n : Nat) : Int)) (s := s) (n := n) (show n < bnn s by omega)).symm)) (by first | omega | exact zRL rfl | (rw [g86, gCo_n (by omega)]; by_cases q9 : bN s n 2 = 1; (rw [if_pos q9, ← ((hb5 n (by omega)).2.2.2.1 (by omega)).2 q9]; exact hz.2 (g + 13) n); (rw [if_neg q9]; exact zRL rfl))) (fun c j h0 h1 h2 h3 h4 h5 h6 => ((p95bfr c j h0).trans rfl)) (fun c j h0 => rfl)
    · refine And.intro (zA_165 hS) (zrdR (v := some qq) h31 ?_)
      refine And.intro (zA_165 hS) (zrd (v := cb) hcb ?_)
      refine And.intro (zA_165 hS) (zrd (v := bb) hbb ?_)
      refine And.intro ⟨(by omega), (by omega)⟩ ⟨(fun h115 => False.elim (by omega)), fun h115 => ?_⟩
      refine And.intro (zA_165 hS) (zrdR (v := some qq) h31 ?_)
      refine And.intro (zDX hDq 0 rfl) ⟨_, sn_W_opn.up (by decide), ?_⟩
      refine ⟨qq, w, pc, (n : Int), rfl, hS, hR, hDq, hPc, hG, hcl, hpq, (by omega), ?_⟩
      intro v123o I123o L123o p123hv p123bhv2 p123bbfr p123bbbfrL
      refine And.intro (by omega) ?_
      refine hQ _ _ _ (by first | exact (fcV_n (s := s) (n := n) (q := q) (show bnn s ≤ n by omega)).symm | (have e : q = 0 := (by omega); subst e; rw [fcV_0 (by omega)]; omega) | (have e : q = 1 := (by omega); subst e; rw [fcV_1 (by omega), (hN9 n (by omega)).1]; omega) | (have e : q = 2 := (by omega); subst e; rw [fcV_2 (by omega)]; omega) | (have e : q = 3 := (by omega); subst e; rw [fcV_3 (by omega), g86]; exact gCo_n (by omega)) | (have e : q = 4 := (by omega); subst e; rw [fcV_4 (by omega)]; omega) | (have e : q = 5 := (by omega); subst e; exact p123hv.trans (fcV_5 (al := fun n => (cuAc w pc (n : Nat) : Int)) (s := s) (n := n) (show n < bnn s by omega)).symm)) (by first | omega | exact zRL rfl | (rw [g86, gCo_n (by omega)]; by_cases q9 : bN s n 2 = 1; (rw [if_pos q9, ← ((hb5 n (by omega)).2.2.2.1 (by omega)).2 q9]; exact hz.2 (g + 13) n); (rw [if_neg q9]; exact zRL rfl))) (fun c j h0 h1 h2 h3 h4 h5 h6 => ((p123bbfr c j h1 h2 h3 h4 h5 h6).trans rfl)) (fun c j h0 => ((p123bbbfrL c j h0).trans rfl))
  · refine hQ _ _ _ (by first | exact (fcV_n (s := s) (n := n) (q := q) (show bnn s ≤ n by omega)).symm | (have e : q = 0 := (by omega); subst e; rw [fcV_0 (by omega)]; omega) | (have e : q = 1 := (by omega); subst e; rw [fcV_1 (by omega), (hN9 n (by omega)).1]; omega) | (have e : q = 2 := (by omega); subst e; rw [fcV_2 (by omega)]; omega) | (have e : q = 3 := (by omega); subst e; rw [fcV_3 (by omega), g86]; exact gCo_n (by omega)) | (have e : q = 4 := (by omega); subst e; rw [fcV_4 (by omega)]; omega) | (have e : q = 5 := (by omega); subst e; exact p123hv.trans (fcV_5 (al := fun n => (cuAc w pc (n : Nat) : Int)) (s := s) (n := n) (show n < bnn s by omega)).symm)) (by first | omega | exact zRL rfl | (rw [g86, gCo_n (by omega)]; by_cases q9 : bN s n 2 = 1; (rw [if_pos q9, ← ((hb5 n (by omega)).2.2.2.1 (by omega)).2 q9]; exact hz.2 (g + 13) n); (rw [if_neg q9]; exact zRL rfl))) (fun c j h0 h1 h2 h3 h4 h5 h6 => rfl) (fun c j h0 => rfl))
def T_Y_fcB : ZT := fun args I L R S Q => ∃ (w : List Int) (D : DtT) (er : Int × Int × Int) (g : Nat) (s : BdS) (qq : Nat) (w2 : List CuR) (pc : Nat), args = [zvr 165] ∧ (zSh S) ∧ (zRs R) ∧ (scB w D er I L) ∧ (R 165 12 = some g) ∧ (zDy zT17 zF17 g R S) ∧ (zBB g (-1) s I L) ∧ (bGd s) ∧ (302 ≤ g) ∧ (zPB s I) ∧ (R 165 31 = none) ∧ ∀ (I' : ZI) (L' : ZI), (I' 165 0 = 0) → (scB w ((D.1.1, 12, fcF s (fun n => -1), D.1.2.2.2), D.2) er I' L') → (∀ c j : Nat, ¬ (c = 165 ∧ j = 0) → ¬ (c = g ∧ j = 0) → ¬ (c = 234 ∧ j = 0) → ¬ (c = 234 ∧ j = 28) → I' c j = I c j) → (∀ c j : Nat, ¬ c = 251 → L' c j = L c j) → Q (some (zvi (1))) I' L' R S
theorem sn_Y_fcB : ZSnd 8 21 20 T_Y_fcB := ZSnd.loops (zT21_20 7) (by
  rintro args I L R S Q hz ⟨w, D, er, g, s, qq, w2, pc, rfl, hS, hR, hB, hg, hDg, hBB, hGd, hg3, hPB, h31, hQ⟩
  have hnn := hGd.2.1.2
  refine ⟨[31, 51], fun nM tM lsM stM I1 L1 R1 S1 => match tM with
      | 31 => ∃ (m : Nat), nM = ((13 - m), 7, 0) ∧ lsM = [some (zvr (165)), some (zvi (m)), none, none, none] ∧ stM = [] ∧ R1 = R ∧ S1 = S ∧ (m ≤ 12) ∧ (I1 165 0 = 0) ∧ (I1 234 28 = m) ∧ (∀ j : Nat, j < 6 * m → L1 251 j = fcF s (fun n => -1) j) ∧ (∀ c j : Nat, ¬ (c = 165 ∧ j = 0) → ¬ (c = g ∧ j = 0) → ¬ (c = 234 ∧ j = 0) → ¬ (c = 234 ∧ j = 28) → I1 c j = I c j) ∧ (∀ c j : Nat, ¬ c = 251 → L1 c j = L c j)
      | 51 => ∃ (m : Nat) (u : Nat) (b3 : Int), nM = ((13 - m), (6 - u), 0) ∧ lsM = [some (zvr (165)), some (zvi (m)), some (zvi (m)), some (zvi (b3)), some (zvi (u))] ∧ stM = [] ∧ R1 = R ∧ S1 = S ∧ (m ≤ 11) ∧ (u ≤ 6) ∧ (0 ≤ b3 ∧ b3 ≤ 1) ∧ (I1 165 0 = 0) ∧ (I1 234 28 = m + 1) ∧ (∀ j : Nat, j < 6 * m + u → L1 251 j = fcF s (fun n => -1) j) ∧ (∀ c j : Nat, ¬ (c = 165 ∧ j = 0) → ¬ (c = g ∧ j = 0) → ¬ (c = 234 ∧ j = 0) → ¬ (c = 234 ∧ j = 28) → I1 c j = I c j) ∧ (∀ c j : Nat, ¬ c = 251 → L1 c j = L c j)
      | _ => False, rfl, ?_, ⟨?_, ?_, True.intro⟩⟩
  · refine And.intro (zA_165 hS) (zrdR (v := some g) hg ?_)
    refine And.intro (zA_165 hS) (Exists.intro _ (And.intro (zinl_ok (zT21_48 6)) (And.intro rfl ?_)))
    refine And.intro (zA_165 hS) ⟨_, (zWi (zRb rfl)), ?_⟩
    refine And.intro (zRb rfl) (zbt rfl ?_)
    refine And.intro (Or.inl rfl) ?_
    refine And.intro (zRb rfl) (zbt rfl ?_)
    refine And.intro (zA_165 hS) (zrdR (v := some 234) (zR_165_47 hR) ?_)
    refine And.intro (zA_234 hS) ⟨_, (zWi (zRb rfl)), ?_⟩
    refine ⟨((13 - (0 : Nat)), 7, 0), [some (zvr (165)), some (zvi ((0 : Nat))), none, none, none], ⟨rfl, rfl, rfl⟩, 0, rfl, rfl, rfl, rfl, rfl, (by omega), (zxcj (by omega) zxe), zxe, (fun j hj => absurd hj (by omega)), (fun c j h0 h1 h2 h3 => (zxcj h3 (zxcj h0 rfl))), (fun c j h0 => rfl)⟩
  · rintro nM lsM stM I1 L1 R1 S1 hz1 ⟨m, rfl, rfl, rfl, rfl, rfl, hm, h0, h28, hF1, fr, frL⟩
    have hBB_1 : zBB g (-1) s I1 L1 := zBB_fr hBB (fun c j h => fr c j (by omega) (by omega) (by omega) (by omega)) (fun c j h => frL c j (by omega))
    have hPB_1 : zPB s I1 := zPB_fr hPB (fun c j h => fr c j (by omega) (by omega) (by omega) (by omega))
    refine And.intro ⟨(by omega), (zRb rfl)⟩ ⟨fun h34 => ?_, fun h34 => ?_⟩
    · refine And.intro (Or.inr rfl) ?_
      refine hQ _ _ h0 (scB_fc hB (h28.trans (by omega)) (fun j9 h9 => hF1 j9 (by omega)) (fun c j h => fr c j (by omega) (by omega) (by omega) (by omega)) (fun c j h => frL c j (by omega))) (fun c j h0 h1 h2 h3 => ((fr c j h0 h1 h2 h3).trans rfl)) (fun c j h0 => ((frL c j h0).trans rfl))
    · refine And.intro (zA_165 hS) (zrdR (v := some 234) (zR_165_47 hR) ?_)
      refine And.intro (zA_234 hS) ⟨_, sn_G_obj.up (by decide), ?_⟩
      refine ⟨m, rfl, hS, hR, h28, (by omega), ?_⟩
      intro I42o L42o p42h28 p42bhL p42bbfr p42bbbfrL
      refine ⟨((13 - m), (6 - (0 : Nat)), 0), zlt6 (by omega), [some (zvr (165)), some (zvi (m)), some (zvi (m)), some (zvi ((0 : Int))), some (zvi ((0 : Nat)))], ⟨rfl, rfl, rfl, rfl, rfl, rfl⟩, m, 0, 0, rfl, rfl, rfl, rfl, rfl, (by omega), (by omega), (by omega), ((p42bbfr _ _ (by omega) (by omega)).trans h0), p42h28, (fun j hj => (p42bhL j (by omega)).trans (hF1 j (by omega))), (fun c j h0 h1 h2 h3 => ((p42bbfr c j h2 h3).trans ((fr c j h0 h1 h2 h3).trans rfl))), (fun c j h0 => ((p42bbbfrL c j h0).trans ((frL c j h0).trans rfl)))⟩
  · rintro nM lsM stM I1 L1 R1 S1 hz1 ⟨m, u, b3, rfl, rfl, rfl, rfl, rfl, hm, hu, hb3, h0, h28, hF1, fr, frL⟩
    have hBB_1 : zBB g (-1) s I1 L1 := zBB_fr hBB (fun c j h => fr c j (by omega) (by omega) (by omega) (by omega)) (fun c j h => frL c j (by omega))
    have hPB_1 : zPB s I1 := zPB_fr hPB (fun c j h => fr c j (by omega) (by omega) (by omega) (by omega))
    refine And.intro ⟨(by omega), (zRb rfl)⟩ ⟨fun h55 => ?_, fun h55 => ?_⟩
    · refine ⟨((13 - (m + 1)), 7, 0), zlt6 (by omega), [some (zvr (165)), some (zvi ((m + 1))), none, none, none], ⟨rfl, rfl, rfl⟩, (m + 1), rfl, rfl, rfl, rfl, rfl, (by omega), h0, (h28.trans (by omega)), (fun j hj => hF1 j (by omega)), (fun c j h0 h1 h2 h3 => ((fr c j h0 h1 h2 h3).trans rfl)), (fun c j h0 => ((frL c j h0).trans rfl))⟩
    · refine And.intro (zA_165 hS) (zrdR (v := some 234) (zR_165_47 hR) ?_)
      refine And.intro (zA_165 hS) ⟨_, sn_Y_fctB.up (by decide), ?_⟩
      refine ⟨g, s, qq, w2, pc, m, u, rfl, hS, hR, hg, hDg, hBB_1, hGd, (by omega), hPB_1, h31, (by omega), (by omega), ?_⟩
      intro v69o I69o L69o p69hv p69bhv64 p69bbfr p69bbbfrL
      refine And.intro (zA_234 hS) ⟨_, sn_G_fld.up (by decide), ?_⟩
      refine ⟨(m + 1), m, u, (v69o : Int), rfl, hS, hR, ((p69bbfr _ _ (by omega)).trans (h28.trans (by omega))), (by omega), (by omega), p69bhv64, ?_⟩
      intro b72o I72o L72o p72hb p72bhL1 p72bbhL p72bbbfr p72bbbbfrL
      have g72 : 0 ≤ b72o ∧ b72o ≤ 1 := (by omega)
      refine ⟨((13 - m), (6 - (u + 1)), 0), zlt6 (by omega), [some (zvr (165)), some (zvi (m)), some (zvi (m)), some (zvi (b72o)), some (zvi ((u + 1)))], ⟨rfl, rfl, rfl, rfl, rfl, rfl⟩, _, (u + 1), b72o, rfl, rfl, rfl, rfl, rfl, (by omega), (by omega), (by omega), (p72bbbfr _ _ (by omega)).trans ((p69bbfr _ _ (by omega)).trans h0), (p72bbbfr _ _ (by omega)).trans ((p69bbfr _ _ (by omega)).trans h28), (fc_1 (f := L69o 251) (fun j hj => (p69bbbfrL 251 j ).trans (hF1 j hj)) (by omega) (p72bhL1.trans p69hv) p72bbhL), (fun c j h0 h1 h2 h3 => ((p72bbbfr c j h2).trans ((p69bbfr c j h1).trans ((fr c j h0 h1 h2 h3).trans rfl)))), (fun c j h0 => ((p72bbbbfrL c j h0).trans ((p69bbbfrL c j).trans ((frL c j h0).trans rfl))))⟩)
def T_Y_fcC : ZT := fun args I L R S Q => ∃ (w : List Int) (D : DtT) (er : Int × Int × Int) (g : Nat) (s : BdS) (qq : Nat) (w2 : List CuR) (pc : Nat) (cb : Int) (bb : Int), args = [zvr 165] ∧ (zSh S) ∧ (zRs R) ∧ (scB w D er I L) ∧ (R 165 12 = some g) ∧ (zDy zT17 zF17 g R S) ∧ (zBB g (-1) s I L) ∧ (bGd s) ∧ (302 ≤ g) ∧ (zPB s I) ∧ (R 165 31 = some qq) ∧ (¬ cb = bb) ∧ (I 165 30 = cb) ∧ (I 165 14 = bb) ∧ ∀ (I' : ZI) (L' : ZI), (I' 165 0 = 0) → (scB w ((D.1.1, 12, fcF s (fun n => -1), D.1.2.2.2), D.2) er I' L') → (∀ c j : Nat, ¬ (c = 165 ∧ j = 0) → ¬ (c = g ∧ j = 0) → ¬ (c = 234 ∧ j = 0) → ¬ (c = 234 ∧ j = 28) → I' c j = I c j) → (∀ c j : Nat, ¬ c = 251 → L' c j = L c j) → Q (some (zvi (1))) I' L' R S
theorem sn_Y_fcC : ZSnd 8 21 20 T_Y_fcC := ZSnd.loops (zT21_20 7) (by
  rintro args I L R S Q hz ⟨w, D, er, g, s, qq, w2, pc, cb, bb, rfl, hS, hR, hB, hg, hDg, hBB, hGd, hg3, hPB, h31, hne, hcb, hbb, hQ⟩
  have hnn := hGd.2.1.2
  refine ⟨[31, 51], fun nM tM lsM stM I1 L1 R1 S1 => match tM with
      | 31 => ∃ (m : Nat), nM = ((13 - m), 7, 0) ∧ lsM = [some (zvr (165)), some (zvi (m)), none, none, none] ∧ stM = [] ∧ R1 = R ∧ S1 = S ∧ (m ≤ 12) ∧ (I1 165 0 = 0) ∧ (I1 234 28 = m) ∧ (∀ j : Nat, j < 6 * m → L1 251 j = fcF s (fun n => -1) j) ∧ (∀ c j : Nat, ¬ (c = 165 ∧ j = 0) → ¬ (c = g ∧ j = 0) → ¬ (c = 234 ∧ j = 0) → ¬ (c = 234 ∧ j = 28) → I1 c j = I c j) ∧ (∀ c j : Nat, ¬ c = 251 → L1 c j = L c j)
      | 51 => ∃ (m : Nat) (u : Nat) (b3 : Int), nM = ((13 - m), (6 - u), 0) ∧ lsM = [some (zvr (165)), some (zvi (m)), some (zvi (m)), some (zvi (b3)), some (zvi (u))] ∧ stM = [] ∧ R1 = R ∧ S1 = S ∧ (m ≤ 11) ∧ (u ≤ 6) ∧ (0 ≤ b3 ∧ b3 ≤ 1) ∧ (I1 165 0 = 0) ∧ (I1 234 28 = m + 1) ∧ (∀ j : Nat, j < 6 * m + u → L1 251 j = fcF s (fun n => -1) j) ∧ (∀ c j : Nat, ¬ (c = 165 ∧ j = 0) → ¬ (c = g ∧ j = 0) → ¬ (c = 234 ∧ j = 0) → ¬ (c = 234 ∧ j = 28) → I1 c j = I c j) ∧ (∀ c j : Nat, ¬ c = 251 → L1 c j = L c j)
      | _ => False, rfl, ?_, ⟨?_, ?_, True.intro⟩⟩
  · refine And.intro (zA_165 hS) (zrdR (v := some g) hg ?_)
    refine And.intro (zA_165 hS) (Exists.intro _ (And.intro (zinl_ok (zT21_48 6)) (And.intro rfl ?_)))
    refine And.intro (zA_165 hS) ⟨_, (zWi (zRb rfl)), ?_⟩
    refine And.intro (zRb rfl) (zbt rfl ?_)
    refine And.intro (Or.inl rfl) ?_
    refine And.intro (zRb rfl) (zbt rfl ?_)
    refine And.intro (zA_165 hS) (zrdR (v := some 234) (zR_165_47 hR) ?_)
    refine And.intro (zA_234 hS) ⟨_, (zWi (zRb rfl)), ?_⟩
    refine ⟨((13 - (0 : Nat)), 7, 0), [some (zvr (165)), some (zvi ((0 : Nat))), none, none, none], ⟨rfl, rfl, rfl⟩, 0, rfl, rfl, rfl, rfl, rfl, (by omega), (zxcj (by omega) zxe), zxe, (fun j hj => absurd hj (by omega)), (fun c j h0 h1 h2 h3 => (zxcj h3 (zxcj h0 rfl))), (fun c j h0 => rfl)⟩
  · rintro nM lsM stM I1 L1 R1 S1 hz1 ⟨m, rfl, rfl, rfl, rfl, rfl, hm, h0, h28, hF1, fr, frL⟩
    have hBB_1 : zBB g (-1) s I1 L1 := zBB_fr hBB (fun c j h => fr c j (by omega) (by omega) (by omega) (by omega)) (fun c j h => frL c j (by omega))
    have hPB_1 : zPB s I1 := zPB_fr hPB (fun c j h => fr c j (by omega) (by omega) (by omega) (by omega))
    have hcb_1 : I1 165 30 = cb := (fr _ _ (by omega) (by omega) (by omega) (by omega)).trans hcb
    have hbb_1 : I1 165 14 = bb := (fr _ _ (by omega) (by omega) (by omega) (by omega)).trans hbb
    refine And.intro ⟨(by omega), (zRb rfl)⟩ ⟨fun h34 => ?_, fun h34 => ?_⟩
    · refine And.intro (Or.inr rfl) ?_
      refine hQ _ _ h0 (scB_fc hB (h28.trans (by omega)) (fun j9 h9 => hF1 j9 (by omega)) (fun c j h => fr c j (by omega) (by omega) (by omega) (by omega)) (fun c j h => frL c j (by omega))) (fun c j h0 h1 h2 h3 => ((fr c j h0 h1 h2 h3).trans rfl)) (fun c j h0 => ((frL c j h0).trans rfl))
    · refine And.intro (zA_165 hS) (zrdR (v := some 234) (zR_165_47 hR) ?_)
      refine And.intro (zA_234 hS) ⟨_, sn_G_obj.up (by decide), ?_⟩
      refine ⟨m, rfl, hS, hR, h28, (by omega), ?_⟩
      intro I42o L42o p42h28 p42bhL p42bbfr p42bbbfrL
      refine ⟨((13 - m), (6 - (0 : Nat)), 0), zlt6 (by omega), [some (zvr (165)), some (zvi (m)), some (zvi (m)), some (zvi ((0 : Int))), some (zvi ((0 : Nat)))], ⟨rfl, rfl, rfl, rfl, rfl, rfl⟩, m, 0, 0, rfl, rfl, rfl, rfl, rfl, (by omega), (by omega), (by omega), ((p42bbfr _ _ (by omega) (by omega)).trans h0), p42h28, (fun j hj => (p42bhL j (by omega)).trans (hF1 j (by omega))), (fun c j h0 h1 h2 h3 => ((p42bbfr c j h2 h3).trans ((fr c j h0 h1 h2 h3).trans rfl))), (fun c j h0 => ((p42bbbfrL c j h0).trans ((frL c j h0).trans rfl)))⟩
  · rintro nM lsM stM I1 L1 R1 S1 hz1 ⟨m, u, b3, rfl, rfl, rfl, rfl, rfl, hm, hu, hb3, h0, h28, hF1, fr, frL⟩
    have hBB_1 : zBB g (-1) s I1 L1 := zBB_fr hBB (fun c j h => fr c j (by omega) (by omega) (by omega) (by omega)) (fun c j h => frL c j (by omega))
    have hPB_1 : zPB s I1 := zPB_fr hPB (fun c j h => fr c j (by omega) (by omega) (by omega) (by omega))
    have hcb_1 : I1 165 30 = cb := (fr _ _ (by omega) (by omega) (by omega) (by omega)).trans hcb
    have hbb_1 : I1 165 14 = bb := (fr _ _ (by omega) (by omega) (by omega) (by omega)).trans hbb
    refine And.intro ⟨(by omega), (zRb rfl)⟩ ⟨fun h55 => ?_, fun h55 => ?_⟩
    · refine ⟨((13 - (m + 1)), 7, 0), zlt6 (by omega), [some (zvr (165)), some (zvi ((m + 1))), none, none, none], ⟨rfl, rfl, rfl⟩, (m + 1), rfl, rfl, rfl, rfl, rfl, (by omega), h0, (h28.trans (by omega)), (fun j hj => hF1 j (by omega)), (fun c j h0 h1 h2 h3 => ((fr c j h0 h1 h2 h3).trans rfl)), (fun c j h0 => ((frL c j h0).trans rfl))⟩
    · refine And.intro (zA_165 hS) (zrdR (v := some 234) (zR_165_47 hR) ?_)
      refine And.intro (zA_165 hS) ⟨_, sn_Y_fctC.up (by decide), ?_⟩
      refine ⟨g, s, qq, w2, pc, cb, bb, m, u, rfl, hS, hR, hg, hDg, hBB_1, hGd, (by omega), hPB_1, h31, hne, hcb_1, hbb_1, (by omega), (by omega), ?_⟩
      intro v69o I69o L69o p69hv p69bhv64 p69bbfr p69bbbfrL
      refine And.intro (zA_234 hS) ⟨_, sn_G_fld.up (by decide), ?_⟩
      refine ⟨(m + 1), m, u, (v69o : Int), rfl, hS, hR, ((p69bbfr _ _ (by omega)).trans (h28.trans (by omega))), (by omega), (by omega), p69bhv64, ?_⟩
      intro b72o I72o L72o p72hb p72bhL1 p72bbhL p72bbbfr p72bbbbfrL
      have g72 : 0 ≤ b72o ∧ b72o ≤ 1 := (by omega)
      refine ⟨((13 - m), (6 - (u + 1)), 0), zlt6 (by omega), [some (zvr (165)), some (zvi (m)), some (zvi (m)), some (zvi (b72o)), some (zvi ((u + 1)))], ⟨rfl, rfl, rfl, rfl, rfl, rfl⟩, _, (u + 1), b72o, rfl, rfl, rfl, rfl, rfl, (by omega), (by omega), (by omega), (p72bbbfr _ _ (by omega)).trans ((p69bbfr _ _ (by omega)).trans h0), (p72bbbfr _ _ (by omega)).trans ((p69bbfr _ _ (by omega)).trans h28), (fc_1 (f := L69o 251) (fun j hj => (p69bbbfrL 251 j ).trans (hF1 j hj)) (by omega) (p72bhL1.trans p69hv) p72bbhL), (fun c j h0 h1 h2 h3 => ((p72bbbfr c j h2).trans ((p69bbfr c j h1).trans ((fr c j h0 h1 h2 h3).trans rfl)))), (fun c j h0 => ((p72bbbbfrL c j h0).trans ((p69bbbfrL c j).trans ((frL c j h0).trans rfl))))⟩)
def T_Y_fcA : ZT := fun args I L R S Q => ∃ (w : List Int) (D : DtT) (er : Int × Int × Int) (g : Nat) (s : BdS) (qq : Nat) (w2 : List CuR) (pc : Nat) (cb : Int) (bb : Int), args = [zvr 165] ∧ (zSh S) ∧ (zRs R) ∧ (scB w D er I L) ∧ (R 165 12 = some g) ∧ (zDy zT17 zF17 g R S) ∧ (zBB g (-1) s I L) ∧ (bGd s) ∧ (302 ≤ g) ∧ (zPB s I) ∧ (R 165 31 = some qq) ∧ (zDy zT15 zF15 qq R S) ∧ (302 ≤ qq ∧ qq + 14 ≤ g ∨ g + 19 ≤ qq) ∧ (cb = bb) ∧ (zPc qq w2 pc I L) ∧ (cuG w2) ∧ (w2.length ≤ 60) ∧ (cuPq w2 pc) ∧ (I 165 30 = cb) ∧ (I 165 14 = bb) ∧ ∀ (I' : ZI) (L' : ZI), (I' 165 0 = 0) → (scB w ((D.1.1, 12, fcF s (fun n => cuAc w2 pc n), D.1.2.2.2), D.2) er I' L') → (∀ c j : Nat, ¬ (c = 165 ∧ j = 0) → ¬ (c = g ∧ j = 0) → ¬ (c = qq ∧ j = 0) → ¬ (c = qq ∧ j = 17) → ¬ (c = qq ∧ j = 18) → ¬ c = qq + 11 → ¬ c = qq + 12 → ¬ c = qq + 13 → ¬ (c = 234 ∧ j = 0) → ¬ (c = 234 ∧ j = 28) → I' c j = I c j) → (∀ c j : Nat, ¬ c = 251 → ¬ (c = qq ∧ j = 16) → L' c j = L c j) → Q (some (zvi (1))) I' L' R S
theorem sn_Y_fcA : ZSnd 8 21 20 T_Y_fcA := ZSnd.loops (zT21_20 7) (by
  rintro args I L R S Q hz ⟨w, D, er, g, s, qq, w2, pc, cb, bb, rfl, hS, hR, hB, hg, hDg, hBB, hGd, hg3, hPB, h31, hDq, hq3, hne, hPc, hG, hcl, hpq, hcb, hbb, hQ⟩
  have hnn := hGd.2.1.2
  refine ⟨[31, 51], fun nM tM lsM stM I1 L1 R1 S1 => match tM with
      | 31 => ∃ (m : Nat), nM = ((13 - m), 7, 0) ∧ lsM = [some (zvr (165)), some (zvi (m)), none, none, none] ∧ stM = [] ∧ R1 = R ∧ S1 = S ∧ (m ≤ 12) ∧ (I1 165 0 = 0) ∧ (I1 234 28 = m) ∧ (∀ j : Nat, j < 6 * m → L1 251 j = fcF s (fun n => cuAc w2 pc n) j) ∧ (∀ c j : Nat, ¬ (c = 165 ∧ j = 0) → ¬ (c = g ∧ j = 0) → ¬ (c = qq ∧ j = 0) → ¬ (c = qq ∧ j = 17) → ¬ (c = qq ∧ j = 18) → ¬ c = qq + 11 → ¬ c = qq + 12 → ¬ c = qq + 13 → ¬ (c = 234 ∧ j = 0) → ¬ (c = 234 ∧ j = 28) → I1 c j = I c j) ∧ (∀ c j : Nat, ¬ c = 251 → ¬ (c = qq ∧ j = 16) → L1 c j = L c j)
      | 51 => ∃ (m : Nat) (u : Nat) (b3 : Int), nM = ((13 - m), (6 - u), 0) ∧ lsM = [some (zvr (165)), some (zvi (m)), some (zvi (m)), some (zvi (b3)), some (zvi (u))] ∧ stM = [] ∧ R1 = R ∧ S1 = S ∧ (m ≤ 11) ∧ (u ≤ 6) ∧ (0 ≤ b3 ∧ b3 ≤ 1) ∧ (I1 165 0 = 0) ∧ (I1 234 28 = m + 1) ∧ (∀ j : Nat, j < 6 * m + u → L1 251 j = fcF s (fun n => cuAc w2 pc n) j) ∧ (∀ c j : Nat, ¬ (c = 165 ∧ j = 0) → ¬ (c = g ∧ j = 0) → ¬ (c = qq ∧ j = 0) → ¬ (c = qq ∧ j = 17) → ¬ (c = qq ∧ j = 18) → ¬ c = qq + 11 → ¬ c = qq + 12 → ¬ c = qq + 13 → ¬ (c = 234 ∧ j = 0) → ¬ (c = 234 ∧ j = 28) → I1 c j = I c j) ∧ (∀ c j : Nat, ¬ c = 251 → ¬ (c = qq ∧ j = 16) → L1 c j = L c j)
      | _ => False, rfl, ?_, ⟨?_, ?_, True.intro⟩⟩
  · refine And.intro (zA_165 hS) (zrdR (v := some g) hg ?_)
    refine And.intro (zA_165 hS) (Exists.intro _ (And.intro (zinl_ok (zT21_48 6)) (And.intro rfl ?_)))
    refine And.intro (zA_165 hS) ⟨_, (zWi (zRb rfl)), ?_⟩
    refine And.intro (zRb rfl) (zbt rfl ?_)
    refine And.intro (Or.inl rfl) ?_
    refine And.intro (zRb rfl) (zbt rfl ?_)
    refine And.intro (zA_165 hS) (zrdR (v := some 234) (zR_165_47 hR) ?_)
    refine And.intro (zA_234 hS) ⟨_, (zWi (zRb rfl)), ?_⟩
    refine ⟨((13 - (0 : Nat)), 7, 0), [some (zvr (165)), some (zvi ((0 : Nat))), none, none, none], ⟨rfl, rfl, rfl⟩, 0, rfl, rfl, rfl, rfl, rfl, (by omega), (zxcj (by omega) zxe), zxe, (fun j hj => absurd hj (by omega)), (fun c j h0 h1 h2 h3 h4 h5 h6 h7 h8 h9 => (zxcj h9 (zxcj h0 rfl))), (fun c j h0 h1 => rfl)⟩
  · rintro nM lsM stM I1 L1 R1 S1 hz1 ⟨m, rfl, rfl, rfl, rfl, rfl, hm, h0, h28, hF1, fr, frL⟩
    have hBB_1 : zBB g (-1) s I1 L1 := zBB_fr hBB (fun c j h => fr c j (by omega) (by omega) (by omega) (by omega) (by omega) (by omega) (by omega) (by omega) (by omega) (by omega)) (fun c j h => frL c j (by omega) (by omega))
    have hPB_1 : zPB s I1 := zPB_fr hPB (fun c j h => fr c j (by omega) (by omega) (by omega) (by omega) (by omega) (by omega) (by omega) (by omega) (by omega) (by omega))
    have hcb_1 : I1 165 30 = cb := (fr _ _ (by omega) (by omega) (by omega) (by omega) (by omega) (by omega) (by omega) (by omega) (by omega) (by omega)).trans hcb
    have hbb_1 : I1 165 14 = bb := (fr _ _ (by omega) (by omega) (by omega) (by omega) (by omega) (by omega) (by omega) (by omega) (by omega) (by omega)).trans hbb
    have hPc_1 : zPc qq w2 pc I1 L1 := zPc_fr hPc (fun c j h => fr c j (by omega) (by omega) (by omega) (by omega) (by omega) (by omega) (by omega) (by omega) (by omega) (by omega)) (fun c j h => frL c j (by omega) (by omega))
    refine And.intro ⟨(by omega), (zRb rfl)⟩ ⟨fun h34 => ?_, fun h34 => ?_⟩
    · refine And.intro (Or.inr rfl) ?_
      refine hQ _ _ h0 (scB_fc hB (h28.trans (by omega)) (fun j9 h9 => hF1 j9 (by omega)) (fun c j h => fr c j (by omega) (by omega) (by omega) (by omega) (by omega) (by omega) (by omega) (by omega) (by omega) (by omega)) (fun c j h => frL c j (by omega) (by omega))) (fun c j h0 h1 h2 h3 h4 h5 h6 h7 h8 h9 => ((fr c j h0 h1 h2 h3 h4 h5 h6 h7 h8 h9).trans rfl)) (fun c j h0 h1 => ((frL c j h0 h1).trans rfl))
    · refine And.intro (zA_165 hS) (zrdR (v := some 234) (zR_165_47 hR) ?_)
      refine And.intro (zA_234 hS) ⟨_, sn_G_obj.up (by decide), ?_⟩
      refine ⟨m, rfl, hS, hR, h28, (by omega), ?_⟩
      intro I42o L42o p42h28 p42bhL p42bbfr p42bbbfrL
      refine ⟨((13 - m), (6 - (0 : Nat)), 0), zlt6 (by omega), [some (zvr (165)), some (zvi (m)), some (zvi (m)), some (zvi ((0 : Int))), some (zvi ((0 : Nat)))], ⟨rfl, rfl, rfl, rfl, rfl, rfl⟩, m, 0, 0, rfl, rfl, rfl, rfl, rfl, (by omega), (by omega), (by omega), ((p42bbfr _ _ (by omega) (by omega)).trans h0), p42h28, (fun j hj => (p42bhL j (by omega)).trans (hF1 j (by omega))), (fun c j h0 h1 h2 h3 h4 h5 h6 h7 h8 h9 => ((p42bbfr c j h8 h9).trans ((fr c j h0 h1 h2 h3 h4 h5 h6 h7 h8 h9).trans rfl))), (fun c j h0 h1 => ((p42bbbfrL c j h0).trans ((frL c j h0 h1).trans rfl)))⟩
  · rintro nM lsM stM I1 L1 R1 S1 hz1 ⟨m, u, b3, rfl, rfl, rfl, rfl, rfl, hm, hu, hb3, h0, h28, hF1, fr, frL⟩
    have hBB_1 : zBB g (-1) s I1 L1 := zBB_fr hBB (fun c j h => fr c j (by omega) (by omega) (by omega) (by omega) (by omega) (by omega) (by omega) (by omega) (by omega) (by omega)) (fun c j h => frL c j (by omega) (by omega))
    have hPB_1 : zPB s I1 := zPB_fr hPB (fun c j h => fr c j (by omega) (by omega) (by omega) (by omega) (by omega) (by omega) (by omega) (by omega) (by omega) (by omega))
    have hcb_1 : I1 165 30 = cb := (fr _ _ (by omega) (by omega) (by omega) (by omega) (by omega) (by omega) (by omega) (by omega) (by omega) (by omega)).trans hcb
    have hbb_1 : I1 165 14 = bb := (fr _ _ (by omega) (by omega) (by omega) (by omega) (by omega) (by omega) (by omega) (by omega) (by omega) (by omega)).trans hbb
    have hPc_1 : zPc qq w2 pc I1 L1 := zPc_fr hPc (fun c j h => fr c j (by omega) (by omega) (by omega) (by omega) (by omega) (by omega) (by omega) (by omega) (by omega) (by omega)) (fun c j h => frL c j (by omega) (by omega))
    refine And.intro ⟨(by omega), (zRb rfl)⟩ ⟨fun h55 => ?_, fun h55 => ?_⟩
    · refine ⟨((13 - (m + 1)), 7, 0), zlt6 (by omega), [some (zvr (165)), some (zvi ((m + 1))), none, none, none], ⟨rfl, rfl, rfl⟩, (m + 1), rfl, rfl, rfl, rfl, rfl, (by omega), h0, (h28.trans (by omega)), (fun j hj => hF1 j (by omega)), (fun c j h0 h1 h2 h3 h4 h5 h6 h7 h8 h9 => ((fr c j h0 h1 h2 h3 h4 h5 h6 h7 h8 h9).trans rfl)), (fun c j h0 h1 => ((frL c j h0 h1).trans rfl))⟩
    · refine And.intro (zA_165 hS) (zrdR (v := some 234) (zR_165_47 hR) ?_)
      refine And.intro (zA_165 hS) ⟨_, sn_Y_fctA.up (by decide), ?_⟩
      refine ⟨g, s, qq, w2, pc, cb, bb, m, u, rfl, hS, hR, hg, hDg, hBB_1, hGd, (by omega), hPB_1, h31, hDq, hq3, hne, hPc_1, hG, hcl, hpq, hcb_1, hbb_1, (by omega), (by omega), ?_⟩
      intro v69o I69o L69o p69hv p69bhv64 p69bbfr p69bbbfrL
      refine And.intro (zA_234 hS) ⟨_, sn_G_fld.up (by decide), ?_⟩
      refine ⟨(m + 1), m, u, (v69o : Int), rfl, hS, hR, ((p69bbfr _ _ (by omega) (by omega) (by omega) (by omega) (by omega) (by omega) (by omega)).trans (h28.trans (by omega))), (by omega), (by omega), p69bhv64, ?_⟩
      intro b72o I72o L72o p72hb p72bhL1 p72bbhL p72bbbfr p72bbbbfrL
      have g72 : 0 ≤ b72o ∧ b72o ≤ 1 := (by omega)
      refine ⟨((13 - m), (6 - (u + 1)), 0), zlt6 (by omega), [some (zvr (165)), some (zvi (m)), some (zvi (m)), some (zvi (b72o)), some (zvi ((u + 1)))], ⟨rfl, rfl, rfl, rfl, rfl, rfl⟩, _, (u + 1), b72o, rfl, rfl, rfl, rfl, rfl, (by omega), (by omega), (by omega), (p72bbbfr _ _ (by omega)).trans ((p69bbfr _ _ (by omega) (by omega) (by omega) (by omega) (by omega) (by omega) (by omega)).trans h0), (p72bbbfr _ _ (by omega)).trans ((p69bbfr _ _ (by omega) (by omega) (by omega) (by omega) (by omega) (by omega) (by omega)).trans h28), (fc_1 (f := L69o 251) (fun j hj => (p69bbbfrL 251 j (by omega)).trans (hF1 j hj)) (by omega) (p72bhL1.trans p69hv) p72bbhL), (fun c j h0 h1 h2 h3 h4 h5 h6 h7 h8 h9 => ((p72bbbfr c j h8).trans ((p69bbfr c j h1 h2 h3 h4 h5 h6 h7).trans ((fr c j h0 h1 h2 h3 h4 h5 h6 h7 h8 h9).trans rfl)))), (fun c j h0 h1 => ((p72bbbbfrL c j h0).trans ((p69bbbfrL c j h1).trans ((frL c j h0 h1).trans rfl))))⟩)
