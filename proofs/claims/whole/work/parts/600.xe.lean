/-! xe -/
def T_V_rf1 : ZT := fun args I L R S Q => ∃ (k : Nat) (w : List CuR) (nr : Nat) (rf : Nat → Nat → Int) (kd : Int) (b : Int) (a : Int) (i : Nat), args = [zvr k, zvi b, zvi a, zvi (-1)] ∧ (zSh S) ∧ (zRs R) ∧ (zDy zT14 zF14 k R S) ∧ (zCk k w I L) ∧ (cuG w) ∧ (zCr k nr rf I L) ∧ (cuRg nr rf) ∧ (a = i ∧ i < w.length) ∧ (0 ≤ kd ∧ kd ≤ 5 ∧ b = cuRk kd) ∧ ∀ (v : Int), (cuBe rf kd (cg w i 0) (-1) nr v) → (-1 ≤ v ∧ v < nr) → Q (some (zvi (v))) I L R S
theorem sn_V_rf1 : ZSnd 2 14 30 T_V_rf1 := ZSnd.loops (zT14_30 1) (by
  rintro args I L R S Q hz ⟨k, w, nr, rf, kd, b, a, i, rfl, hS, hR, hd, hCk, hG, hCr, hRg, hi, hkd, hQ⟩
  have hk5 := hd.1
  obtain ⟨hc0, hcl, hck⟩ := id hCk
  obtain ⟨hr0, hrl, hrr⟩ := id hCr
  refine ⟨[6], fun nM tM lsM stM I1 L1 R1 S1 => match tM with
      | 6 => ∃ (u : Int) (m : Nat), nM = ((31 - m), 0, 0) ∧ lsM = [some (zvr (k)), some (zvi (b)), some (zvi (a)), some (zvi ((-1))), some (zvi (u)), some (zvi (m)), none] ∧ stM = [] ∧ I1 = I ∧ L1 = L ∧ R1 = R ∧ S1 = S ∧ (m ≤ nr) ∧ (-1 ≤ u ∧ u < m) ∧ (cuBe rf kd (cg w i 0) (-1) m u)
      | _ => False, rfl, ?_, ⟨?_, True.intro⟩⟩
  · refine ⟨((31 - (0 : Nat)), 0, 0), [some (zvr (k)), some (zvi (b)), some (zvi (a)), some (zvi ((-1))), some (zvi (((-1) : Int))), some (zvi ((0 : Nat))), none], ⟨rfl, rfl, rfl, rfl, (congrArg (fun z => some (zvi z)) (by omega)), rfl, rfl⟩, (-1), 0, rfl, rfl, rfl, rfl, rfl, rfl, rfl, (by omega), (by omega), cuBe_0⟩
  · rintro nM lsM stM I1 L1 R1 S1 hz1 ⟨u, m, rfl, rfl, rfl, rfl, rfl, rfl, rfl, hm, hub2, hbe⟩
    have hub := cuBe_b hbe
    have hkb := cuRk_c kd
    have hgi := hG i hi.2
    refine And.intro (zDX hd 0 rfl) (zrd (v := nr) hr0 ?_)
    refine And.intro ⟨(by omega), (by omega)⟩ ⟨fun h12 => ?_, fun h12 => ?_⟩
    · refine hQ _ (by have e : m = nr := (by omega); rw [← e]; exact hbe) (by omega)
    · refine And.intro (zDX hd 0 rfl) (zrdR (v := some (k + 9)) (zDR hd 8 rfl) ?_)
      refine And.intro (zDP hd 9 rfl rfl (by omega) (by omega)) (fun v21 e21 r21 => ?_)
      have f21 : v21 = cuRk (rf m 0) := (e21.trans ((congrArg (I1 (k + 9)) (show _ = m by omega)).trans (hrr m (by omega)).1))
      have f21b : (rf m 0 < 3 ∧ v21 = rf m 0) ∨ (3 ≤ rf m 0 ∧ v21 = rf m 0 + 1) := (by have z := cuRk_c (rf m 0); rcases z with z | z; exact Or.inl ⟨z.1, by omega⟩; exact Or.inr ⟨z.1, by omega⟩)
      have f21bb : 0 ≤ v21 ∧ v21 ≤ 5 := (by have z := hRg m (by omega); omega)
      refine And.intro ⟨r21, (by omega)⟩ ⟨fun h23 => ?_, fun h23 => ?_⟩
      · refine And.intro ⟨(zRb rfl), (zRb rfl)⟩ (zbf rfl ?_)
        refine And.intro (zDX hd 0 rfl) (zrdR (v := some (k + 10)) (zDR hd 9 rfl) ?_)
        refine And.intro (zDP hd 10 rfl rfl (by omega) (by omega)) (fun v40 e40 r40 => ?_)
        have f40 : v40 = rf m 1 := (e40.trans ((congrArg (I1 (k + 10)) (show _ = m by omega)).trans (hrr m (by omega)).2.1))
        have f40b : -1 ≤ v40 ∧ v40 ≤ 3 := (by have z := hRg m (by omega); omega)
        refine And.intro (zDX hd 0 rfl) (zrdR (v := some (k + 4)) (zDR hd 3 rfl) ?_)
        refine And.intro (zDP hd 4 rfl rfl (by omega) (by omega)) (fun v46 e46 r46 => ?_)
        have f46 : v46 = cg w i 0 := (e46.trans ((congrArg (I1 (k + 4)) (show _ = i by omega)).trans (hck i (by omega)).1.2.2.2.1))
        have f46b : 0 ≤ v46 ∧ v46 ≤ 3 := (by have z := (hG i (by omega)).1; omega)
        refine ⟨_, sn_V_iso.up (by decide), ?_⟩
        refine ⟨(v40 : Int), (v46 : Int), rfl, (by omega), ?_⟩
        intro v47o p47hv
        have g47 : (v47o = 1 ∧ cuTh rf m (cg w i 0) (-1)) ∨ (v47o = 0 ∧ ¬ cuTh rf m (cg w i 0) (-1)) := (by have q1 : v40 = rf m 1 := (by omega); have q2 : v46 = cg w i 0 := (by omega); have z := p47hv; rw [q1, q2, ← cuTh_1] at z; exact z)
        refine And.intro (by omega) ⟨fun h138 => ?_, fun h138 => ?_⟩
        · refine ⟨((31 - (m + 1)), 0, 0), zlt6 (by omega), [some (zvr (k)), some (zvi (b)), some (zvi (a)), some (zvi ((-1))), some (zvi (u)), some (zvi ((m + 1))), none], ⟨rfl, rfl, rfl, rfl, rfl, rfl, rfl⟩, u, (m + 1), rfl, rfl, rfl, rfl, rfl, rfl, rfl, (by omega), (by omega), ?_⟩
          · first
            | exact cuBe_n hbe (fun q => by have z := q.1; omega)
            | exact cuBe_y ⟨by omega, by rcases g47 with z | z; exact z.2; (exfalso; omega)⟩
            | exact cuBe_n hbe (fun q => by rcases g47 with z | z; omega; exact z.2 q.2)
        · refine ⟨((31 - (m + 1)), 0, 0), zlt6 (by omega), [some (zvr (k)), some (zvi (b)), some (zvi (a)), some (zvi ((-1))), some (zvi (m)), some (zvi ((m + 1))), none], ⟨rfl, rfl, rfl, rfl, rfl, rfl, rfl⟩, m, (m + 1), rfl, rfl, rfl, rfl, rfl, rfl, rfl, (by omega), (by omega), ?_⟩
          · first
            | exact cuBe_n hbe (fun q => by have z := q.1; omega)
            | exact cuBe_y ⟨by omega, by rcases g47 with z | z; exact z.2; (exfalso; omega)⟩
            | exact cuBe_n hbe (fun q => by rcases g47 with z | z; omega; exact z.2 q.2)
      · refine ⟨((31 - (m + 1)), 0, 0), zlt6 (by omega), [some (zvr (k)), some (zvi (b)), some (zvi (a)), some (zvi ((-1))), some (zvi (u)), some (zvi ((m + 1))), none], ⟨rfl, rfl, rfl, rfl, rfl, rfl, rfl⟩, u, (m + 1), rfl, rfl, rfl, rfl, rfl, rfl, rfl, (by omega), (by omega), ?_⟩
        · first
          | exact cuBe_n hbe (fun q => by have z := q.1; omega)
          | exact cuBe_y ⟨by omega, by rcases g47 with z | z; exact z.2; (exfalso; omega)⟩
          | exact cuBe_n hbe (fun q => by rcases g47 with z | z; omega; exact z.2 q.2))
def T_V_rf2 : ZT := fun args I L R S Q => ∃ (k : Nat) (w : List CuR) (nr : Nat) (rf : Nat → Nat → Int) (kd : Int) (b : Int) (a : Int) (i : Nat) (c : Int) (j : Nat), args = [zvr k, zvi b, zvi a, zvi c] ∧ (zSh S) ∧ (zRs R) ∧ (zDy zT14 zF14 k R S) ∧ (zCk k w I L) ∧ (cuG w) ∧ (zCr k nr rf I L) ∧ (cuRg nr rf) ∧ (a = i ∧ i < w.length) ∧ (c = j ∧ j < w.length) ∧ (0 ≤ kd ∧ kd ≤ 5 ∧ b = cuRk kd) ∧ ∀ (v : Int), (cuBe rf kd (cg w i 0) (cg w j 0) nr v) → (-1 ≤ v ∧ v < nr) → Q (some (zvi (v))) I L R S
theorem sn_V_rf2 : ZSnd 2 14 30 T_V_rf2 := ZSnd.loops (zT14_30 1) (by
  rintro args I L R S Q hz ⟨k, w, nr, rf, kd, b, a, i, c, j, rfl, hS, hR, hd, hCk, hG, hCr, hRg, hi, hj, hkd, hQ⟩
  have hk5 := hd.1
  obtain ⟨hc0, hcl, hck⟩ := id hCk
  obtain ⟨hr0, hrl, hrr⟩ := id hCr
  refine ⟨[6], fun nM tM lsM stM I1 L1 R1 S1 => match tM with
      | 6 => ∃ (u : Int) (m : Nat), nM = ((31 - m), 0, 0) ∧ lsM = [some (zvr (k)), some (zvi (b)), some (zvi (a)), some (zvi (c)), some (zvi (u)), some (zvi (m)), none] ∧ stM = [] ∧ I1 = I ∧ L1 = L ∧ R1 = R ∧ S1 = S ∧ (m ≤ nr) ∧ (-1 ≤ u ∧ u < m) ∧ (cuBe rf kd (cg w i 0) (cg w j 0) m u)
      | _ => False, rfl, ?_, ⟨?_, True.intro⟩⟩
  · refine ⟨((31 - (0 : Nat)), 0, 0), [some (zvr (k)), some (zvi (b)), some (zvi (a)), some (zvi (c)), some (zvi (((-1) : Int))), some (zvi ((0 : Nat))), none], ⟨rfl, rfl, rfl, rfl, (congrArg (fun z => some (zvi z)) (by omega)), rfl, rfl⟩, (-1), 0, rfl, rfl, rfl, rfl, rfl, rfl, rfl, (by omega), (by omega), cuBe_0⟩
  · rintro nM lsM stM I1 L1 R1 S1 hz1 ⟨u, m, rfl, rfl, rfl, rfl, rfl, rfl, rfl, hm, hub2, hbe⟩
    have hub := cuBe_b hbe
    have hkb := cuRk_c kd
    have hgi := hG i hi.2
    have hgj := hG j hj.2
    refine And.intro (zDX hd 0 rfl) (zrd (v := nr) hr0 ?_)
    refine And.intro ⟨(by omega), (by omega)⟩ ⟨fun h12 => ?_, fun h12 => ?_⟩
    · refine hQ _ (by have e : m = nr := (by omega); rw [← e]; exact hbe) (by omega)
    · refine And.intro (zDX hd 0 rfl) (zrdR (v := some (k + 9)) (zDR hd 8 rfl) ?_)
      refine And.intro (zDP hd 9 rfl rfl (by omega) (by omega)) (fun v21 e21 r21 => ?_)
      have f21 : v21 = cuRk (rf m 0) := (e21.trans ((congrArg (I1 (k + 9)) (show _ = m by omega)).trans (hrr m (by omega)).1))
      have f21b : (rf m 0 < 3 ∧ v21 = rf m 0) ∨ (3 ≤ rf m 0 ∧ v21 = rf m 0 + 1) := (by have z := cuRk_c (rf m 0); rcases z with z | z; exact Or.inl ⟨z.1, by omega⟩; exact Or.inr ⟨z.1, by omega⟩)
      have f21bb : 0 ≤ v21 ∧ v21 ≤ 5 := (by have z := hRg m (by omega); omega)
      refine And.intro ⟨r21, (by omega)⟩ ⟨fun h23 => ?_, fun h23 => ?_⟩
      · refine And.intro ⟨(by omega), (zRb rfl)⟩ ⟨fun h31 => ?_, (fun h31 => False.elim (by omega))⟩
        refine And.intro (zDX hd 0 rfl) (zrdR (v := some (k + 10)) (zDR hd 9 rfl) ?_)
        refine And.intro (zDP hd 10 rfl rfl (by omega) (by omega)) (fun v59 e59 r59 => ?_)
        have f59 : v59 = rf m 1 := (e59.trans ((congrArg (I1 (k + 10)) (show _ = m by omega)).trans (hrr m (by omega)).2.1))
        have f59b : -1 ≤ v59 ∧ v59 ≤ 3 := (by have z := hRg m (by omega); omega)
        refine And.intro (zDX hd 0 rfl) (zrdR (v := some (k + 4)) (zDR hd 3 rfl) ?_)
        refine And.intro (zDP hd 4 rfl rfl (by omega) (by omega)) (fun v65 e65 r65 => ?_)
        have f65 : v65 = cg w i 0 := (e65.trans ((congrArg (I1 (k + 4)) (show _ = i by omega)).trans (hck i (by omega)).1.2.2.2.1))
        have f65b : 0 ≤ v65 ∧ v65 ≤ 3 := (by have z := (hG i (by omega)).1; omega)
        refine ⟨_, sn_V_iso.up (by decide), ?_⟩
        refine ⟨(v59 : Int), (v65 : Int), rfl, (by omega), ?_⟩
        intro v66o p66hv
        have g66 : (v66o = 1 ∧ cuIs (rf m 1) (cg w i 0)) ∨ (v66o = 0 ∧ ¬ cuIs (rf m 1) (cg w i 0)) := (by have q1 : v59 = rf m 1 := (by omega); have q2 : v65 = cg w i 0 := (by omega); have z := p66hv; rw [q1, q2] at z; exact z)
        refine And.intro (by omega) ⟨fun h69 => ?_, fun h69 => ?_⟩
        · refine And.intro (zDX hd 0 rfl) (zrdR (v := some (k + 10)) (zDR hd 9 rfl) ?_)
          refine And.intro (zDP hd 10 rfl rfl (by omega) (by omega)) (fun v97 e97 r97 => ?_)
          have f97 : v97 = rf m 1 := (e97.trans ((congrArg (I1 (k + 10)) (show _ = m by omega)).trans (hrr m (by omega)).2.1))
          have f97b : -1 ≤ v97 ∧ v97 ≤ 3 := (by have z := hRg m (by omega); omega)
          refine And.intro (zDX hd 0 rfl) (zrdR (v := some (k + 4)) (zDR hd 3 rfl) ?_)
          refine And.intro (zDP hd 4 rfl rfl (by omega) (by omega)) (fun v103 e103 r103 => ?_)
          have f103 : v103 = cg w j 0 := (e103.trans ((congrArg (I1 (k + 4)) (show _ = j by omega)).trans (hck j (by omega)).1.2.2.2.1))
          have f103b : 0 ≤ v103 ∧ v103 ≤ 3 := (by have z := (hG j (by omega)).1; omega)
          refine ⟨_, sn_V_iso.up (by decide), ?_⟩
          refine ⟨(v97 : Int), (v103 : Int), rfl, (by omega), ?_⟩
          intro v104o p104hv
          have g104 : (v104o = 1 ∧ cuIs (rf m 1) (cg w j 0)) ∨ (v104o = 0 ∧ ¬ cuIs (rf m 1) (cg w j 0)) := (by have q1 : v97 = rf m 1 := (by omega); have q2 : v103 = cg w j 0 := (by omega); have z := p104hv; rw [q1, q2] at z; exact z)
          refine And.intro (by omega) ⟨fun h107 => ?_, fun h107 => ?_⟩
          · refine And.intro (zRb rfl) (zbt rfl ?_)
            refine ⟨((31 - (m + 1)), 0, 0), zlt6 (by omega), [some (zvr (k)), some (zvi (b)), some (zvi (a)), some (zvi (c)), some (zvi (u)), some (zvi ((m + 1))), none], ⟨rfl, rfl, rfl, rfl, rfl, rfl, rfl⟩, u, (m + 1), rfl, rfl, rfl, rfl, rfl, rfl, rfl, (by omega), (by omega), ?_⟩
            · first
              | exact cuBe_n hbe (fun q => by have z := q.1; omega)
              | (have T := cuTh_2 (rf := rf) (m := m) (c := cg w i 0) (o := cg w j 0) hgj.1.1
                 first
                 | (refine cuBe_y ⟨by omega, T.mpr ?_⟩
                    first
                    | exact Or.inl ⟨by rcases g66 with z | z; exact z.2; (exfalso; omega), by rcases g85 with z | z; exact z.2; (exfalso; omega)⟩
                    | exact Or.inr ⟨by rcases g104 with z | z; exact z.2; (exfalso; omega), by rcases g123 with z | z; exact z.2; (exfalso; omega)⟩)
                 | (refine cuBe_n hbe (fun q => ?_)
                    rcases T.mp q.2 with y | y
                    · first
                      | (rcases g66 with z | z; (exfalso; omega); exact z.2 y.1)
                      | (rcases g85 with z | z; (exfalso; omega); exact z.2 y.2)
                    · first
                      | (rcases g104 with z | z; (exfalso; omega); exact z.2 y.1)
                      | (rcases g123 with z | z; (exfalso; omega); exact z.2 y.2)))
          · refine And.intro (zDX hd 0 rfl) (zrdR (v := some (k + 11)) (zDR hd 10 rfl) ?_)
            refine And.intro (zDP hd 11 rfl rfl (by omega) (by omega)) (fun v116 e116 r116 => ?_)
            have f116 : v116 = rf m 2 := (e116.trans ((congrArg (I1 (k + 11)) (show _ = m by omega)).trans (hrr m (by omega)).2.2.1))
            have f116b : -1 ≤ v116 ∧ v116 ≤ 3 := (by have z := hRg m (by omega); omega)
            refine And.intro (zDX hd 0 rfl) (zrdR (v := some (k + 4)) (zDR hd 3 rfl) ?_)
            refine And.intro (zDP hd 4 rfl rfl (by omega) (by omega)) (fun v122 e122 r122 => ?_)
            have f122 : v122 = cg w i 0 := (e122.trans ((congrArg (I1 (k + 4)) (show _ = i by omega)).trans (hck i (by omega)).1.2.2.2.1))
            have f122b : 0 ≤ v122 ∧ v122 ≤ 3 := (by have z := (hG i (by omega)).1; omega)
            refine ⟨_, sn_V_iso.up (by decide), ?_⟩
            refine ⟨(v116 : Int), (v122 : Int), rfl, (by omega), ?_⟩
            intro v123o p123hv
            have g123 : (v123o = 1 ∧ cuIs (rf m 2) (cg w i 0)) ∨ (v123o = 0 ∧ ¬ cuIs (rf m 2) (cg w i 0)) := (by have q1 : v116 = rf m 2 := (by omega); have q2 : v122 = cg w i 0 := (by omega); have z := p123hv; rw [q1, q2] at z; exact z)
            refine And.intro (by omega) ⟨fun h126 => ?_, fun h126 => ?_⟩
            · refine And.intro (zRb rfl) (zbt rfl ?_)
              refine ⟨((31 - (m + 1)), 0, 0), zlt6 (by omega), [some (zvr (k)), some (zvi (b)), some (zvi (a)), some (zvi (c)), some (zvi (u)), some (zvi ((m + 1))), none], ⟨rfl, rfl, rfl, rfl, rfl, rfl, rfl⟩, u, (m + 1), rfl, rfl, rfl, rfl, rfl, rfl, rfl, (by omega), (by omega), ?_⟩
              · first
                | exact cuBe_n hbe (fun q => by have z := q.1; omega)
                | (have T := cuTh_2 (rf := rf) (m := m) (c := cg w i 0) (o := cg w j 0) hgj.1.1
                   first
                   | (refine cuBe_y ⟨by omega, T.mpr ?_⟩
                      first
                      | exact Or.inl ⟨by rcases g66 with z | z; exact z.2; (exfalso; omega), by rcases g85 with z | z; exact z.2; (exfalso; omega)⟩
                      | exact Or.inr ⟨by rcases g104 with z | z; exact z.2; (exfalso; omega), by rcases g123 with z | z; exact z.2; (exfalso; omega)⟩)
                   | (refine cuBe_n hbe (fun q => ?_)
                      rcases T.mp q.2 with y | y
                      · first
                        | (rcases g66 with z | z; (exfalso; omega); exact z.2 y.1)
                        | (rcases g85 with z | z; (exfalso; omega); exact z.2 y.2)
                      · first
                        | (rcases g104 with z | z; (exfalso; omega); exact z.2 y.1)
                        | (rcases g123 with z | z; (exfalso; omega); exact z.2 y.2)))
            · refine And.intro (zRb rfl) (zbf rfl ?_)
              refine ⟨((31 - (m + 1)), 0, 0), zlt6 (by omega), [some (zvr (k)), some (zvi (b)), some (zvi (a)), some (zvi (c)), some (zvi (m)), some (zvi ((m + 1))), none], ⟨rfl, rfl, rfl, rfl, rfl, rfl, rfl⟩, m, (m + 1), rfl, rfl, rfl, rfl, rfl, rfl, rfl, (by omega), (by omega), ?_⟩
              · first
                | exact cuBe_n hbe (fun q => by have z := q.1; omega)
                | (have T := cuTh_2 (rf := rf) (m := m) (c := cg w i 0) (o := cg w j 0) hgj.1.1
                   first
                   | (refine cuBe_y ⟨by omega, T.mpr ?_⟩
                      first
                      | exact Or.inl ⟨by rcases g66 with z | z; exact z.2; (exfalso; omega), by rcases g85 with z | z; exact z.2; (exfalso; omega)⟩
                      | exact Or.inr ⟨by rcases g104 with z | z; exact z.2; (exfalso; omega), by rcases g123 with z | z; exact z.2; (exfalso; omega)⟩)
                   | (refine cuBe_n hbe (fun q => ?_)
                      rcases T.mp q.2 with y | y
                      · first
                        | (rcases g66 with z | z; (exfalso; omega); exact z.2 y.1)
                        | (rcases g85 with z | z; (exfalso; omega); exact z.2 y.2)
                      · first
                        | (rcases g104 with z | z; (exfalso; omega); exact z.2 y.1)
                        | (rcases g123 with z | z; (exfalso; omega); exact z.2 y.2)))
        · refine And.intro (zDX hd 0 rfl) (zrdR (v := some (k + 11)) (zDR hd 10 rfl) ?_)
          refine And.intro (zDP hd 11 rfl rfl (by omega) (by omega)) (fun v78 e78 r78 => ?_)
          have f78 : v78 = rf m 2 := (e78.trans ((congrArg (I1 (k + 11)) (show _ = m by omega)).trans (hrr m (by omega)).2.2.1))
          have f78b : -1 ≤ v78 ∧ v78 ≤ 3 := (by have z := hRg m (by omega); omega)
          refine And.intro (zDX hd 0 rfl) (zrdR (v := some (k + 4)) (zDR hd 3 rfl) ?_)
          refine And.intro (zDP hd 4 rfl rfl (by omega) (by omega)) (fun v84 e84 r84 => ?_)
          have f84 : v84 = cg w j 0 := (e84.trans ((congrArg (I1 (k + 4)) (show _ = j by omega)).trans (hck j (by omega)).1.2.2.2.1))
          have f84b : 0 ≤ v84 ∧ v84 ≤ 3 := (by have z := (hG j (by omega)).1; omega)
          refine ⟨_, sn_V_iso.up (by decide), ?_⟩
          refine ⟨(v78 : Int), (v84 : Int), rfl, (by omega), ?_⟩
          intro v85o p85hv
          have g85 : (v85o = 1 ∧ cuIs (rf m 2) (cg w j 0)) ∨ (v85o = 0 ∧ ¬ cuIs (rf m 2) (cg w j 0)) := (by have q1 : v78 = rf m 2 := (by omega); have q2 : v84 = cg w j 0 := (by omega); have z := p85hv; rw [q1, q2] at z; exact z)
          refine And.intro (by omega) ⟨fun h88 => ?_, fun h88 => ?_⟩
          · refine And.intro (zRb rfl) (zbf rfl ?_)
            refine ⟨((31 - (m + 1)), 0, 0), zlt6 (by omega), [some (zvr (k)), some (zvi (b)), some (zvi (a)), some (zvi (c)), some (zvi (m)), some (zvi ((m + 1))), none], ⟨rfl, rfl, rfl, rfl, rfl, rfl, rfl⟩, m, (m + 1), rfl, rfl, rfl, rfl, rfl, rfl, rfl, (by omega), (by omega), ?_⟩
            · first
              | exact cuBe_n hbe (fun q => by have z := q.1; omega)
              | (have T := cuTh_2 (rf := rf) (m := m) (c := cg w i 0) (o := cg w j 0) hgj.1.1
                 first
                 | (refine cuBe_y ⟨by omega, T.mpr ?_⟩
                    first
                    | exact Or.inl ⟨by rcases g66 with z | z; exact z.2; (exfalso; omega), by rcases g85 with z | z; exact z.2; (exfalso; omega)⟩
                    | exact Or.inr ⟨by rcases g104 with z | z; exact z.2; (exfalso; omega), by rcases g123 with z | z; exact z.2; (exfalso; omega)⟩)
                 | (refine cuBe_n hbe (fun q => ?_)
                    rcases T.mp q.2 with y | y
                    · first
                      | (rcases g66 with z | z; (exfalso; omega); exact z.2 y.1)
                      | (rcases g85 with z | z; (exfalso; omega); exact z.2 y.2)
                    · first
                      | (rcases g104 with z | z; (exfalso; omega); exact z.2 y.1)
                      | (rcases g123 with z | z; (exfalso; omega); exact z.2 y.2)))
          · refine And.intro (zDX hd 0 rfl) (zrdR (v := some (k + 10)) (zDR hd 9 rfl) ?_)
            refine And.intro (zDP hd 10 rfl rfl (by omega) (by omega)) (fun v97 e97 r97 => ?_)
            have f97 : v97 = rf m 1 := (e97.trans ((congrArg (I1 (k + 10)) (show _ = m by omega)).trans (hrr m (by omega)).2.1))
            have f97b : -1 ≤ v97 ∧ v97 ≤ 3 := (by have z := hRg m (by omega); omega)
            refine And.intro (zDX hd 0 rfl) (zrdR (v := some (k + 4)) (zDR hd 3 rfl) ?_)
            refine And.intro (zDP hd 4 rfl rfl (by omega) (by omega)) (fun v103 e103 r103 => ?_)
            have f103 : v103 = cg w j 0 := (e103.trans ((congrArg (I1 (k + 4)) (show _ = j by omega)).trans (hck j (by omega)).1.2.2.2.1))
            have f103b : 0 ≤ v103 ∧ v103 ≤ 3 := (by have z := (hG j (by omega)).1; omega)
            refine ⟨_, sn_V_iso.up (by decide), ?_⟩
            refine ⟨(v97 : Int), (v103 : Int), rfl, (by omega), ?_⟩
            intro v104o p104hv
            have g104 : (v104o = 1 ∧ cuIs (rf m 1) (cg w j 0)) ∨ (v104o = 0 ∧ ¬ cuIs (rf m 1) (cg w j 0)) := (by have q1 : v97 = rf m 1 := (by omega); have q2 : v103 = cg w j 0 := (by omega); have z := p104hv; rw [q1, q2] at z; exact z)
            refine And.intro (by omega) ⟨fun h107 => ?_, fun h107 => ?_⟩
            · refine And.intro (zRb rfl) (zbt rfl ?_)
              refine ⟨((31 - (m + 1)), 0, 0), zlt6 (by omega), [some (zvr (k)), some (zvi (b)), some (zvi (a)), some (zvi (c)), some (zvi (u)), some (zvi ((m + 1))), none], ⟨rfl, rfl, rfl, rfl, rfl, rfl, rfl⟩, u, (m + 1), rfl, rfl, rfl, rfl, rfl, rfl, rfl, (by omega), (by omega), ?_⟩
              · first
                | exact cuBe_n hbe (fun q => by have z := q.1; omega)
                | (have T := cuTh_2 (rf := rf) (m := m) (c := cg w i 0) (o := cg w j 0) hgj.1.1
                   first
                   | (refine cuBe_y ⟨by omega, T.mpr ?_⟩
                      first
                      | exact Or.inl ⟨by rcases g66 with z | z; exact z.2; (exfalso; omega), by rcases g85 with z | z; exact z.2; (exfalso; omega)⟩
                      | exact Or.inr ⟨by rcases g104 with z | z; exact z.2; (exfalso; omega), by rcases g123 with z | z; exact z.2; (exfalso; omega)⟩)
                   | (refine cuBe_n hbe (fun q => ?_)
                      rcases T.mp q.2 with y | y
                      · first
                        | (rcases g66 with z | z; (exfalso; omega); exact z.2 y.1)
                        | (rcases g85 with z | z; (exfalso; omega); exact z.2 y.2)
                      · first
                        | (rcases g104 with z | z; (exfalso; omega); exact z.2 y.1)
                        | (rcases g123 with z | z; (exfalso; omega); exact z.2 y.2)))
            · refine And.intro (zDX hd 0 rfl) (zrdR (v := some (k + 11)) (zDR hd 10 rfl) ?_)
              refine And.intro (zDP hd 11 rfl rfl (by omega) (by omega)) (fun v116 e116 r116 => ?_)
              have f116 : v116 = rf m 2 := (e116.trans ((congrArg (I1 (k + 11)) (show _ = m by omega)).trans (hrr m (by omega)).2.2.1))
              have f116b : -1 ≤ v116 ∧ v116 ≤ 3 := (by have z := hRg m (by omega); omega)
              refine And.intro (zDX hd 0 rfl) (zrdR (v := some (k + 4)) (zDR hd 3 rfl) ?_)
              refine And.intro (zDP hd 4 rfl rfl (by omega) (by omega)) (fun v122 e122 r122 => ?_)
              have f122 : v122 = cg w i 0 := (e122.trans ((congrArg (I1 (k + 4)) (show _ = i by omega)).trans (hck i (by omega)).1.2.2.2.1))
              have f122b : 0 ≤ v122 ∧ v122 ≤ 3 := (by have z := (hG i (by omega)).1; omega)
              refine ⟨_, sn_V_iso.up (by decide), ?_⟩
              refine ⟨(v116 : Int), (v122 : Int), rfl, (by omega), ?_⟩
              intro v123o p123hv
              have g123 : (v123o = 1 ∧ cuIs (rf m 2) (cg w i 0)) ∨ (v123o = 0 ∧ ¬ cuIs (rf m 2) (cg w i 0)) := (by have q1 : v116 = rf m 2 := (by omega); have q2 : v122 = cg w i 0 := (by omega); have z := p123hv; rw [q1, q2] at z; exact z)
              refine And.intro (by omega) ⟨fun h126 => ?_, fun h126 => ?_⟩
              · refine And.intro (zRb rfl) (zbt rfl ?_)
                refine ⟨((31 - (m + 1)), 0, 0), zlt6 (by omega), [some (zvr (k)), some (zvi (b)), some (zvi (a)), some (zvi (c)), some (zvi (u)), some (zvi ((m + 1))), none], ⟨rfl, rfl, rfl, rfl, rfl, rfl, rfl⟩, u, (m + 1), rfl, rfl, rfl, rfl, rfl, rfl, rfl, (by omega), (by omega), ?_⟩
                · first
                  | exact cuBe_n hbe (fun q => by have z := q.1; omega)
                  | (have T := cuTh_2 (rf := rf) (m := m) (c := cg w i 0) (o := cg w j 0) hgj.1.1
                     first
                     | (refine cuBe_y ⟨by omega, T.mpr ?_⟩
                        first
                        | exact Or.inl ⟨by rcases g66 with z | z; exact z.2; (exfalso; omega), by rcases g85 with z | z; exact z.2; (exfalso; omega)⟩
                        | exact Or.inr ⟨by rcases g104 with z | z; exact z.2; (exfalso; omega), by rcases g123 with z | z; exact z.2; (exfalso; omega)⟩)
                     | (refine cuBe_n hbe (fun q => ?_)
                        rcases T.mp q.2 with y | y
                        · first
                          | (rcases g66 with z | z; (exfalso; omega); exact z.2 y.1)
                          | (rcases g85 with z | z; (exfalso; omega); exact z.2 y.2)
                        · first
                          | (rcases g104 with z | z; (exfalso; omega); exact z.2 y.1)
                          | (rcases g123 with z | z; (exfalso; omega); exact z.2 y.2)))
              · refine And.intro (zRb rfl) (zbf rfl ?_)
                refine ⟨((31 - (m + 1)), 0, 0), zlt6 (by omega), [some (zvr (k)), some (zvi (b)), some (zvi (a)), some (zvi (c)), some (zvi (m)), some (zvi ((m + 1))), none], ⟨rfl, rfl, rfl, rfl, rfl, rfl, rfl⟩, m, (m + 1), rfl, rfl, rfl, rfl, rfl, rfl, rfl, (by omega), (by omega), ?_⟩
                · first
                  | exact cuBe_n hbe (fun q => by have z := q.1; omega)
                  | (have T := cuTh_2 (rf := rf) (m := m) (c := cg w i 0) (o := cg w j 0) hgj.1.1
                     first
                     | (refine cuBe_y ⟨by omega, T.mpr ?_⟩
                        first
                        | exact Or.inl ⟨by rcases g66 with z | z; exact z.2; (exfalso; omega), by rcases g85 with z | z; exact z.2; (exfalso; omega)⟩
                        | exact Or.inr ⟨by rcases g104 with z | z; exact z.2; (exfalso; omega), by rcases g123 with z | z; exact z.2; (exfalso; omega)⟩)
                     | (refine cuBe_n hbe (fun q => ?_)
                        rcases T.mp q.2 with y | y
                        · first
                          | (rcases g66 with z | z; (exfalso; omega); exact z.2 y.1)
                          | (rcases g85 with z | z; (exfalso; omega); exact z.2 y.2)
                        · first
                          | (rcases g104 with z | z; (exfalso; omega); exact z.2 y.1)
                          | (rcases g123 with z | z; (exfalso; omega); exact z.2 y.2)))
      · refine ⟨((31 - (m + 1)), 0, 0), zlt6 (by omega), [some (zvr (k)), some (zvi (b)), some (zvi (a)), some (zvi (c)), some (zvi (u)), some (zvi ((m + 1))), none], ⟨rfl, rfl, rfl, rfl, rfl, rfl, rfl⟩, u, (m + 1), rfl, rfl, rfl, rfl, rfl, rfl, rfl, (by omega), (by omega), ?_⟩
        · first
          | exact cuBe_n hbe (fun q => by have z := q.1; omega)
          | (have T := cuTh_2 (rf := rf) (m := m) (c := cg w i 0) (o := cg w j 0) hgj.1.1
             first
             | (refine cuBe_y ⟨by omega, T.mpr ?_⟩
                first
                | exact Or.inl ⟨by rcases g66 with z | z; exact z.2; (exfalso; omega), by rcases g85 with z | z; exact z.2; (exfalso; omega)⟩
                | exact Or.inr ⟨by rcases g104 with z | z; exact z.2; (exfalso; omega), by rcases g123 with z | z; exact z.2; (exfalso; omega)⟩)
             | (refine cuBe_n hbe (fun q => ?_)
                rcases T.mp q.2 with y | y
                · first
                  | (rcases g66 with z | z; (exfalso; omega); exact z.2 y.1)
                  | (rcases g85 with z | z; (exfalso; omega); exact z.2 y.2)
                · first
                  | (rcases g104 with z | z; (exfalso; omega); exact z.2 y.1)
                  | (rcases g123 with z | z; (exfalso; omega); exact z.2 y.2))))
