/-! xc -/
def T_V_lcr : ZT := fun args I L R S Q => ∃ (k : Nat) (w : List CuR) (a : Int) (i : Nat) (b : Int) (j : Nat), args = [zvr k, zvi a, zvi b] ∧ (zSh S) ∧ (zRs R) ∧ (zDy zT14 zF14 k R S) ∧ (zCk k w I L) ∧ (cuG w) ∧ (a = i ∧ i < w.length) ∧ (b = j ∧ j < w.length) ∧ ∀ (v : Int), ((v = 1 ∧ cuGx w i j 1 0 = 0 ∧ cuGx w i j 0 0 = 0) ∨ (v = 0 ∧ ¬ cuCr w i j)) → Q (some (zvi (v))) I L R S
theorem sn_V_lcr : ZSnd 2 14 23 T_V_lcr := ZSnd.loops (zT14_23 1) (by
  rintro args I L R S Q hz ⟨k, w, a, i, b, j, rfl, hS, hR, hd, hCk, hG, hi, hj, hQ⟩
  have hk5 := hd.1
  obtain ⟨hc0, hcl, hck⟩ := id hCk
  refine ⟨[2, 30], fun nM tM lsM stM I1 L1 R1 S1 => match tM with
      | 2 => ∃ (m : Nat), nM = ((2 - m), 2, 0) ∧ lsM = [some (zvr (k)), some (zvi (a)), some (zvi (b)), some (zvi (m)), none, none, none, none, none, none, none] ∧ stM = [] ∧ I1 = I ∧ L1 = L ∧ R1 = R ∧ S1 = S ∧ (m ≤ 1) ∧ (m = 1 → ¬ cuCr w i j)
      | 30 => ∃ (m : Nat) (e : Int) (n : Nat), nM = ((2 - m), 1, (2 - n)) ∧ lsM = [some (zvr (k)), some (zvi (a)), some (zvi (b)), some (zvi (m)), some (zvi (8 * i)), some (zvi (e)), some (zvi (n)), none, none, none, none] ∧ stM = [] ∧ I1 = I ∧ L1 = L ∧ R1 = R ∧ S1 = S ∧ (m = 0) ∧ (n ≤ 1) ∧ (8 * (i : Int) ≤ e ∧ e ≤ 8 * i + 1) ∧ (cuEx w i e) ∧ (n = 1 → ¬ cuCr w i j)
      | _ => False, rfl, ?_, ⟨?_, ?_, True.intro⟩⟩
  · refine ⟨((2 - (0 : Nat)), 2, 0), [some (zvr (k)), some (zvi (a)), some (zvi (b)), some (zvi ((0 : Nat))), none, none, none, none, none, none, none], ⟨rfl, rfl, rfl, rfl, rfl⟩, 0, rfl, rfl, rfl, rfl, rfl, rfl, rfl, (by omega), (fun h => absurd h (by decide))⟩
  · rintro nM lsM stM I1 L1 R1 S1 hz1 ⟨m, rfl, rfl, rfl, rfl, rfl, rfl, rfl, hm, hm1⟩
    refine And.intro (zDX hd 0 rfl) ⟨_, sn_V_pie.up (by decide), ?_⟩
    refine ⟨_, w, (a : Int), i, rfl, hS, hR, hd, (by first | exact (zCk_fr hCk (fun c j h => rfl) (fun c j h => rfl)) | (clear hQ; grind [xu])), (by first | exact hG | (clear hQ; grind [xu])), (by omega), ?_⟩
    intro v5o p5hv
    refine And.intro ⟨(by omega), (by omega)⟩ ⟨fun h8 => ?_, fun h8 => ?_⟩
    · refine And.intro (Or.inl rfl) ?_
      refine hQ _ (by first | exact Or.inr ⟨rfl, hm1 (by omega)⟩ | exact Or.inl ⟨rfl, g246bb.1 (by omega)⟩)
    · refine And.intro (zDX hd 0 rfl) ⟨_, sn_V_edo.up (by decide), ?_⟩
      refine ⟨_, w, (a : Int), i, (m : Int), rfl, hS, hR, hd, (by first | exact (zCk_fr hCk (fun c j h => rfl) (fun c j h => rfl)) | (clear hQ; grind [xu])), (by first | exact hG | (clear hQ; grind [xu])), (by omega), (by omega), ?_⟩
      intro v22o p22hv p22bhv2
      refine ⟨((2 - m), 1, (2 - (0 : Nat))), zlt6 (by omega), [some (zvr (k)), some (zvi (a)), some (zvi (b)), some (zvi (m)), some (zvi (8 * i)), some (zvi (v22o)), some (zvi ((0 : Nat))), none, none, none, none], ⟨rfl, rfl, rfl, rfl, (congrArg (fun z => some (zvi z)) (by omega)), rfl, rfl, rfl⟩, m, v22o, 0, rfl, rfl, rfl, rfl, rfl, rfl, rfl, (by omega), (by omega), (by clear hQ; grind [xu]), p22hv, (fun h => absurd h (by decide))⟩
  · rintro nM lsM stM I1 L1 R1 S1 hz1 ⟨m, e, n, rfl, rfl, rfl, rfl, rfl, rfl, rfl, hm, hn, he2, p22hv, hn1⟩
    refine And.intro (zDX hd 0 rfl) ⟨_, sn_V_pie.up (by decide), ?_⟩
    refine ⟨_, w, (b : Int), j, rfl, hS, hR, hd, (by first | exact (zCk_fr hCk (fun c j h => rfl) (fun c j h => rfl)) | (clear hQ; grind [xu])), (by first | exact hG | (clear hQ; grind [xu])), (by omega), ?_⟩
    intro v34o p34hv
    refine And.intro ⟨(by omega), (by omega)⟩ ⟨fun h37 => ?_, fun h37 => ?_⟩
    · refine ⟨((2 - (m + 1)), 2, 0), zlt6 (by omega), [some (zvr (k)), some (zvi (a)), some (zvi (b)), some (zvi ((m + 1))), none, none, none, none, none, none, none], ⟨rfl, rfl, rfl, rfl, rfl⟩, (m + 1), rfl, rfl, rfl, rfl, rfl, rfl, rfl, (by omega), (fun _ => hn1 (by omega))⟩
    · refine And.intro (zDX hd 0 rfl) ⟨_, sn_V_edo.up (by decide), ?_⟩
      refine ⟨_, w, (b : Int), j, (n : Int), rfl, hS, hR, hd, (by first | exact (zCk_fr hCk (fun c j h => rfl) (fun c j h => rfl)) | (clear hQ; grind [xu])), (by first | exact hG | (clear hQ; grind [xu])), (by omega), (by omega), ?_⟩
      intro v53o p53hv p53bhv2
      refine And.intro (zDX hd 0 rfl) (zrdR (v := some (k + 6)) (zDR hd 5 rfl) ?_)
      refine And.intro (zDP hd 6 rfl rfl (by omega) (by omega)) (fun v64 e64 r64 => ?_)
      have f64 : v64 = cuE w i 1 0 := (e64.trans ((congrArg (L1 (k + 6)) (show _ = 8 * i + 0 by omega)).trans (zCi_c (hck i (by omega)) (by have z := cuCn_c (cg w i 0); omega)).1))
      have f64b : 0 ≤ v64 ∧ v64 ≤ 15000 := (by have z := cuE_b (ax := 1) (e := 0) hG (show i < w.length by omega); omega)
      refine And.intro (zDX hd 0 rfl) (zrdR (v := some (k + 7)) (zDR hd 6 rfl) ?_)
      refine And.intro (zDP hd 7 rfl rfl (by omega) (by omega)) (fun v71 e71 r71 => ?_)
      have f71 : v71 = cuE w i 0 0 := (e71.trans ((congrArg (L1 (k + 7)) (show _ = 8 * i + 0 by omega)).trans (zCi_c (hck i (by omega)) (by have z := cuCn_c (cg w i 0); omega)).2))
      have f71b : 0 ≤ v71 ∧ v71 ≤ 15000 := (by have z := cuE_b (ax := 0) (e := 0) hG (show i < w.length by omega); omega)
      refine And.intro (zDX hd 0 rfl) (zrdR (v := some (k + 6)) (zDR hd 5 rfl) ?_)
      refine And.intro (zDP hd 6 rfl rfl (by omega) (by omega)) (fun v78 e78 r78 => ?_)
      have f78 : v78 = cuE w i 1 1 := (e78.trans (zCi_e hG (show i < w.length by omega) (hck i (by omega)) p22hv).1)
      have f78b : 0 ≤ v78 ∧ v78 ≤ 15000 := (by have z := cuE_b (ax := 1) (e := 1) hG (show i < w.length by omega); omega)
      refine And.intro (zDX hd 0 rfl) (zrdR (v := some (k + 7)) (zDR hd 6 rfl) ?_)
      refine And.intro (zDP hd 7 rfl rfl (by omega) (by omega)) (fun v85 e85 r85 => ?_)
      have f85 : v85 = cuE w i 0 1 := (e85.trans (zCi_e hG (show i < w.length by omega) (hck i (by omega)) p22hv).2)
      have f85b : 0 ≤ v85 ∧ v85 ≤ 15000 := (by have z := cuE_b (ax := 0) (e := 1) hG (show i < w.length by omega); omega)
      refine And.intro (zDX hd 0 rfl) (zrdR (v := some (k + 6)) (zDR hd 5 rfl) ?_)
      refine And.intro (zDP hd 6 rfl rfl (by omega) (by omega)) (fun v92 e92 r92 => ?_)
      have f92 : v92 = cuE w j 1 0 := (e92.trans ((congrArg (L1 (k + 6)) (show _ = 8 * j + 0 by omega)).trans (zCi_c (hck j (by omega)) (by have z := cuCn_c (cg w j 0); omega)).1))
      have f92b : 0 ≤ v92 ∧ v92 ≤ 15000 := (by have z := cuE_b (ax := 1) (e := 0) hG (show j < w.length by omega); omega)
      refine And.intro (zDX hd 0 rfl) (zrdR (v := some (k + 7)) (zDR hd 6 rfl) ?_)
      refine And.intro (zDP hd 7 rfl rfl (by omega) (by omega)) (fun v99 e99 r99 => ?_)
      have f99 : v99 = cuE w j 0 0 := (e99.trans ((congrArg (L1 (k + 7)) (show _ = 8 * j + 0 by omega)).trans (zCi_c (hck j (by omega)) (by have z := cuCn_c (cg w j 0); omega)).2))
      have f99b : 0 ≤ v99 ∧ v99 ≤ 15000 := (by have z := cuE_b (ax := 0) (e := 0) hG (show j < w.length by omega); omega)
      refine ⟨_, sn_V_sid.up (by decide), ?_⟩
      refine ⟨(v64 : Int), (v71 : Int), (v78 : Int), (v85 : Int), (v92 : Int), (v99 : Int), rfl, (by clear hQ; grind [xu]), (by have z := cuE_ax hG (show i < w.length by omega); have q1 : v64 = cuE w i 1 0 := (by omega); have q2 : v71 = cuE w i 0 0 := (by omega); have q3 : v78 = cuE w i 1 1 := (by omega); have q4 : v85 = cuE w i 0 1 := (by omega); rw [q1, q2, q3, q4]; exact z), ?_⟩
      intro v100o p100hv p100bhv2
      have g100 : cuSd v100o (cuE w i 1 0) (cuE w i 0 0) (cuE w i 1 1) (cuE w i 0 1) (cuE w j 1 0) (cuE w j 0 0) := (by have z : cuSd v100o v64 v71 v78 v85 v92 v99 := p100hv; have q1 : v64 = cuE w i 1 0 := (by omega); have q2 : v71 = cuE w i 0 0 := (by omega); have q3 : v78 = cuE w i 1 1 := (by omega); have q4 : v85 = cuE w i 0 1 := (by omega); have q5 : v92 = cuE w j 1 0 := (by omega); have q6 : v99 = cuE w j 0 0 := (by omega); rw [q1, q2, q3, q4, q5, q6] at z; exact z)
      refine And.intro (zDX hd 0 rfl) (zrdR (v := some (k + 6)) (zDR hd 5 rfl) ?_)
      refine And.intro (zDP hd 6 rfl rfl (by omega) (by omega)) (fun v109 e109 r109 => ?_)
      have f109 : v109 = cuE w i 1 0 := (e109.trans ((congrArg (L1 (k + 6)) (show _ = 8 * i + 0 by omega)).trans (zCi_c (hck i (by omega)) (by have z := cuCn_c (cg w i 0); omega)).1))
      have f109b : 0 ≤ v109 ∧ v109 ≤ 15000 := (by have z := cuE_b (ax := 1) (e := 0) hG (show i < w.length by omega); omega)
      refine And.intro (zDX hd 0 rfl) (zrdR (v := some (k + 7)) (zDR hd 6 rfl) ?_)
      refine And.intro (zDP hd 7 rfl rfl (by omega) (by omega)) (fun v116 e116 r116 => ?_)
      have f116 : v116 = cuE w i 0 0 := (e116.trans ((congrArg (L1 (k + 7)) (show _ = 8 * i + 0 by omega)).trans (zCi_c (hck i (by omega)) (by have z := cuCn_c (cg w i 0); omega)).2))
      have f116b : 0 ≤ v116 ∧ v116 ≤ 15000 := (by have z := cuE_b (ax := 0) (e := 0) hG (show i < w.length by omega); omega)
      refine And.intro (zDX hd 0 rfl) (zrdR (v := some (k + 6)) (zDR hd 5 rfl) ?_)
      refine And.intro (zDP hd 6 rfl rfl (by omega) (by omega)) (fun v123 e123 r123 => ?_)
      have f123 : v123 = cuE w i 1 1 := (e123.trans (zCi_e hG (show i < w.length by omega) (hck i (by omega)) p22hv).1)
      have f123b : 0 ≤ v123 ∧ v123 ≤ 15000 := (by have z := cuE_b (ax := 1) (e := 1) hG (show i < w.length by omega); omega)
      refine And.intro (zDX hd 0 rfl) (zrdR (v := some (k + 7)) (zDR hd 6 rfl) ?_)
      refine And.intro (zDP hd 7 rfl rfl (by omega) (by omega)) (fun v130 e130 r130 => ?_)
      have f130 : v130 = cuE w i 0 1 := (e130.trans (zCi_e hG (show i < w.length by omega) (hck i (by omega)) p22hv).2)
      have f130b : 0 ≤ v130 ∧ v130 ≤ 15000 := (by have z := cuE_b (ax := 0) (e := 1) hG (show i < w.length by omega); omega)
      refine And.intro (zDX hd 0 rfl) (zrdR (v := some (k + 6)) (zDR hd 5 rfl) ?_)
      refine And.intro (zDP hd 6 rfl rfl (by omega) (by omega)) (fun v137 e137 r137 => ?_)
      have f137 : v137 = cuE w j 1 1 := (e137.trans (zCi_e hG (show j < w.length by omega) (hck j (by omega)) p53hv).1)
      have f137b : 0 ≤ v137 ∧ v137 ≤ 15000 := (by have z := cuE_b (ax := 1) (e := 1) hG (show j < w.length by omega); omega)
      refine And.intro (zDX hd 0 rfl) (zrdR (v := some (k + 7)) (zDR hd 6 rfl) ?_)
      refine And.intro (zDP hd 7 rfl rfl (by omega) (by omega)) (fun v144 e144 r144 => ?_)
      have f144 : v144 = cuE w j 0 1 := (e144.trans (zCi_e hG (show j < w.length by omega) (hck j (by omega)) p53hv).2)
      have f144b : 0 ≤ v144 ∧ v144 ≤ 15000 := (by have z := cuE_b (ax := 0) (e := 1) hG (show j < w.length by omega); omega)
      refine ⟨_, sn_V_sid.up (by decide), ?_⟩
      refine ⟨(v109 : Int), (v116 : Int), (v123 : Int), (v130 : Int), (v137 : Int), (v144 : Int), rfl, (by clear hQ; grind [xu]), (by have z := cuE_ax hG (show i < w.length by omega); have q1 : v109 = cuE w i 1 0 := (by omega); have q2 : v116 = cuE w i 0 0 := (by omega); have q3 : v123 = cuE w i 1 1 := (by omega); have q4 : v130 = cuE w i 0 1 := (by omega); rw [q1, q2, q3, q4]; exact z), ?_⟩
      intro v145o p145hv p145bhv2
      have g145 : cuSd v145o (cuE w i 1 0) (cuE w i 0 0) (cuE w i 1 1) (cuE w i 0 1) (cuE w j 1 1) (cuE w j 0 1) := (by have z : cuSd v145o v109 v116 v123 v130 v137 v144 := p145hv; have q1 : v109 = cuE w i 1 0 := (by omega); have q2 : v116 = cuE w i 0 0 := (by omega); have q3 : v123 = cuE w i 1 1 := (by omega); have q4 : v130 = cuE w i 0 1 := (by omega); have q5 : v137 = cuE w j 1 1 := (by omega); have q6 : v144 = cuE w j 0 1 := (by omega); rw [q1, q2, q3, q4, q5, q6] at z; exact z)
      have g145b : (v100o * v145o < 0 ↔ (v100o = 1 ∧ v145o = -1) ∨ (v100o = -1 ∧ v145o = 1)) ∧ -1 ≤ v100o * v145o ∧ v100o * v145o ≤ 1 := (zsg2 (by omega) (by omega))
      refine And.intro (by omega) ⟨fun h149 => ?_, fun h149 => ?_⟩
      · refine And.intro (zDX hd 0 rfl) (zrdR (v := some (k + 6)) (zDR hd 5 rfl) ?_)
        refine And.intro (zDP hd 6 rfl rfl (by omega) (by omega)) (fun v165 e165 r165 => ?_)
        have f165 : v165 = cuE w j 1 0 := (e165.trans ((congrArg (L1 (k + 6)) (show _ = 8 * j + 0 by omega)).trans (zCi_c (hck j (by omega)) (by have z := cuCn_c (cg w j 0); omega)).1))
        have f165b : 0 ≤ v165 ∧ v165 ≤ 15000 := (by have z := cuE_b (ax := 1) (e := 0) hG (show j < w.length by omega); omega)
        refine And.intro (zDX hd 0 rfl) (zrdR (v := some (k + 7)) (zDR hd 6 rfl) ?_)
        refine And.intro (zDP hd 7 rfl rfl (by omega) (by omega)) (fun v172 e172 r172 => ?_)
        have f172 : v172 = cuE w j 0 0 := (e172.trans ((congrArg (L1 (k + 7)) (show _ = 8 * j + 0 by omega)).trans (zCi_c (hck j (by omega)) (by have z := cuCn_c (cg w j 0); omega)).2))
        have f172b : 0 ≤ v172 ∧ v172 ≤ 15000 := (by have z := cuE_b (ax := 0) (e := 0) hG (show j < w.length by omega); omega)
        refine And.intro (zDX hd 0 rfl) (zrdR (v := some (k + 6)) (zDR hd 5 rfl) ?_)
        refine And.intro (zDP hd 6 rfl rfl (by omega) (by omega)) (fun v179 e179 r179 => ?_)
        have f179 : v179 = cuE w j 1 1 := (e179.trans (zCi_e hG (show j < w.length by omega) (hck j (by omega)) p53hv).1)
        have f179b : 0 ≤ v179 ∧ v179 ≤ 15000 := (by have z := cuE_b (ax := 1) (e := 1) hG (show j < w.length by omega); omega)
        refine And.intro (zDX hd 0 rfl) (zrdR (v := some (k + 7)) (zDR hd 6 rfl) ?_)
        refine And.intro (zDP hd 7 rfl rfl (by omega) (by omega)) (fun v186 e186 r186 => ?_)
        have f186 : v186 = cuE w j 0 1 := (e186.trans (zCi_e hG (show j < w.length by omega) (hck j (by omega)) p53hv).2)
        have f186b : 0 ≤ v186 ∧ v186 ≤ 15000 := (by have z := cuE_b (ax := 0) (e := 1) hG (show j < w.length by omega); omega)
        refine And.intro (zDX hd 0 rfl) (zrdR (v := some (k + 6)) (zDR hd 5 rfl) ?_)
        refine And.intro (zDP hd 6 rfl rfl (by omega) (by omega)) (fun v193 e193 r193 => ?_)
        have f193 : v193 = cuE w i 1 0 := (e193.trans ((congrArg (L1 (k + 6)) (show _ = 8 * i + 0 by omega)).trans (zCi_c (hck i (by omega)) (by have z := cuCn_c (cg w i 0); omega)).1))
        have f193b : 0 ≤ v193 ∧ v193 ≤ 15000 := (by have z := cuE_b (ax := 1) (e := 0) hG (show i < w.length by omega); omega)
        refine And.intro (zDX hd 0 rfl) (zrdR (v := some (k + 7)) (zDR hd 6 rfl) ?_)
        refine And.intro (zDP hd 7 rfl rfl (by omega) (by omega)) (fun v200 e200 r200 => ?_)
        have f200 : v200 = cuE w i 0 0 := (e200.trans ((congrArg (L1 (k + 7)) (show _ = 8 * i + 0 by omega)).trans (zCi_c (hck i (by omega)) (by have z := cuCn_c (cg w i 0); omega)).2))
        have f200b : 0 ≤ v200 ∧ v200 ≤ 15000 := (by have z := cuE_b (ax := 0) (e := 0) hG (show i < w.length by omega); omega)
        refine ⟨_, sn_V_sid.up (by decide), ?_⟩
        refine ⟨(v165 : Int), (v172 : Int), (v179 : Int), (v186 : Int), (v193 : Int), (v200 : Int), rfl, (by clear hQ; grind [xu]), (by have z := cuE_ax hG (show j < w.length by omega); have q1 : v165 = cuE w j 1 0 := (by omega); have q2 : v172 = cuE w j 0 0 := (by omega); have q3 : v179 = cuE w j 1 1 := (by omega); have q4 : v186 = cuE w j 0 1 := (by omega); rw [q1, q2, q3, q4]; exact z), ?_⟩
        intro v201o p201hv p201bhv2
        have g201 : cuSd v201o (cuE w j 1 0) (cuE w j 0 0) (cuE w j 1 1) (cuE w j 0 1) (cuE w i 1 0) (cuE w i 0 0) := (by have z : cuSd v201o v165 v172 v179 v186 v193 v200 := p201hv; have q1 : v165 = cuE w j 1 0 := (by omega); have q2 : v172 = cuE w j 0 0 := (by omega); have q3 : v179 = cuE w j 1 1 := (by omega); have q4 : v186 = cuE w j 0 1 := (by omega); have q5 : v193 = cuE w i 1 0 := (by omega); have q6 : v200 = cuE w i 0 0 := (by omega); rw [q1, q2, q3, q4, q5, q6] at z; exact z)
        refine And.intro (zDX hd 0 rfl) (zrdR (v := some (k + 6)) (zDR hd 5 rfl) ?_)
        refine And.intro (zDP hd 6 rfl rfl (by omega) (by omega)) (fun v210 e210 r210 => ?_)
        have f210 : v210 = cuE w j 1 0 := (e210.trans ((congrArg (L1 (k + 6)) (show _ = 8 * j + 0 by omega)).trans (zCi_c (hck j (by omega)) (by have z := cuCn_c (cg w j 0); omega)).1))
        have f210b : 0 ≤ v210 ∧ v210 ≤ 15000 := (by have z := cuE_b (ax := 1) (e := 0) hG (show j < w.length by omega); omega)
        refine And.intro (zDX hd 0 rfl) (zrdR (v := some (k + 7)) (zDR hd 6 rfl) ?_)
        refine And.intro (zDP hd 7 rfl rfl (by omega) (by omega)) (fun v217 e217 r217 => ?_)
        have f217 : v217 = cuE w j 0 0 := (e217.trans ((congrArg (L1 (k + 7)) (show _ = 8 * j + 0 by omega)).trans (zCi_c (hck j (by omega)) (by have z := cuCn_c (cg w j 0); omega)).2))
        have f217b : 0 ≤ v217 ∧ v217 ≤ 15000 := (by have z := cuE_b (ax := 0) (e := 0) hG (show j < w.length by omega); omega)
        refine And.intro (zDX hd 0 rfl) (zrdR (v := some (k + 6)) (zDR hd 5 rfl) ?_)
        refine And.intro (zDP hd 6 rfl rfl (by omega) (by omega)) (fun v224 e224 r224 => ?_)
        have f224 : v224 = cuE w j 1 1 := (e224.trans (zCi_e hG (show j < w.length by omega) (hck j (by omega)) p53hv).1)
        have f224b : 0 ≤ v224 ∧ v224 ≤ 15000 := (by have z := cuE_b (ax := 1) (e := 1) hG (show j < w.length by omega); omega)
        refine And.intro (zDX hd 0 rfl) (zrdR (v := some (k + 7)) (zDR hd 6 rfl) ?_)
        refine And.intro (zDP hd 7 rfl rfl (by omega) (by omega)) (fun v231 e231 r231 => ?_)
        have f231 : v231 = cuE w j 0 1 := (e231.trans (zCi_e hG (show j < w.length by omega) (hck j (by omega)) p53hv).2)
        have f231b : 0 ≤ v231 ∧ v231 ≤ 15000 := (by have z := cuE_b (ax := 0) (e := 1) hG (show j < w.length by omega); omega)
        refine And.intro (zDX hd 0 rfl) (zrdR (v := some (k + 6)) (zDR hd 5 rfl) ?_)
        refine And.intro (zDP hd 6 rfl rfl (by omega) (by omega)) (fun v238 e238 r238 => ?_)
        have f238 : v238 = cuE w i 1 1 := (e238.trans (zCi_e hG (show i < w.length by omega) (hck i (by omega)) p22hv).1)
        have f238b : 0 ≤ v238 ∧ v238 ≤ 15000 := (by have z := cuE_b (ax := 1) (e := 1) hG (show i < w.length by omega); omega)
        refine And.intro (zDX hd 0 rfl) (zrdR (v := some (k + 7)) (zDR hd 6 rfl) ?_)
        refine And.intro (zDP hd 7 rfl rfl (by omega) (by omega)) (fun v245 e245 r245 => ?_)
        have f245 : v245 = cuE w i 0 1 := (e245.trans (zCi_e hG (show i < w.length by omega) (hck i (by omega)) p22hv).2)
        have f245b : 0 ≤ v245 ∧ v245 ≤ 15000 := (by have z := cuE_b (ax := 0) (e := 1) hG (show i < w.length by omega); omega)
        refine ⟨_, sn_V_sid.up (by decide), ?_⟩
        refine ⟨(v210 : Int), (v217 : Int), (v224 : Int), (v231 : Int), (v238 : Int), (v245 : Int), rfl, (by clear hQ; grind [xu]), (by have z := cuE_ax hG (show j < w.length by omega); have q1 : v210 = cuE w j 1 0 := (by omega); have q2 : v217 = cuE w j 0 0 := (by omega); have q3 : v224 = cuE w j 1 1 := (by omega); have q4 : v231 = cuE w j 0 1 := (by omega); rw [q1, q2, q3, q4]; exact z), ?_⟩
        intro v246o p246hv p246bhv2
        have g246 : cuSd v246o (cuE w j 1 0) (cuE w j 0 0) (cuE w j 1 1) (cuE w j 0 1) (cuE w i 1 1) (cuE w i 0 1) := (by have z : cuSd v246o v210 v217 v224 v231 v238 v245 := p246hv; have q1 : v210 = cuE w j 1 0 := (by omega); have q2 : v217 = cuE w j 0 0 := (by omega); have q3 : v224 = cuE w j 1 1 := (by omega); have q4 : v231 = cuE w j 0 1 := (by omega); have q5 : v238 = cuE w i 1 1 := (by omega); have q6 : v245 = cuE w i 0 1 := (by omega); rw [q1, q2, q3, q4, q5, q6] at z; exact z)
        have g246b : (v201o * v246o < 0 ↔ (v201o = 1 ∧ v246o = -1) ∨ (v201o = -1 ∧ v246o = 1)) ∧ -1 ≤ v201o * v246o ∧ v201o * v246o ≤ 1 := (zsg2 (by omega) (by omega))
        have g246bb : ((v100o * v145o < 0 ∧ v201o * v246o < 0) → cuGx w i j 1 0 = 0 ∧ cuGx w i j 0 0 = 0) ∧ (¬ (v100o * v145o < 0 ∧ v201o * v246o < 0) → ¬ cuCr w i j) := (cuCr_o (cuE_ax hG (show i < w.length by omega)) (cuE_ax hG (show j < w.length by omega)) g100 g145 g201 g246)
        refine And.intro (by omega) ⟨fun h250 => ?_, fun h250 => ?_⟩
        · refine And.intro (zRb rfl) (zbt rfl ?_)
          refine ⟨((2 - m), 1, (2 - (n + 1))), zlt6 (by omega), [some (zvr (k)), some (zvi (a)), some (zvi (b)), some (zvi (m)), some (zvi (8 * i)), some (zvi (e)), some (zvi ((n + 1))), none, none, none, none], ⟨rfl, rfl, rfl, rfl, rfl, rfl, rfl, rfl⟩, m, e, (n + 1), rfl, rfl, rfl, rfl, rfl, rfl, rfl, (by omega), (by omega), (by first | exact he2 | (clear hQ; grind [xu])), p22hv, (fun _ => g246bb.2 (by omega))⟩
        · refine And.intro (zRb rfl) (zbt rfl ?_)
          refine ⟨((2 - m), 1, (2 - (n + 1))), zlt6 (by omega), [some (zvr (k)), some (zvi (a)), some (zvi (b)), some (zvi (m)), some (zvi (8 * i)), some (zvi (e)), some (zvi ((n + 1))), none, none, none, none], ⟨rfl, rfl, rfl, rfl, rfl, rfl, rfl, rfl⟩, m, e, (n + 1), rfl, rfl, rfl, rfl, rfl, rfl, rfl, (by omega), (by omega), (by first | exact he2 | (clear hQ; grind [xu])), p22hv, (fun _ => g246bb.2 (by omega))⟩
      · refine And.intro (zDX hd 0 rfl) (zrdR (v := some (k + 6)) (zDR hd 5 rfl) ?_)
        refine And.intro (zDP hd 6 rfl rfl (by omega) (by omega)) (fun v165 e165 r165 => ?_)
        have f165 : v165 = cuE w j 1 0 := (e165.trans ((congrArg (L1 (k + 6)) (show _ = 8 * j + 0 by omega)).trans (zCi_c (hck j (by omega)) (by have z := cuCn_c (cg w j 0); omega)).1))
        have f165b : 0 ≤ v165 ∧ v165 ≤ 15000 := (by have z := cuE_b (ax := 1) (e := 0) hG (show j < w.length by omega); omega)
        refine And.intro (zDX hd 0 rfl) (zrdR (v := some (k + 7)) (zDR hd 6 rfl) ?_)
        refine And.intro (zDP hd 7 rfl rfl (by omega) (by omega)) (fun v172 e172 r172 => ?_)
        have f172 : v172 = cuE w j 0 0 := (e172.trans ((congrArg (L1 (k + 7)) (show _ = 8 * j + 0 by omega)).trans (zCi_c (hck j (by omega)) (by have z := cuCn_c (cg w j 0); omega)).2))
        have f172b : 0 ≤ v172 ∧ v172 ≤ 15000 := (by have z := cuE_b (ax := 0) (e := 0) hG (show j < w.length by omega); omega)
        refine And.intro (zDX hd 0 rfl) (zrdR (v := some (k + 6)) (zDR hd 5 rfl) ?_)
        refine And.intro (zDP hd 6 rfl rfl (by omega) (by omega)) (fun v179 e179 r179 => ?_)
        have f179 : v179 = cuE w j 1 1 := (e179.trans (zCi_e hG (show j < w.length by omega) (hck j (by omega)) p53hv).1)
        have f179b : 0 ≤ v179 ∧ v179 ≤ 15000 := (by have z := cuE_b (ax := 1) (e := 1) hG (show j < w.length by omega); omega)
        refine And.intro (zDX hd 0 rfl) (zrdR (v := some (k + 7)) (zDR hd 6 rfl) ?_)
        refine And.intro (zDP hd 7 rfl rfl (by omega) (by omega)) (fun v186 e186 r186 => ?_)
        have f186 : v186 = cuE w j 0 1 := (e186.trans (zCi_e hG (show j < w.length by omega) (hck j (by omega)) p53hv).2)
        have f186b : 0 ≤ v186 ∧ v186 ≤ 15000 := (by have z := cuE_b (ax := 0) (e := 1) hG (show j < w.length by omega); omega)
        refine And.intro (zDX hd 0 rfl) (zrdR (v := some (k + 6)) (zDR hd 5 rfl) ?_)
        refine And.intro (zDP hd 6 rfl rfl (by omega) (by omega)) (fun v193 e193 r193 => ?_)
        have f193 : v193 = cuE w i 1 0 := (e193.trans ((congrArg (L1 (k + 6)) (show _ = 8 * i + 0 by omega)).trans (zCi_c (hck i (by omega)) (by have z := cuCn_c (cg w i 0); omega)).1))
        have f193b : 0 ≤ v193 ∧ v193 ≤ 15000 := (by have z := cuE_b (ax := 1) (e := 0) hG (show i < w.length by omega); omega)
        refine And.intro (zDX hd 0 rfl) (zrdR (v := some (k + 7)) (zDR hd 6 rfl) ?_)
        refine And.intro (zDP hd 7 rfl rfl (by omega) (by omega)) (fun v200 e200 r200 => ?_)
        have f200 : v200 = cuE w i 0 0 := (e200.trans ((congrArg (L1 (k + 7)) (show _ = 8 * i + 0 by omega)).trans (zCi_c (hck i (by omega)) (by have z := cuCn_c (cg w i 0); omega)).2))
        have f200b : 0 ≤ v200 ∧ v200 ≤ 15000 := (by have z := cuE_b (ax := 0) (e := 0) hG (show i < w.length by omega); omega)
        refine ⟨_, sn_V_sid.up (by decide), ?_⟩
        refine ⟨(v165 : Int), (v172 : Int), (v179 : Int), (v186 : Int), (v193 : Int), (v200 : Int), rfl, (by clear hQ; grind [xu]), (by have z := cuE_ax hG (show j < w.length by omega); have q1 : v165 = cuE w j 1 0 := (by omega); have q2 : v172 = cuE w j 0 0 := (by omega); have q3 : v179 = cuE w j 1 1 := (by omega); have q4 : v186 = cuE w j 0 1 := (by omega); rw [q1, q2, q3, q4]; exact z), ?_⟩
        intro v201o p201hv p201bhv2
        have g201 : cuSd v201o (cuE w j 1 0) (cuE w j 0 0) (cuE w j 1 1) (cuE w j 0 1) (cuE w i 1 0) (cuE w i 0 0) := (by have z : cuSd v201o v165 v172 v179 v186 v193 v200 := p201hv; have q1 : v165 = cuE w j 1 0 := (by omega); have q2 : v172 = cuE w j 0 0 := (by omega); have q3 : v179 = cuE w j 1 1 := (by omega); have q4 : v186 = cuE w j 0 1 := (by omega); have q5 : v193 = cuE w i 1 0 := (by omega); have q6 : v200 = cuE w i 0 0 := (by omega); rw [q1, q2, q3, q4, q5, q6] at z; exact z)
        refine And.intro (zDX hd 0 rfl) (zrdR (v := some (k + 6)) (zDR hd 5 rfl) ?_)
        refine And.intro (zDP hd 6 rfl rfl (by omega) (by omega)) (fun v210 e210 r210 => ?_)
        have f210 : v210 = cuE w j 1 0 := (e210.trans ((congrArg (L1 (k + 6)) (show _ = 8 * j + 0 by omega)).trans (zCi_c (hck j (by omega)) (by have z := cuCn_c (cg w j 0); omega)).1))
        have f210b : 0 ≤ v210 ∧ v210 ≤ 15000 := (by have z := cuE_b (ax := 1) (e := 0) hG (show j < w.length by omega); omega)
        refine And.intro (zDX hd 0 rfl) (zrdR (v := some (k + 7)) (zDR hd 6 rfl) ?_)
        refine And.intro (zDP hd 7 rfl rfl (by omega) (by omega)) (fun v217 e217 r217 => ?_)
        have f217 : v217 = cuE w j 0 0 := (e217.trans ((congrArg (L1 (k + 7)) (show _ = 8 * j + 0 by omega)).trans (zCi_c (hck j (by omega)) (by have z := cuCn_c (cg w j 0); omega)).2))
        have f217b : 0 ≤ v217 ∧ v217 ≤ 15000 := (by have z := cuE_b (ax := 0) (e := 0) hG (show j < w.length by omega); omega)
        refine And.intro (zDX hd 0 rfl) (zrdR (v := some (k + 6)) (zDR hd 5 rfl) ?_)
        refine And.intro (zDP hd 6 rfl rfl (by omega) (by omega)) (fun v224 e224 r224 => ?_)
        have f224 : v224 = cuE w j 1 1 := (e224.trans (zCi_e hG (show j < w.length by omega) (hck j (by omega)) p53hv).1)
        have f224b : 0 ≤ v224 ∧ v224 ≤ 15000 := (by have z := cuE_b (ax := 1) (e := 1) hG (show j < w.length by omega); omega)
        refine And.intro (zDX hd 0 rfl) (zrdR (v := some (k + 7)) (zDR hd 6 rfl) ?_)
        refine And.intro (zDP hd 7 rfl rfl (by omega) (by omega)) (fun v231 e231 r231 => ?_)
        have f231 : v231 = cuE w j 0 1 := (e231.trans (zCi_e hG (show j < w.length by omega) (hck j (by omega)) p53hv).2)
        have f231b : 0 ≤ v231 ∧ v231 ≤ 15000 := (by have z := cuE_b (ax := 0) (e := 1) hG (show j < w.length by omega); omega)
        refine And.intro (zDX hd 0 rfl) (zrdR (v := some (k + 6)) (zDR hd 5 rfl) ?_)
        refine And.intro (zDP hd 6 rfl rfl (by omega) (by omega)) (fun v238 e238 r238 => ?_)
        have f238 : v238 = cuE w i 1 1 := (e238.trans (zCi_e hG (show i < w.length by omega) (hck i (by omega)) p22hv).1)
        have f238b : 0 ≤ v238 ∧ v238 ≤ 15000 := (by have z := cuE_b (ax := 1) (e := 1) hG (show i < w.length by omega); omega)
        refine And.intro (zDX hd 0 rfl) (zrdR (v := some (k + 7)) (zDR hd 6 rfl) ?_)
        refine And.intro (zDP hd 7 rfl rfl (by omega) (by omega)) (fun v245 e245 r245 => ?_)
        have f245 : v245 = cuE w i 0 1 := (e245.trans (zCi_e hG (show i < w.length by omega) (hck i (by omega)) p22hv).2)
        have f245b : 0 ≤ v245 ∧ v245 ≤ 15000 := (by have z := cuE_b (ax := 0) (e := 1) hG (show i < w.length by omega); omega)
        refine ⟨_, sn_V_sid.up (by decide), ?_⟩
        refine ⟨(v210 : Int), (v217 : Int), (v224 : Int), (v231 : Int), (v238 : Int), (v245 : Int), rfl, (by clear hQ; grind [xu]), (by have z := cuE_ax hG (show j < w.length by omega); have q1 : v210 = cuE w j 1 0 := (by omega); have q2 : v217 = cuE w j 0 0 := (by omega); have q3 : v224 = cuE w j 1 1 := (by omega); have q4 : v231 = cuE w j 0 1 := (by omega); rw [q1, q2, q3, q4]; exact z), ?_⟩
        intro v246o p246hv p246bhv2
        have g246 : cuSd v246o (cuE w j 1 0) (cuE w j 0 0) (cuE w j 1 1) (cuE w j 0 1) (cuE w i 1 1) (cuE w i 0 1) := (by have z : cuSd v246o v210 v217 v224 v231 v238 v245 := p246hv; have q1 : v210 = cuE w j 1 0 := (by omega); have q2 : v217 = cuE w j 0 0 := (by omega); have q3 : v224 = cuE w j 1 1 := (by omega); have q4 : v231 = cuE w j 0 1 := (by omega); have q5 : v238 = cuE w i 1 1 := (by omega); have q6 : v245 = cuE w i 0 1 := (by omega); rw [q1, q2, q3, q4, q5, q6] at z; exact z)
        have g246b : (v201o * v246o < 0 ↔ (v201o = 1 ∧ v246o = -1) ∨ (v201o = -1 ∧ v246o = 1)) ∧ -1 ≤ v201o * v246o ∧ v201o * v246o ≤ 1 := (zsg2 (by omega) (by omega))
        have g246bb : ((v100o * v145o < 0 ∧ v201o * v246o < 0) → cuGx w i j 1 0 = 0 ∧ cuGx w i j 0 0 = 0) ∧ (¬ (v100o * v145o < 0 ∧ v201o * v246o < 0) → ¬ cuCr w i j) := (cuCr_o (cuE_ax hG (show i < w.length by omega)) (cuE_ax hG (show j < w.length by omega)) g100 g145 g201 g246)
        refine And.intro (by omega) ⟨fun h250 => ?_, fun h250 => ?_⟩
        · refine And.intro (zRb rfl) (zbf rfl ?_)
          refine And.intro (zRb rfl) (zbt rfl ?_)
          refine ⟨((2 - m), 1, (2 - (n + 1))), zlt6 (by omega), [some (zvr (k)), some (zvi (a)), some (zvi (b)), some (zvi (m)), some (zvi (8 * i)), some (zvi (e)), some (zvi ((n + 1))), none, none, none, none], ⟨rfl, rfl, rfl, rfl, rfl, rfl, rfl, rfl⟩, m, e, (n + 1), rfl, rfl, rfl, rfl, rfl, rfl, rfl, (by omega), (by omega), (by first | exact he2 | (clear hQ; grind [xu])), p22hv, (fun _ => g246bb.2 (by omega))⟩
        · refine And.intro (zRb rfl) (zbf rfl ?_)
          refine And.intro (zRb rfl) (zbf rfl ?_)
          refine And.intro (Or.inr rfl) ?_
          refine hQ _ (by first | exact Or.inr ⟨rfl, hm1 (by omega)⟩ | exact Or.inl ⟨rfl, g246bb.1 (by omega)⟩))
