/-! zd -/
def T_Y_shB : ZT := fun args I L R S Q => ∃ (fm : Int), args = [zvr 165, zvi fm] ∧ (zSh S) ∧ (zRs R) ∧ (r32 fm) ∧ (¬ (0 ≤ fm ∧ fm ≤ 1)) ∧ ∀ (I' : ZI), (I' 165 0 = 2) → (∀ c j : Nat, ¬ (c = 165 ∧ j = 0) → I' c j = I c j) → Q (some (zvi (-1))) I' L R S
theorem sn_Y_shB : ZSnd 10 21 70 T_Y_shB := ZSnd.of (zT21_70 9) (by
  rintro args I L R S Q hz ⟨fm, rfl, hS, hR, hfm, hf2, hQ⟩
  refine And.intro rfl ?_
  refine And.intro (by omega) ⟨fun h1 => ?_, fun h1 => ?_⟩
  · refine And.intro (zA_165 hS) (Exists.intro _ (And.intro (zinl_ok (zT21_47 8)) (And.intro rfl ?_)))
    refine And.intro (zA_165 hS) ⟨_, (zWi (zRb rfl)), ?_⟩
    refine hQ _ zxe (fun c j h0 => (zxcj h0 rfl))
  · refine And.intro ⟨(by omega), (zRb rfl)⟩ ⟨fun h6 => ?_, fun h6 => ?_⟩
    · exact False.elim (by omega)
    · refine And.intro (zA_165 hS) (Exists.intro _ (And.intro (zinl_ok (zT21_47 8)) (And.intro rfl ?_)))
      refine And.intro (zA_165 hS) ⟨_, (zWi (zRb rfl)), ?_⟩
      refine hQ _ zxe (fun c j h0 => (zxcj h0 rfl)))
def T_Y_shF : ZT := fun args I L R S Q => ∃ (fm : Int) (tr : Int) (td : Int), args = [zvr 165, zvi fm] ∧ (zSh S) ∧ (zRs R) ∧ (0 ≤ fm ∧ fm ≤ 1) ∧ (I 165 5 = tr) ∧ (I 165 6 = td) ∧ (0 ≤ tr ∧ tr ≤ 24 ∧ 0 ≤ td ∧ td ≤ 4) ∧ (tr = 24 ∨ td = 4) ∧ ∀ (I' : ZI), (I' 165 0 = 1) → (∀ c j : Nat, ¬ (c = 165 ∧ j = 0) → I' c j = I c j) → Q (some (zvi (-1))) I' L R S
theorem sn_Y_shF : ZSnd 10 21 70 T_Y_shF := ZSnd.of (zT21_70 9) (by
  rintro args I L R S Q hz ⟨fm, tr, td, rfl, hS, hR, hfm, htr, htd, htb, hfl, hQ⟩
  refine And.intro rfl ?_
  refine And.intro (by omega) ⟨(fun h1 => False.elim (by omega)), fun h1 => ?_⟩
  refine And.intro ⟨(by omega), (zRb rfl)⟩ ⟨fun h6 => ?_, (fun h6 => False.elim (by omega))⟩
  refine And.intro (zA_165 hS) (zrd (v := tr) htr ?_)
  refine And.intro ⟨(by omega), (zRb rfl)⟩ ⟨fun h21 => ?_, fun h21 => ?_⟩
  · refine And.intro (zA_165 hS) (Exists.intro _ (And.intro (zinl_ok (zT21_47 8)) (And.intro rfl ?_)))
    refine And.intro (zA_165 hS) ⟨_, (zWi (zRb rfl)), ?_⟩
    refine hQ _ zxe (fun c j h0 => (zxcj h0 rfl))
  · refine And.intro (zA_165 hS) (zrd (v := td) htd ?_)
    refine And.intro ⟨(by omega), (zRb rfl)⟩ ⟨fun h29 => ?_, fun h29 => ?_⟩
    · exact False.elim (by omega)
    · refine And.intro (zA_165 hS) (Exists.intro _ (And.intro (zinl_ok (zT21_47 8)) (And.intro rfl ?_)))
      refine And.intro (zA_165 hS) ⟨_, (zWi (zRb rfl)), ?_⟩
      refine hQ _ zxe (fun c j h0 => (zxcj h0 rfl)))
def T_Y_shX0 : ZT := fun args I L R S Q => ∃ (tp : List Int) (tr : Int) (td : Int), args = [zvr 165, zvi 0] ∧ (zSh S) ∧ (zRs R) ∧ (zTB tp I) ∧ (tGb tp) ∧ (I 165 5 = tr) ∧ (I 165 6 = td) ∧ (0 ≤ tr ∧ tr ≤ 24 ∧ 0 ≤ td ∧ td ≤ 4) ∧ (tr ≤ 23 ∧ td ≤ 3) ∧ (I 168 1 = 0) ∧ (rdF (tTk tp 4000) (bF 0) ≠ -1) ∧ ∀ (v : Int) (I' : ZI) (L' : ZI), (v = -2 - rdF (tTk tp 4000) (bF 0)) → (I' 165 0 = 2) → (∃ t, tRe (tC (tTk tp 4000)) (tTk tp 4000).length (bF 0) t ∧ tyE (tTk tp 4000).length (bF 0) t) → (zTB [] I') → (I' 165 5 = tr + 1) → ((∀ j : Nat, (j = 4 ∨ j = 13 ∨ j = 14 ∨ j = 27) → I' 168 j = I 168 j) ∧ ∀ x j : Nat, 170 ≤ x → x ≤ 177 → I' x j = I x j ∧ L' x j = L x j) → (∀ c j : Nat, ¬ (c = 165 ∧ j = 0) → ¬ (c = 165 ∧ j = 2) → ¬ (c = 165 ∧ j = 5) → ¬ (c = 168 ∧ j = 0) → ¬ (c = 168 ∧ j = 3) → ¬ (c = 168 ∧ j = 4) → ¬ (c = 168 ∧ j = 13) → ¬ (c = 168 ∧ j = 14) → ¬ (c = 168 ∧ j = 27) → ¬ (c = 168 ∧ j = 15) → ¬ (c = 168 ∧ j = 16) → ¬ (c = 168 ∧ j = 17) → ¬ (c = 168 ∧ j = 18) → ¬ (c = 168 ∧ j = 20) → ¬ (c = 168 ∧ j = 21) → ¬ (c = 168 ∧ j = 22) → ¬ (c = 168 ∧ j = 29) → ¬ (c = 168 ∧ j = 30) → ¬ c = 169 → ¬ c = 170 → ¬ c = 171 → ¬ c = 173 → ¬ c = 174 → ¬ c = 175 → ¬ c = 176 → ¬ c = 177 → ¬ c = 178 → ¬ c = 179 → I' c j = I c j) → (∀ c j : Nat, ¬ (c = 168 ∧ j = 28) → ¬ c = 172 → L' c j = L c j) → Q (some (zvi (v))) I' L' R S
theorem sn_Y_shX0 : ZSnd 10 21 70 T_Y_shX0 := ZSnd.loops (zT21_70 9) (by
  rintro args I L R S Q hz ⟨tp, tr, td, rfl, hS, hR, hTB, hg, htr, htd, htb, hfl, hfo, hz9, hQ⟩
  have hDk := zDy_168 hR hS
  have hc0 := tC_ok (tp := tp) (r := 4000) (by decide)
  have ht0 := hTB.1
  have hg1 := hg.1
  refine ⟨[64], fun nM tM lsM stM I1 L1 R1 S1 => match tM with
      | 64 => ∃ (i : Nat) (lf : Int), nM = ((4001 - i), 0, 0) ∧ lsM = [some (zvr (165)), some (zvi (0)), some (zvr (168)), some (zvi (lf)), some (zvi (i))] ∧ stM = [] ∧ L1 = L ∧ R1 = R ∧ S1 = S ∧ (i ≤ tp.length) ∧ (0 ≤ lf ∧ lf ≤ i) ∧ (I1 165 5 = tr + 1) ∧ (zRM 168 (tC (tF tp i)) (tF tp i).length I1) ∧ (∀ c j : Nat, ¬ (c = 165 ∧ j = 5) → ¬ (c = 168 ∧ j = 0) → ¬ (c = 168 ∧ j = 3) → ¬ c = 169 → I1 c j = I c j)
      | _ => False, rfl, ?_, ⟨?_, True.intro⟩⟩
  · refine And.intro (zRb rfl) (zbf rfl ?_)
    refine And.intro ⟨(zRb rfl), (zRb rfl)⟩ (zbt rfl ?_)
    refine And.intro (zA_165 hS) (zrd (v := tr) htr ?_)
    refine And.intro ⟨(by omega), (zRb rfl)⟩ ⟨(fun h21 => False.elim (by omega)), fun h21 => ?_⟩
    refine And.intro (zA_165 hS) (zrd (v := td) htd ?_)
    refine And.intro ⟨(by omega), (zRb rfl)⟩ ⟨fun h29 => ?_, (fun h29 => False.elim (by omega))⟩
    refine And.intro (zA_165 hS) (zrd (v := tr) htr ?_)
    refine And.intro (zA_165 hS) ⟨_, (zWi (by omega)), ?_⟩
    refine And.intro (zA_165 hS) (zrdR (v := some 167) (zR_165_3 hR) ?_)
    refine And.intro (zP_167 hS (by omega) (by omega)) (zrdR (v := some 168) (zR_167_0 hR) ?_)
    refine And.intro (zA_168 hS) ⟨_, sn_V_clr.up (by decide), ?_⟩
    refine ⟨168, rfl, hDk, ?_⟩
    intro I56o p56h3 p56bfr
    refine ⟨((4001 - (0 : Nat)), 0, 0), [some (zvr (165)), some (zvi (0)), some (zvr (168)), some (zvi ((0 : Int))), some (zvi ((0 : Nat)))], ⟨rfl, rfl, rfl, rfl, rfl, rfl⟩, 0, 0, rfl, rfl, rfl, rfl, rfl, rfl, (by omega), (by omega), ((p56bfr 165 5 (by omega) (by omega)).trans zxe), (zRM_0 p56h3), (fun c j h0 h1 h2 h3 => ((p56bfr c j h1 h2).trans (zxcj h0 rfl)))⟩
  · rintro nM lsM stM I1 L1 R1 S1 hz1 ⟨i, lf, rfl, rfl, rfl, rfl, rfl, rfl, hi, hlf, h5, hX, fr⟩
    have ht1 : I1 165 2 = tp.length := (fr 165 2 (by omega) (by omega) (by omega) (by omega)).trans ht0
    have hgi := fun (h : i < tp.length) => hg.2 i h
    have hai := fun (h : i < tp.length) => (fr 166 i (by omega) (by omega) (by omega) (by omega)).trans (hTB.2 i h)
    have htl := tF_l (tp := tp) (i := i)
    refine And.intro (zA_165 hS) (zrd (v := (tp.length)) ht1 ?_)
    refine And.intro ⟨(by omega), (by omega)⟩ ⟨fun h70 => ?_, fun h70 => ?_⟩
    · refine And.intro (zA_165 hS) ⟨_, (zWi (zRb rfl)), ?_⟩
      refine And.intro (zA_168 hS) ⟨_, sn_V_read.up (by decide), ?_⟩
      refine ⟨168, (tC (tTk tp 4000)), (tTk tp 4000).length, 0, rfl, hDk, (zRM_fr (zRM_w hX (by have e9 : i = tp.length := (by omega); subst e9; exact (tTk_a (by omega)).symm)) (fun c j h => zxcj (by omega) rfl)), hc0, (zxu (by decide) ((fr 168 1 (by omega) (by omega) (by omega) (by omega)).trans hfo)), (by omega), ?_⟩
      intro v107o I107o L107o p107hq p107bhno p107bbhnc p107bbbfr p107bbbbfrL
      have g107 : rdD 168 (tTk tp 4000) (bF 0) v107o I107o L107o := (rdD_i hc0 (by decide) (zVQ_b (fm := 0) p107hq))
      have g107b : (-1 ≤ rdF (tTk tp 4000) (bF 0) ∧ rdF (tTk tp 4000) (bF 0) ≤ 9000) ∧ v107o = -1 - rdF (tTk tp 4000) (bF 0) := ⟨g107.1.1, by rcases g107.2 with y | y; exact y.2; exact absurd y.1 hz9⟩
      refine And.intro (by omega) ⟨fun h114 => ?_, fun h114 => ?_⟩
      · exact False.elim (by omega)
      · refine And.intro (zA_165 hS) ⟨_, (zWi (zRb rfl)), ?_⟩
        refine hQ _ _ _ (by omega) (by first | exact zxe | exact zxs (by decide) zxe) ⟨_, g107.1.2⟩ ⟨(by repeat (first | exact zxe | refine zxcj (by omega) ?_ | refine (p107bbbfr _ _ (by omega) (by omega) (by omega) (by omega) (by omega) (by omega) (by omega) (by omega) (by omega) (by omega) (by omega) (by omega) (by omega) (by omega) (by omega) (by omega) (by omega) (by omega) (by omega) (by omega) (by omega) (by omega) (by omega)).trans ?_ | refine (fr _ _ (by omega) (by omega) (by omega) (by omega)).trans ?_)), fun i9 h9 => absurd h9 (Nat.not_lt_zero i9)⟩ (by repeat (first | exact h5 | refine zxcj (by omega) ?_ | refine (p107bbbfr _ _ (by omega) (by omega) (by omega) (by omega) (by omega) (by omega) (by omega) (by omega) (by omega) (by omega) (by omega) (by omega) (by omega) (by omega) (by omega) (by omega) (by omega) (by omega) (by omega) (by omega) (by omega) (by omega) (by omega)).trans ?_ | refine (fr _ _ (by omega) (by omega) (by omega) (by omega)).trans ?_)) ⟨fun j9 h9 => (by refine zxu (by decide) ?_; exact (p107bhno (by omega) j9 h9).trans (by repeat (first | exact rfl | refine zxcj (by omega) ?_ | refine (fr _ _ (by omega) (by omega) (by omega) (by omega)).trans ?_))), fun x9 j9 h9 h8 => ⟨(by refine zxu (by omega) ?_; exact (p107bbhnc (by omega) x9 j9 h9 h8).1.trans (by repeat (first | exact rfl | refine zxcj (by omega) ?_ | refine (fr _ _ (by omega) (by omega) (by omega) (by omega)).trans ?_))), (p107bbhnc (by omega) x9 j9 h9 h8).2⟩⟩ (fun c j h0 h1 h2 h3 h4 h5 h6 h7 h8 h9 h10 h11 h12 h13 h14 h15 h16 h17 h18 h19 h20 h21 h22 h23 h24 h25 h26 h27 => (zxcj h0 ((p107bbbfr c j h3 h5 h6 h7 h8 h9 h10 h11 h12 h13 h14 h15 h16 h17 h19 h20 h21 h22 h23 h24 h25 h26 h27).trans (zxcj h1 ((fr c j h2 h3 h4 h18).trans rfl))))) (fun c j h0 h1 => ((p107bbbbfrL c j h0 h1).trans rfl))
    · refine And.intro (zA_165 hS) (zrdR (v := some 166) (zR_165_1 hR) ?_)
      refine And.intro (zP_166 hS (by omega) (by omega)) (fun v81 e81 r81 => ?_)
      have f81 : v81 = wAt tp i := (e81.trans ((congrArg (I1 166) (by omega)).trans (hai (by omega))))
      have f81b : 0 ≤ v81 ∧ v81 ≤ 255 := (by have z := hgi (by omega); omega)
      refine And.intro (zA_168 hS) ⟨_, sn_V_unt.up (by decide), ?_⟩
      refine ⟨168, (tC (tF tp i)), (tF tp i).length, (v81 : Int), rfl, hDk, hX, (by omega), (by omega), ?_⟩
      intro v82o I82o p82hv p82bfr
      have g82 : v82o = 0 ∨ v82o = 1 := (by rcases p82hv with y | y; exact Or.inr y.2.2.1; exact Or.inl y.2.1)
      refine And.intro (by omega) ⟨fun h85 => ?_, fun h85 => ?_⟩
      · refine ⟨((4001 - (i + 1)), 0, 0), zlt6 (by omega), [some (zvr (165)), some (zvi (0)), some (zvr (168)), some (zvi ((lf + 1))), some (zvi ((i + 1)))], ⟨rfl, rfl, rfl, rfl, rfl, rfl⟩, (i + 1), (lf + 1), rfl, rfl, rfl, rfl, rfl, rfl, (by omega), (by omega), ((p82bfr 165 5 (by omega) (by omega) (by omega)).trans h5), ?_, (fun c j h0 h1 h2 h3 => ((p82bfr c j h1 h2 (fun w => h3 w.1)).trans ((fr c j h0 h1 h2 h3).trans rfl)))⟩
        · rcases p82hv with ⟨y1, y2, y3, y4⟩ | ⟨y1, y2, y3⟩
          · have yc : wAt tp i = 10 ∨ (32 ≤ wAt tp i ∧ wAt tp i ≤ 126) := by omega
            rw [tF_y yc]
            rw [f81] at y4
            exact zRM_s y4
          · have yc : ¬ (wAt tp i = 10 ∨ (32 ≤ wAt tp i ∧ wAt tp i ≤ 126)) := by omega
            rw [tF_n yc]
            exact y3
      · refine ⟨((4001 - (i + 1)), 0, 0), zlt6 (by omega), [some (zvr (165)), some (zvi (0)), some (zvr (168)), some (zvi ((lf + 0))), some (zvi ((i + 1)))], ⟨rfl, rfl, rfl, rfl, rfl, rfl⟩, (i + 1), (lf + 0), rfl, rfl, rfl, rfl, rfl, rfl, (by omega), (by omega), ((p82bfr 165 5 (by omega) (by omega) (by omega)).trans h5), ?_, (fun c j h0 h1 h2 h3 => ((p82bfr c j h1 h2 (fun w => h3 w.1)).trans ((fr c j h0 h1 h2 h3).trans rfl)))⟩
        · rcases p82hv with ⟨y1, y2, y3, y4⟩ | ⟨y1, y2, y3⟩
          · have yc : wAt tp i = 10 ∨ (32 ≤ wAt tp i ∧ wAt tp i ≤ 126) := by omega
            rw [tF_y yc]
            rw [f81] at y4
            exact zRM_s y4
          · have yc : ¬ (wAt tp i = 10 ∨ (32 ≤ wAt tp i ∧ wAt tp i ≤ 126)) := by omega
            rw [tF_n yc]
            exact y3)
def T_Y_shX1 : ZT := fun args I L R S Q => ∃ (tp : List Int) (tr : Int) (td : Int), args = [zvr 165, zvi 1] ∧ (zSh S) ∧ (zRs R) ∧ (zTB tp I) ∧ (tGb tp) ∧ (I 165 5 = tr) ∧ (I 165 6 = td) ∧ (0 ≤ tr ∧ tr ≤ 24 ∧ 0 ≤ td ∧ td ≤ 4) ∧ (tr ≤ 23 ∧ td ≤ 3) ∧ (I 181 1 = 1) ∧ (rdF (tTk tp 4000) (bF 1) ≠ -1) ∧ ∀ (v : Int) (I' : ZI) (L' : ZI), (v = -2 - rdF (tTk tp 4000) (bF 1)) → (I' 165 0 = 2) → (∃ t, tRe (tC (tTk tp 4000)) (tTk tp 4000).length (bF 1) t ∧ tyE (tTk tp 4000).length (bF 1) t) → (zTB [] I') → (I' 165 5 = tr + 1) → ((∀ j : Nat, (j = 4 ∨ j = 13 ∨ j = 14 ∨ j = 27) → I' 181 j = I 181 j) ∧ ∀ x j : Nat, 183 ≤ x → x ≤ 190 → I' x j = I x j ∧ L' x j = L x j) → (∀ c j : Nat, ¬ (c = 165 ∧ j = 0) → ¬ (c = 165 ∧ j = 2) → ¬ (c = 165 ∧ j = 5) → ¬ (c = 181 ∧ j = 0) → ¬ (c = 181 ∧ j = 3) → ¬ (c = 181 ∧ j = 4) → ¬ (c = 181 ∧ j = 13) → ¬ (c = 181 ∧ j = 14) → ¬ (c = 181 ∧ j = 27) → ¬ (c = 181 ∧ j = 15) → ¬ (c = 181 ∧ j = 16) → ¬ (c = 181 ∧ j = 17) → ¬ (c = 181 ∧ j = 18) → ¬ (c = 181 ∧ j = 20) → ¬ (c = 181 ∧ j = 21) → ¬ (c = 181 ∧ j = 22) → ¬ (c = 181 ∧ j = 29) → ¬ (c = 181 ∧ j = 30) → ¬ c = 182 → ¬ c = 183 → ¬ c = 184 → ¬ c = 186 → ¬ c = 187 → ¬ c = 188 → ¬ c = 189 → ¬ c = 190 → ¬ c = 191 → ¬ c = 192 → I' c j = I c j) → (∀ c j : Nat, ¬ (c = 181 ∧ j = 28) → ¬ c = 185 → L' c j = L c j) → Q (some (zvi (v))) I' L' R S
theorem sn_Y_shX1 : ZSnd 10 21 70 T_Y_shX1 := ZSnd.loops (zT21_70 9) (by
  rintro args I L R S Q hz ⟨tp, tr, td, rfl, hS, hR, hTB, hg, htr, htd, htb, hfl, hfo, hz9, hQ⟩
  have hDk := zDy_181 hR hS
  have hc0 := tC_ok (tp := tp) (r := 4000) (by decide)
  have ht0 := hTB.1
  have hg1 := hg.1
  refine ⟨[64], fun nM tM lsM stM I1 L1 R1 S1 => match tM with
      | 64 => ∃ (i : Nat) (lf : Int), nM = ((4001 - i), 0, 0) ∧ lsM = [some (zvr (165)), some (zvi (1)), some (zvr (181)), some (zvi (lf)), some (zvi (i))] ∧ stM = [] ∧ L1 = L ∧ R1 = R ∧ S1 = S ∧ (i ≤ tp.length) ∧ (0 ≤ lf ∧ lf ≤ i) ∧ (I1 165 5 = tr + 1) ∧ (zRM 181 (tC (tF tp i)) (tF tp i).length I1) ∧ (∀ c j : Nat, ¬ (c = 165 ∧ j = 5) → ¬ (c = 181 ∧ j = 0) → ¬ (c = 181 ∧ j = 3) → ¬ c = 182 → I1 c j = I c j)
      | _ => False, rfl, ?_, ⟨?_, True.intro⟩⟩
  · refine And.intro (zRb rfl) (zbf rfl ?_)
    refine And.intro ⟨(zRb rfl), (zRb rfl)⟩ (zbt rfl ?_)
    refine And.intro (zA_165 hS) (zrd (v := tr) htr ?_)
    refine And.intro ⟨(by omega), (zRb rfl)⟩ ⟨(fun h21 => False.elim (by omega)), fun h21 => ?_⟩
    refine And.intro (zA_165 hS) (zrd (v := td) htd ?_)
    refine And.intro ⟨(by omega), (zRb rfl)⟩ ⟨fun h29 => ?_, (fun h29 => False.elim (by omega))⟩
    refine And.intro (zA_165 hS) (zrd (v := tr) htr ?_)
    refine And.intro (zA_165 hS) ⟨_, (zWi (by omega)), ?_⟩
    refine And.intro (zA_165 hS) (zrdR (v := some 167) (zR_165_3 hR) ?_)
    refine And.intro (zP_167 hS (by omega) (by omega)) (zrdR (v := some 181) (zR_167_1 hR) ?_)
    refine And.intro (zA_181 hS) ⟨_, sn_V_clr.up (by decide), ?_⟩
    refine ⟨181, rfl, hDk, ?_⟩
    intro I56o p56h3 p56bfr
    refine ⟨((4001 - (0 : Nat)), 0, 0), [some (zvr (165)), some (zvi (1)), some (zvr (181)), some (zvi ((0 : Int))), some (zvi ((0 : Nat)))], ⟨rfl, rfl, rfl, rfl, rfl, rfl⟩, 0, 0, rfl, rfl, rfl, rfl, rfl, rfl, (by omega), (by omega), ((p56bfr 165 5 (by omega) (by omega)).trans zxe), (zRM_0 p56h3), (fun c j h0 h1 h2 h3 => ((p56bfr c j h1 h2).trans (zxcj h0 rfl)))⟩
  · rintro nM lsM stM I1 L1 R1 S1 hz1 ⟨i, lf, rfl, rfl, rfl, rfl, rfl, rfl, hi, hlf, h5, hX, fr⟩
    have ht1 : I1 165 2 = tp.length := (fr 165 2 (by omega) (by omega) (by omega) (by omega)).trans ht0
    have hgi := fun (h : i < tp.length) => hg.2 i h
    have hai := fun (h : i < tp.length) => (fr 166 i (by omega) (by omega) (by omega) (by omega)).trans (hTB.2 i h)
    have htl := tF_l (tp := tp) (i := i)
    refine And.intro (zA_165 hS) (zrd (v := (tp.length)) ht1 ?_)
    refine And.intro ⟨(by omega), (by omega)⟩ ⟨fun h70 => ?_, fun h70 => ?_⟩
    · refine And.intro (zA_165 hS) ⟨_, (zWi (zRb rfl)), ?_⟩
      refine And.intro (zA_181 hS) ⟨_, sn_V_read.up (by decide), ?_⟩
      refine ⟨181, (tC (tTk tp 4000)), (tTk tp 4000).length, 1, rfl, hDk, (zRM_fr (zRM_w hX (by have e9 : i = tp.length := (by omega); subst e9; exact (tTk_a (by omega)).symm)) (fun c j h => zxcj (by omega) rfl)), hc0, (zxu (by decide) ((fr 181 1 (by omega) (by omega) (by omega) (by omega)).trans hfo)), (by omega), ?_⟩
      intro v107o I107o L107o p107hq p107bhno p107bbhnc p107bbbfr p107bbbbfrL
      have g107 : rdD 181 (tTk tp 4000) (bF 1) v107o I107o L107o := (rdD_i hc0 (by decide) (zVQ_b (fm := 1) p107hq))
      have g107b : (-1 ≤ rdF (tTk tp 4000) (bF 1) ∧ rdF (tTk tp 4000) (bF 1) ≤ 9000) ∧ v107o = -1 - rdF (tTk tp 4000) (bF 1) := ⟨g107.1.1, by rcases g107.2 with y | y; exact y.2; exact absurd y.1 hz9⟩
      refine And.intro (by omega) ⟨fun h114 => ?_, fun h114 => ?_⟩
      · exact False.elim (by omega)
      · refine And.intro (zA_165 hS) ⟨_, (zWi (zRb rfl)), ?_⟩
        refine hQ _ _ _ (by omega) (by first | exact zxe | exact zxs (by decide) zxe) ⟨_, g107.1.2⟩ ⟨(by repeat (first | exact zxe | refine zxcj (by omega) ?_ | refine (p107bbbfr _ _ (by omega) (by omega) (by omega) (by omega) (by omega) (by omega) (by omega) (by omega) (by omega) (by omega) (by omega) (by omega) (by omega) (by omega) (by omega) (by omega) (by omega) (by omega) (by omega) (by omega) (by omega) (by omega) (by omega)).trans ?_ | refine (fr _ _ (by omega) (by omega) (by omega) (by omega)).trans ?_)), fun i9 h9 => absurd h9 (Nat.not_lt_zero i9)⟩ (by repeat (first | exact h5 | refine zxcj (by omega) ?_ | refine (p107bbbfr _ _ (by omega) (by omega) (by omega) (by omega) (by omega) (by omega) (by omega) (by omega) (by omega) (by omega) (by omega) (by omega) (by omega) (by omega) (by omega) (by omega) (by omega) (by omega) (by omega) (by omega) (by omega) (by omega) (by omega)).trans ?_ | refine (fr _ _ (by omega) (by omega) (by omega) (by omega)).trans ?_)) ⟨fun j9 h9 => (by refine zxu (by decide) ?_; exact (p107bhno (by omega) j9 h9).trans (by repeat (first | exact rfl | refine zxcj (by omega) ?_ | refine (fr _ _ (by omega) (by omega) (by omega) (by omega)).trans ?_))), fun x9 j9 h9 h8 => ⟨(by refine zxu (by omega) ?_; exact (p107bbhnc (by omega) x9 j9 h9 h8).1.trans (by repeat (first | exact rfl | refine zxcj (by omega) ?_ | refine (fr _ _ (by omega) (by omega) (by omega) (by omega)).trans ?_))), (p107bbhnc (by omega) x9 j9 h9 h8).2⟩⟩ (fun c j h0 h1 h2 h3 h4 h5 h6 h7 h8 h9 h10 h11 h12 h13 h14 h15 h16 h17 h18 h19 h20 h21 h22 h23 h24 h25 h26 h27 => (zxcj h0 ((p107bbbfr c j h3 h5 h6 h7 h8 h9 h10 h11 h12 h13 h14 h15 h16 h17 h19 h20 h21 h22 h23 h24 h25 h26 h27).trans (zxcj h1 ((fr c j h2 h3 h4 h18).trans rfl))))) (fun c j h0 h1 => ((p107bbbbfrL c j h0 h1).trans rfl))
    · refine And.intro (zA_165 hS) (zrdR (v := some 166) (zR_165_1 hR) ?_)
      refine And.intro (zP_166 hS (by omega) (by omega)) (fun v81 e81 r81 => ?_)
      have f81 : v81 = wAt tp i := (e81.trans ((congrArg (I1 166) (by omega)).trans (hai (by omega))))
      have f81b : 0 ≤ v81 ∧ v81 ≤ 255 := (by have z := hgi (by omega); omega)
      refine And.intro (zA_181 hS) ⟨_, sn_V_unt.up (by decide), ?_⟩
      refine ⟨181, (tC (tF tp i)), (tF tp i).length, (v81 : Int), rfl, hDk, hX, (by omega), (by omega), ?_⟩
      intro v82o I82o p82hv p82bfr
      have g82 : v82o = 0 ∨ v82o = 1 := (by rcases p82hv with y | y; exact Or.inr y.2.2.1; exact Or.inl y.2.1)
      refine And.intro (by omega) ⟨fun h85 => ?_, fun h85 => ?_⟩
      · refine ⟨((4001 - (i + 1)), 0, 0), zlt6 (by omega), [some (zvr (165)), some (zvi (1)), some (zvr (181)), some (zvi ((lf + 1))), some (zvi ((i + 1)))], ⟨rfl, rfl, rfl, rfl, rfl, rfl⟩, (i + 1), (lf + 1), rfl, rfl, rfl, rfl, rfl, rfl, (by omega), (by omega), ((p82bfr 165 5 (by omega) (by omega) (by omega)).trans h5), ?_, (fun c j h0 h1 h2 h3 => ((p82bfr c j h1 h2 (fun w => h3 w.1)).trans ((fr c j h0 h1 h2 h3).trans rfl)))⟩
        · rcases p82hv with ⟨y1, y2, y3, y4⟩ | ⟨y1, y2, y3⟩
          · have yc : wAt tp i = 10 ∨ (32 ≤ wAt tp i ∧ wAt tp i ≤ 126) := by omega
            rw [tF_y yc]
            rw [f81] at y4
            exact zRM_s y4
          · have yc : ¬ (wAt tp i = 10 ∨ (32 ≤ wAt tp i ∧ wAt tp i ≤ 126)) := by omega
            rw [tF_n yc]
            exact y3
      · refine ⟨((4001 - (i + 1)), 0, 0), zlt6 (by omega), [some (zvr (165)), some (zvi (1)), some (zvr (181)), some (zvi ((lf + 0))), some (zvi ((i + 1)))], ⟨rfl, rfl, rfl, rfl, rfl, rfl⟩, (i + 1), (lf + 0), rfl, rfl, rfl, rfl, rfl, rfl, (by omega), (by omega), ((p82bfr 165 5 (by omega) (by omega) (by omega)).trans h5), ?_, (fun c j h0 h1 h2 h3 => ((p82bfr c j h1 h2 (fun w => h3 w.1)).trans ((fr c j h0 h1 h2 h3).trans rfl)))⟩
        · rcases p82hv with ⟨y1, y2, y3, y4⟩ | ⟨y1, y2, y3⟩
          · have yc : wAt tp i = 10 ∨ (32 ≤ wAt tp i ∧ wAt tp i ≤ 126) := by omega
            rw [tF_y yc]
            rw [f81] at y4
            exact zRM_s y4
          · have yc : ¬ (wAt tp i = 10 ∨ (32 ≤ wAt tp i ∧ wAt tp i ≤ 126)) := by omega
            rw [tF_n yc]
            exact y3)
def T_Y_shG0 : ZT := fun args I L R S Q => ∃ (tp : List Int) (tr : Int) (td : Int), args = [zvr 165, zvi 0] ∧ (zSh S) ∧ (zRs R) ∧ (zTB tp I) ∧ (tGb tp) ∧ (I 165 5 = tr) ∧ (I 165 6 = td) ∧ (0 ≤ tr ∧ tr ≤ 24 ∧ 0 ≤ td ∧ td ≤ 4) ∧ (tr ≤ 23 ∧ td ≤ 3) ∧ (I 168 1 = 0) ∧ (rdF (tTk tp 4000) (bF 0) = -1) ∧ ∀ (q : Nat) (v : Int) (I' : ZI) (L' : ZI) (R' : ZR) (S' : ZS), (v = ocn (rdO (tTk tp 4000) (bF 0))) → (I' 165 0 = 0) → (∃ t, tRe (tC (tTk tp 4000)) (tTk tp 4000).length (bF 0) t ∧ tyE (tTk tp 4000).length (bF 0) t) → (zTB [] I') → (I' 165 5 = tr + 1) → (I' 165 6 = td + 1) → (I' 165 4 = 0) → (zSg S S') → (zDy zT18 zF18 q R' S') → (zRs R') → (302 ≤ q ∧ q = S.2.1) → (R' 165 7 = some q) → (S'.2.1 = S.2.1 + 23 ∧ S'.2.2 = S.2.2 + 44429) → (zOM 168 (rdO (tTk tp 4000) (bF 0)) I' L') → (zOU 168 (rdO (tTk tp 4000) (bF 0)) I') → (I' 168 27 = 1) → (zNJ q (oD (rdO (tTk tp 4000) (bF 0))) I' L') → (zJO q (oD (rdO (tTk tp 4000) (bF 0))) I') → (∀ c j : Nat, ¬ (c = 165 ∧ j = 0) → ¬ (c = 165 ∧ j = 2) → ¬ (c = 165 ∧ j = 5) → ¬ (c = 168 ∧ j = 0) → ¬ (c = 168 ∧ j = 3) → ¬ (c = 168 ∧ j = 4) → ¬ (c = 168 ∧ j = 13) → ¬ (c = 168 ∧ j = 14) → ¬ (c = 168 ∧ j = 27) → ¬ (c = 168 ∧ j = 15) → ¬ (c = 168 ∧ j = 16) → ¬ (c = 168 ∧ j = 17) → ¬ (c = 168 ∧ j = 18) → ¬ (c = 168 ∧ j = 20) → ¬ (c = 168 ∧ j = 21) → ¬ (c = 168 ∧ j = 22) → ¬ (c = 168 ∧ j = 29) → ¬ (c = 168 ∧ j = 30) → ¬ c = 169 → ¬ c = 170 → ¬ c = 171 → ¬ c = 173 → ¬ c = 174 → ¬ c = 175 → ¬ c = 176 → ¬ c = 177 → ¬ c = 178 → ¬ c = 179 → ¬ (c = 165 ∧ j = 4) → ¬ (c = 165 ∧ j = 6) → ¬ (c = 165 ∧ j = 11) → ¬ c = 194 → ¬ c = 195 → ¬ c = 196 → ¬ (q ≤ c ∧ c ≤ q + 22) → I' c j = I c j) → (∀ c j : Nat, ¬ (c = 168 ∧ j = 28) → ¬ c = 172 → ¬ (q ≤ c ∧ c ≤ q + 22) → L' c j = L c j) → (∀ c j : Nat, ¬ (c = 165 ∧ j = 7) → ¬ (q ≤ c ∧ c ≤ q + 22) → R' c j = R c j) → Q (some (zvi (v))) I' L' R' S'
theorem sn_Y_shG0 : ZSnd 10 21 70 T_Y_shG0 := ZSnd.loops (zT21_70 9) (by
  rintro args I L R S Q hz ⟨tp, tr, td, rfl, hS, hR, hTB, hg, htr, htd, htb, hfl, hfo, hz9, hQ⟩
  have hDk := zDy_168 hR hS
  have hc0 := tC_ok (tp := tp) (r := 4000) (by decide)
  have ht0 := hTB.1
  have hg1 := hg.1
  refine ⟨[64], fun nM tM lsM stM I1 L1 R1 S1 => match tM with
      | 64 => ∃ (i : Nat) (lf : Int), nM = ((4001 - i), 0, 0) ∧ lsM = [some (zvr (165)), some (zvi (0)), some (zvr (168)), some (zvi (lf)), some (zvi (i))] ∧ stM = [] ∧ L1 = L ∧ R1 = R ∧ S1 = S ∧ (i ≤ tp.length) ∧ (0 ≤ lf ∧ lf ≤ i) ∧ (I1 165 5 = tr + 1) ∧ (zRM 168 (tC (tF tp i)) (tF tp i).length I1) ∧ (∀ c j : Nat, ¬ (c = 165 ∧ j = 5) → ¬ (c = 168 ∧ j = 0) → ¬ (c = 168 ∧ j = 3) → ¬ c = 169 → I1 c j = I c j)
      | _ => False, rfl, ?_, ⟨?_, True.intro⟩⟩
  · refine And.intro (zRb rfl) (zbf rfl ?_)
    refine And.intro ⟨(zRb rfl), (zRb rfl)⟩ (zbt rfl ?_)
    refine And.intro (zA_165 hS) (zrd (v := tr) htr ?_)
    refine And.intro ⟨(by omega), (zRb rfl)⟩ ⟨(fun h21 => False.elim (by omega)), fun h21 => ?_⟩
    refine And.intro (zA_165 hS) (zrd (v := td) htd ?_)
    refine And.intro ⟨(by omega), (zRb rfl)⟩ ⟨fun h29 => ?_, (fun h29 => False.elim (by omega))⟩
    refine And.intro (zA_165 hS) (zrd (v := tr) htr ?_)
    refine And.intro (zA_165 hS) ⟨_, (zWi (by omega)), ?_⟩
    refine And.intro (zA_165 hS) (zrdR (v := some 167) (zR_165_3 hR) ?_)
    refine And.intro (zP_167 hS (by omega) (by omega)) (zrdR (v := some 168) (zR_167_0 hR) ?_)
    refine And.intro (zA_168 hS) ⟨_, sn_V_clr.up (by decide), ?_⟩
    refine ⟨168, rfl, hDk, ?_⟩
    intro I56o p56h3 p56bfr
    refine ⟨((4001 - (0 : Nat)), 0, 0), [some (zvr (165)), some (zvi (0)), some (zvr (168)), some (zvi ((0 : Int))), some (zvi ((0 : Nat)))], ⟨rfl, rfl, rfl, rfl, rfl, rfl⟩, 0, 0, rfl, rfl, rfl, rfl, rfl, rfl, (by omega), (by omega), ((p56bfr 165 5 (by omega) (by omega)).trans zxe), (zRM_0 p56h3), (fun c j h0 h1 h2 h3 => ((p56bfr c j h1 h2).trans (zxcj h0 rfl)))⟩
  · rintro nM lsM stM I1 L1 R1 S1 hz1 ⟨i, lf, rfl, rfl, rfl, rfl, rfl, rfl, hi, hlf, h5, hX, fr⟩
    have ht1 : I1 165 2 = tp.length := (fr 165 2 (by omega) (by omega) (by omega) (by omega)).trans ht0
    have hgi := fun (h : i < tp.length) => hg.2 i h
    have hai := fun (h : i < tp.length) => (fr 166 i (by omega) (by omega) (by omega) (by omega)).trans (hTB.2 i h)
    have htl := tF_l (tp := tp) (i := i)
    refine And.intro (zA_165 hS) (zrd (v := (tp.length)) ht1 ?_)
    refine And.intro ⟨(by omega), (by omega)⟩ ⟨fun h70 => ?_, fun h70 => ?_⟩
    · refine And.intro (zA_165 hS) ⟨_, (zWi (zRb rfl)), ?_⟩
      refine And.intro (zA_168 hS) ⟨_, sn_V_read.up (by decide), ?_⟩
      refine ⟨168, (tC (tTk tp 4000)), (tTk tp 4000).length, 0, rfl, hDk, (zRM_fr (zRM_w hX (by have e9 : i = tp.length := (by omega); subst e9; exact (tTk_a (by omega)).symm)) (fun c j h => zxcj (by omega) rfl)), hc0, (zxu (by decide) ((fr 168 1 (by omega) (by omega) (by omega) (by omega)).trans hfo)), (by omega), ?_⟩
      intro v107o I107o L107o p107hq p107bhno p107bbhnc p107bbbfr p107bbbbfrL
      have g107 : rdD 168 (tTk tp 4000) (bF 0) v107o I107o L107o := (rdD_i hc0 (by decide) (zVQ_b (fm := 0) p107hq))
      have g107b : (-1 ≤ rdF (tTk tp 4000) (bF 0) ∧ rdF (tTk tp 4000) (bF 0) ≤ 9000) ∧ v107o = ocn (rdO (tTk tp 4000) (bF 0)) := ⟨g107.1.1, by rcases g107.2 with y | y; exact absurd hz9 y.1; exact y.2.1⟩
      have g107bb : zOM 168 (rdO (tTk tp 4000) (bF 0)) I107o L107o ∧ zOU 168 (rdO (tTk tp 4000) (bF 0)) I107o ∧ I107o 168 27 = 1 ∧ 1 ≤ ocn (rdO (tTk tp 4000) (bF 0)) := (by rcases g107.2 with y | y; exact absurd hz9 y.1; exact y.2.2)
      have g107bbb : ocn (rdO (tTk tp 4000) (bF 0)) ≤ 200 := (rd_ok hc0 (fm := 0) (by decide) ⟨_, g107.1.2⟩ hz9).1.1.1
      refine And.intro (by omega) ⟨fun h114 => ?_, fun h114 => ?_⟩
      · refine And.intro (zA_165 hS) ⟨_, (zWi (zRb rfl)), ?_⟩
        refine And.intro (zA_165 hS) (zrd (v := td) ((p107bbbfr 165 6 (by omega) (by omega) (by omega) (by omega) (by omega) (by omega) (by omega) (by omega) (by omega) (by omega) (by omega) (by omega) (by omega) (by omega) (by omega) (by omega) (by omega) (by omega) (by omega) (by omega) (by omega) (by omega) (by omega)).trans ((fr 165 6 (by omega) (by omega) (by omega) (by omega)).trans htd)) ?_)
        refine And.intro (zA_165 hS) ⟨_, (zWi (by omega)), ?_⟩
        have hb143 : 302 ≤ S1.2.1 := hS.1
        have fI143 : ∀ c j : Nat, ¬ c = S1.2.1 → (zz (xu (xu I107o 165 4 0) 165 6 (td + 1)) S1.2.1 0) c j = (xu (xu I107o 165 4 0) 165 6 (td + 1)) c j := fun c j q => if_neg q
        have fL143 : ∀ c j : Nat, ¬ c = S1.2.1 → (zz L107o S1.2.1 0) c j = L107o c j := fun c j q => if_neg q
        have fR143 : ∀ c j : Nat, ¬ c = S1.2.1 → (zz R1 S1.2.1 none) c j = R1 c j := fun c j q => if_neg q
        have hRn143 : zRs (zz R1 S1.2.1 none) := zRs_fr hR (fun c j q => fR143 c j (by have := Nat.blt_eq.mp q; omega))
        have hz143 : (znS S1 18 33).2.1 = S1.2.1 + 1 ∧ (znS S1 18 33).2.2 = S1.2.2 + 33 := ⟨rfl, rfl⟩
        have hn143 : zNq S1.2.1 18 33 (zz (xu (xu I107o 165 4 0) 165 6 (td + 1)) S1.2.1 0) (zz L107o S1.2.1 0) (zz R1 S1.2.1 none) (znS S1 18 33) := ⟨rfl, if_pos rfl, hb143, fun j => ⟨if_pos rfl, if_pos rfl, if_pos rfl⟩⟩
        have hg143 : zSg S1 (znS S1 18 33) := zSg_n
        have hS := zSh_gr hS hg143
        refine ⟨_, sn_N_18.up (by decide), ?_⟩
        refine ⟨_, rfl, hS, hRn143, hn143, ?_⟩
        intro I147o L147o R147o S147o p147hSg p147bhDy p147bbhNJ p147bbbh29 p147bbbbhR2 p147bbbbbhsz p147bbbbbbfr p147bbbbbbbfrL p147bbbbbbbbfrR
        have hS := zSh_gr hS p147hSg
        refine And.intro (zA_165 hS) ?_
        have hR150 : zRs (xu R147o 165 7 (some S1.2.1)) := zRs_xu p147bbbbhR2 (by decide +kernel)
        refine And.intro (zA_165 hS) ⟨_, sn_M_drw.up (by decide), ?_⟩
        refine ⟨168, (rdO (tTk tp 4000) (bF 0)), S1.2.1, rfl, hS, hR150, (zDy_168 hR150 hS), (by omega), (zOM_fr g107bb.1 (fun c9 j9 h9 => (by repeat (first | exact rfl | refine zxcj (by omega) ?_ | refine (p147bbbbbbfr _ _ (by omega)).trans ?_ | refine (fI143 _ _ (by omega)).trans ?_ | refine (p107bbbfr _ _ (by omega) (by omega) (by omega) (by omega) (by omega) (by omega) (by omega) (by omega) (by omega) (by omega) (by omega) (by omega) (by omega) (by omega) (by omega) (by omega) (by omega) (by omega) (by omega) (by omega) (by omega) (by omega) (by omega)).trans ?_ | refine (fr _ _ (by omega) (by omega) (by omega) (by omega)).trans ?_))) (fun c9 j9 h9 => (by repeat (first | exact rfl | refine (p147bbbbbbbfrL _ _ (by omega)).trans ?_ | refine (fL143 _ _ (by omega)).trans ?_)))), (rd_ok hc0 (fm := 0) (by decide) ⟨_, g107.1.2⟩ hz9).1.1, rfl, (zDy_xu p147bhDy (by decide) (by show _ < _ ∨ _ + 23 ≤ _; omega)), (by omega), p147bbhNJ, p147bbbh29, g107bb.2.2.2, ?_⟩
        intro I155o L155o p155hNJ2 p155bhJO2 p155bbfr p155bbbfrL
        refine And.intro (zA_165 hS) (Exists.intro _ (And.intro (zinl_ok (zT21_12 8)) (And.intro rfl ?_)))
        refine And.intro (zA_165 hS) ⟨_, (zWi (zRb rfl)), ?_⟩
        refine hQ S1.2.1 _ _ _ _ _ (by omega) zxe ⟨_, g107.1.2⟩ ⟨(by repeat (first | exact zxe | refine zxcj (by omega) ?_ | refine (p155bbfr _ _ (by omega) (by omega) (by omega) (by omega) (by omega) (by omega)).trans ?_ | refine (p147bbbbbbfr _ _ (by omega)).trans ?_ | refine (fI143 _ _ (by omega)).trans ?_ | refine (p107bbbfr _ _ (by omega) (by omega) (by omega) (by omega) (by omega) (by omega) (by omega) (by omega) (by omega) (by omega) (by omega) (by omega) (by omega) (by omega) (by omega) (by omega) (by omega) (by omega) (by omega) (by omega) (by omega) (by omega) (by omega)).trans ?_ | refine (fr _ _ (by omega) (by omega) (by omega) (by omega)).trans ?_)), fun i9 h9 => absurd h9 (Nat.not_lt_zero i9)⟩ (by repeat (first | exact h5 | refine zxcj (by omega) ?_ | refine (p155bbfr _ _ (by omega) (by omega) (by omega) (by omega) (by omega) (by omega)).trans ?_ | refine (p147bbbbbbfr _ _ (by omega)).trans ?_ | refine (fI143 _ _ (by omega)).trans ?_ | refine (p107bbbfr _ _ (by omega) (by omega) (by omega) (by omega) (by omega) (by omega) (by omega) (by omega) (by omega) (by omega) (by omega) (by omega) (by omega) (by omega) (by omega) (by omega) (by omega) (by omega) (by omega) (by omega) (by omega) (by omega) (by omega)).trans ?_ | refine (fr _ _ (by omega) (by omega) (by omega) (by omega)).trans ?_)) (by repeat (first | exact zxe | refine zxcj (by omega) ?_ | refine (p155bbfr _ _ (by omega) (by omega) (by omega) (by omega) (by omega) (by omega)).trans ?_ | refine (p147bbbbbbfr _ _ (by omega)).trans ?_ | refine (fI143 _ _ (by omega)).trans ?_ | refine (p107bbbfr _ _ (by omega) (by omega) (by omega) (by omega) (by omega) (by omega) (by omega) (by omega) (by omega) (by omega) (by omega) (by omega) (by omega) (by omega) (by omega) (by omega) (by omega) (by omega) (by omega) (by omega) (by omega) (by omega) (by omega)).trans ?_ | refine (fr _ _ (by omega) (by omega) (by omega) (by omega)).trans ?_)) (by repeat (first | exact zxe | refine zxcj (by omega) ?_ | refine (p155bbfr _ _ (by omega) (by omega) (by omega) (by omega) (by omega) (by omega)).trans ?_ | refine (p147bbbbbbfr _ _ (by omega)).trans ?_ | refine (fI143 _ _ (by omega)).trans ?_ | refine (p107bbbfr _ _ (by omega) (by omega) (by omega) (by omega) (by omega) (by omega) (by omega) (by omega) (by omega) (by omega) (by omega) (by omega) (by omega) (by omega) (by omega) (by omega) (by omega) (by omega) (by omega) (by omega) (by omega) (by omega) (by omega)).trans ?_ | refine (fr _ _ (by omega) (by omega) (by omega) (by omega)).trans ?_)) (zSg_t hg143 p147hSg) (zDy_xu p147bhDy (by decide) (by show _ < _ ∨ _ + 23 ≤ _; omega)) hR150 (by omega) (by first | exact zxe | exact rfl) (by omega) (zOM_fr g107bb.1 (fun c9 j9 h9 => (by repeat (first | exact rfl | refine zxcj (by omega) ?_ | refine (p155bbfr _ _ (by omega) (by omega) (by omega) (by omega) (by omega) (by omega)).trans ?_ | refine (p147bbbbbbfr _ _ (by omega)).trans ?_ | refine (fI143 _ _ (by omega)).trans ?_ | refine (p107bbbfr _ _ (by omega) (by omega) (by omega) (by omega) (by omega) (by omega) (by omega) (by omega) (by omega) (by omega) (by omega) (by omega) (by omega) (by omega) (by omega) (by omega) (by omega) (by omega) (by omega) (by omega) (by omega) (by omega) (by omega)).trans ?_ | refine (fr _ _ (by omega) (by omega) (by omega) (by omega)).trans ?_))) (fun c9 j9 h9 => (by repeat (first | exact rfl | refine (p155bbbfrL _ _ (by omega)).trans ?_ | refine (p147bbbbbbbfrL _ _ (by omega)).trans ?_ | refine (fL143 _ _ (by omega)).trans ?_)))) (zOU_fr g107bb.2.1 (fun c9 j9 h9 => (by repeat (first | exact rfl | refine zxcj (by omega) ?_ | refine (p155bbfr _ _ (by omega) (by omega) (by omega) (by omega) (by omega) (by omega)).trans ?_ | refine (p147bbbbbbfr _ _ (by omega)).trans ?_ | refine (fI143 _ _ (by omega)).trans ?_ | refine (p107bbbfr _ _ (by omega) (by omega) (by omega) (by omega) (by omega) (by omega) (by omega) (by omega) (by omega) (by omega) (by omega) (by omega) (by omega) (by omega) (by omega) (by omega) (by omega) (by omega) (by omega) (by omega) (by omega) (by omega) (by omega)).trans ?_ | refine (fr _ _ (by omega) (by omega) (by omega) (by omega)).trans ?_)))) (by repeat (first | exact g107bb.2.2.1 | refine zxcj (by omega) ?_ | refine (p155bbfr _ _ (by omega) (by omega) (by omega) (by omega) (by omega) (by omega)).trans ?_ | refine (p147bbbbbbfr _ _ (by omega)).trans ?_ | refine (fI143 _ _ (by omega)).trans ?_ | refine (p107bbbfr _ _ (by omega) (by omega) (by omega) (by omega) (by omega) (by omega) (by omega) (by omega) (by omega) (by omega) (by omega) (by omega) (by omega) (by omega) (by omega) (by omega) (by omega) (by omega) (by omega) (by omega) (by omega) (by omega) (by omega)).trans ?_ | refine (fr _ _ (by omega) (by omega) (by omega) (by omega)).trans ?_)) (zNJ_fr p155hNJ2 (fun c9 j9 h9 => zxu (by omega) rfl) (fun c9 j9 h9 => rfl)) (zJO_fr p155bhJO2 (fun c9 j9 h9 => zxu (by omega) rfl)) (fun c j h0 h1 h2 h3 h4 h5 h6 h7 h8 h9 h10 h11 h12 h13 h14 h15 h16 h17 h18 h19 h20 h21 h22 h23 h24 h25 h26 h27 h28 h29 h30 h31 h32 h33 h34 => (zxcj h0 ((p155bbfr c j (by omega) h3 h30 h31 h32 h33).trans ((p147bbbbbbfr c j (by omega)).trans ((fI143 c j (by omega)).trans (zxcj h29 (zxcj h28 ((p107bbbfr c j h3 h5 h6 h7 h8 h9 h10 h11 h12 h13 h14 h15 h16 h17 h19 h20 h21 h22 h23 h24 h25 h26 h27).trans (zxcj h1 ((fr c j h2 h3 h4 h18).trans rfl)))))))))) (fun c j h0 h1 h2 => ((p155bbbfrL c j (by omega)).trans ((p147bbbbbbbfrL c j (by omega)).trans ((fL143 c j (by omega)).trans ((p107bbbbfrL c j h0 h1).trans rfl))))) (fun c j h0 h1 => (zxcj h0 ((p147bbbbbbbbfrR c j (by omega)).trans ((fR143 c j (by omega)).trans rfl))))
      · exact False.elim (by omega)
    · refine And.intro (zA_165 hS) (zrdR (v := some 166) (zR_165_1 hR) ?_)
      refine And.intro (zP_166 hS (by omega) (by omega)) (fun v81 e81 r81 => ?_)
      have f81 : v81 = wAt tp i := (e81.trans ((congrArg (I1 166) (by omega)).trans (hai (by omega))))
      have f81b : 0 ≤ v81 ∧ v81 ≤ 255 := (by have z := hgi (by omega); omega)
      refine And.intro (zA_168 hS) ⟨_, sn_V_unt.up (by decide), ?_⟩
      refine ⟨168, (tC (tF tp i)), (tF tp i).length, (v81 : Int), rfl, hDk, hX, (by omega), (by omega), ?_⟩
      intro v82o I82o p82hv p82bfr
      have g82 : v82o = 0 ∨ v82o = 1 := (by rcases p82hv with y | y; exact Or.inr y.2.2.1; exact Or.inl y.2.1)
      refine And.intro (by omega) ⟨fun h85 => ?_, fun h85 => ?_⟩
      · refine ⟨((4001 - (i + 1)), 0, 0), zlt6 (by omega), [some (zvr (165)), some (zvi (0)), some (zvr (168)), some (zvi ((lf + 1))), some (zvi ((i + 1)))], ⟨rfl, rfl, rfl, rfl, rfl, rfl⟩, (i + 1), (lf + 1), rfl, rfl, rfl, rfl, rfl, rfl, (by omega), (by omega), ((p82bfr 165 5 (by omega) (by omega) (by omega)).trans h5), ?_, (fun c j h0 h1 h2 h3 => ((p82bfr c j h1 h2 (fun w => h3 w.1)).trans ((fr c j h0 h1 h2 h3).trans rfl)))⟩
        · rcases p82hv with ⟨y1, y2, y3, y4⟩ | ⟨y1, y2, y3⟩
          · have yc : wAt tp i = 10 ∨ (32 ≤ wAt tp i ∧ wAt tp i ≤ 126) := by omega
            rw [tF_y yc]
            rw [f81] at y4
            exact zRM_s y4
          · have yc : ¬ (wAt tp i = 10 ∨ (32 ≤ wAt tp i ∧ wAt tp i ≤ 126)) := by omega
            rw [tF_n yc]
            exact y3
      · refine ⟨((4001 - (i + 1)), 0, 0), zlt6 (by omega), [some (zvr (165)), some (zvi (0)), some (zvr (168)), some (zvi ((lf + 0))), some (zvi ((i + 1)))], ⟨rfl, rfl, rfl, rfl, rfl, rfl⟩, (i + 1), (lf + 0), rfl, rfl, rfl, rfl, rfl, rfl, (by omega), (by omega), ((p82bfr 165 5 (by omega) (by omega) (by omega)).trans h5), ?_, (fun c j h0 h1 h2 h3 => ((p82bfr c j h1 h2 (fun w => h3 w.1)).trans ((fr c j h0 h1 h2 h3).trans rfl)))⟩
        · rcases p82hv with ⟨y1, y2, y3, y4⟩ | ⟨y1, y2, y3⟩
          · have yc : wAt tp i = 10 ∨ (32 ≤ wAt tp i ∧ wAt tp i ≤ 126) := by omega
            rw [tF_y yc]
            rw [f81] at y4
            exact zRM_s y4
          · have yc : ¬ (wAt tp i = 10 ∨ (32 ≤ wAt tp i ∧ wAt tp i ≤ 126)) := by omega
            rw [tF_n yc]
            exact y3)
def T_Y_shG1 : ZT := fun args I L R S Q => ∃ (tp : List Int) (tr : Int) (td : Int), args = [zvr 165, zvi 1] ∧ (zSh S) ∧ (zRs R) ∧ (zTB tp I) ∧ (tGb tp) ∧ (I 165 5 = tr) ∧ (I 165 6 = td) ∧ (0 ≤ tr ∧ tr ≤ 24 ∧ 0 ≤ td ∧ td ≤ 4) ∧ (tr ≤ 23 ∧ td ≤ 3) ∧ (I 181 1 = 1) ∧ (rdF (tTk tp 4000) (bF 1) = -1) ∧ ∀ (q : Nat) (v : Int) (I' : ZI) (L' : ZI) (R' : ZR) (S' : ZS), (v = ocn (rdO (tTk tp 4000) (bF 1))) → (I' 165 0 = 0) → (∃ t, tRe (tC (tTk tp 4000)) (tTk tp 4000).length (bF 1) t ∧ tyE (tTk tp 4000).length (bF 1) t) → (zTB [] I') → (I' 165 5 = tr + 1) → (I' 165 6 = td + 1) → (I' 165 4 = 1) → (zSg S S') → (zDy zT18 zF18 q R' S') → (zRs R') → (302 ≤ q ∧ q = S.2.1) → (R' 165 7 = some q) → (S'.2.1 = S.2.1 + 23 ∧ S'.2.2 = S.2.2 + 44429) → (zOM 181 (rdO (tTk tp 4000) (bF 1)) I' L') → (zOU 181 (rdO (tTk tp 4000) (bF 1)) I') → (I' 181 27 = 1) → (zNJ q (oD (rdO (tTk tp 4000) (bF 1))) I' L') → (zJO q (oD (rdO (tTk tp 4000) (bF 1))) I') → (∀ c j : Nat, ¬ (c = 165 ∧ j = 0) → ¬ (c = 165 ∧ j = 2) → ¬ (c = 165 ∧ j = 5) → ¬ (c = 181 ∧ j = 0) → ¬ (c = 181 ∧ j = 3) → ¬ (c = 181 ∧ j = 4) → ¬ (c = 181 ∧ j = 13) → ¬ (c = 181 ∧ j = 14) → ¬ (c = 181 ∧ j = 27) → ¬ (c = 181 ∧ j = 15) → ¬ (c = 181 ∧ j = 16) → ¬ (c = 181 ∧ j = 17) → ¬ (c = 181 ∧ j = 18) → ¬ (c = 181 ∧ j = 20) → ¬ (c = 181 ∧ j = 21) → ¬ (c = 181 ∧ j = 22) → ¬ (c = 181 ∧ j = 29) → ¬ (c = 181 ∧ j = 30) → ¬ c = 182 → ¬ c = 183 → ¬ c = 184 → ¬ c = 186 → ¬ c = 187 → ¬ c = 188 → ¬ c = 189 → ¬ c = 190 → ¬ c = 191 → ¬ c = 192 → ¬ (c = 165 ∧ j = 4) → ¬ (c = 165 ∧ j = 6) → ¬ (c = 165 ∧ j = 11) → ¬ c = 194 → ¬ c = 195 → ¬ c = 196 → ¬ (q ≤ c ∧ c ≤ q + 22) → I' c j = I c j) → (∀ c j : Nat, ¬ (c = 181 ∧ j = 28) → ¬ c = 185 → ¬ (q ≤ c ∧ c ≤ q + 22) → L' c j = L c j) → (∀ c j : Nat, ¬ (c = 165 ∧ j = 7) → ¬ (q ≤ c ∧ c ≤ q + 22) → R' c j = R c j) → Q (some (zvi (v))) I' L' R' S'
theorem sn_Y_shG1 : ZSnd 10 21 70 T_Y_shG1 := ZSnd.loops (zT21_70 9) (by
  rintro args I L R S Q hz ⟨tp, tr, td, rfl, hS, hR, hTB, hg, htr, htd, htb, hfl, hfo, hz9, hQ⟩
  have hDk := zDy_181 hR hS
  have hc0 := tC_ok (tp := tp) (r := 4000) (by decide)
  have ht0 := hTB.1
  have hg1 := hg.1
  refine ⟨[64], fun nM tM lsM stM I1 L1 R1 S1 => match tM with
      | 64 => ∃ (i : Nat) (lf : Int), nM = ((4001 - i), 0, 0) ∧ lsM = [some (zvr (165)), some (zvi (1)), some (zvr (181)), some (zvi (lf)), some (zvi (i))] ∧ stM = [] ∧ L1 = L ∧ R1 = R ∧ S1 = S ∧ (i ≤ tp.length) ∧ (0 ≤ lf ∧ lf ≤ i) ∧ (I1 165 5 = tr + 1) ∧ (zRM 181 (tC (tF tp i)) (tF tp i).length I1) ∧ (∀ c j : Nat, ¬ (c = 165 ∧ j = 5) → ¬ (c = 181 ∧ j = 0) → ¬ (c = 181 ∧ j = 3) → ¬ c = 182 → I1 c j = I c j)
      | _ => False, rfl, ?_, ⟨?_, True.intro⟩⟩
  · refine And.intro (zRb rfl) (zbf rfl ?_)
    refine And.intro ⟨(zRb rfl), (zRb rfl)⟩ (zbt rfl ?_)
    refine And.intro (zA_165 hS) (zrd (v := tr) htr ?_)
    refine And.intro ⟨(by omega), (zRb rfl)⟩ ⟨(fun h21 => False.elim (by omega)), fun h21 => ?_⟩
    refine And.intro (zA_165 hS) (zrd (v := td) htd ?_)
    refine And.intro ⟨(by omega), (zRb rfl)⟩ ⟨fun h29 => ?_, (fun h29 => False.elim (by omega))⟩
    refine And.intro (zA_165 hS) (zrd (v := tr) htr ?_)
    refine And.intro (zA_165 hS) ⟨_, (zWi (by omega)), ?_⟩
    refine And.intro (zA_165 hS) (zrdR (v := some 167) (zR_165_3 hR) ?_)
    refine And.intro (zP_167 hS (by omega) (by omega)) (zrdR (v := some 181) (zR_167_1 hR) ?_)
    refine And.intro (zA_181 hS) ⟨_, sn_V_clr.up (by decide), ?_⟩
    refine ⟨181, rfl, hDk, ?_⟩
    intro I56o p56h3 p56bfr
    refine ⟨((4001 - (0 : Nat)), 0, 0), [some (zvr (165)), some (zvi (1)), some (zvr (181)), some (zvi ((0 : Int))), some (zvi ((0 : Nat)))], ⟨rfl, rfl, rfl, rfl, rfl, rfl⟩, 0, 0, rfl, rfl, rfl, rfl, rfl, rfl, (by omega), (by omega), ((p56bfr 165 5 (by omega) (by omega)).trans zxe), (zRM_0 p56h3), (fun c j h0 h1 h2 h3 => ((p56bfr c j h1 h2).trans (zxcj h0 rfl)))⟩
  · rintro nM lsM stM I1 L1 R1 S1 hz1 ⟨i, lf, rfl, rfl, rfl, rfl, rfl, rfl, hi, hlf, h5, hX, fr⟩
    have ht1 : I1 165 2 = tp.length := (fr 165 2 (by omega) (by omega) (by omega) (by omega)).trans ht0
    have hgi := fun (h : i < tp.length) => hg.2 i h
    have hai := fun (h : i < tp.length) => (fr 166 i (by omega) (by omega) (by omega) (by omega)).trans (hTB.2 i h)
    have htl := tF_l (tp := tp) (i := i)
    refine And.intro (zA_165 hS) (zrd (v := (tp.length)) ht1 ?_)
    refine And.intro ⟨(by omega), (by omega)⟩ ⟨fun h70 => ?_, fun h70 => ?_⟩
    · refine And.intro (zA_165 hS) ⟨_, (zWi (zRb rfl)), ?_⟩
      refine And.intro (zA_181 hS) ⟨_, sn_V_read.up (by decide), ?_⟩
      refine ⟨181, (tC (tTk tp 4000)), (tTk tp 4000).length, 1, rfl, hDk, (zRM_fr (zRM_w hX (by have e9 : i = tp.length := (by omega); subst e9; exact (tTk_a (by omega)).symm)) (fun c j h => zxcj (by omega) rfl)), hc0, (zxu (by decide) ((fr 181 1 (by omega) (by omega) (by omega) (by omega)).trans hfo)), (by omega), ?_⟩
      intro v107o I107o L107o p107hq p107bhno p107bbhnc p107bbbfr p107bbbbfrL
      have g107 : rdD 181 (tTk tp 4000) (bF 1) v107o I107o L107o := (rdD_i hc0 (by decide) (zVQ_b (fm := 1) p107hq))
      have g107b : (-1 ≤ rdF (tTk tp 4000) (bF 1) ∧ rdF (tTk tp 4000) (bF 1) ≤ 9000) ∧ v107o = ocn (rdO (tTk tp 4000) (bF 1)) := ⟨g107.1.1, by rcases g107.2 with y | y; exact absurd hz9 y.1; exact y.2.1⟩
      have g107bb : zOM 181 (rdO (tTk tp 4000) (bF 1)) I107o L107o ∧ zOU 181 (rdO (tTk tp 4000) (bF 1)) I107o ∧ I107o 181 27 = 1 ∧ 1 ≤ ocn (rdO (tTk tp 4000) (bF 1)) := (by rcases g107.2 with y | y; exact absurd hz9 y.1; exact y.2.2)
      have g107bbb : ocn (rdO (tTk tp 4000) (bF 1)) ≤ 200 := (rd_ok hc0 (fm := 1) (by decide) ⟨_, g107.1.2⟩ hz9).1.1.1
      refine And.intro (by omega) ⟨fun h114 => ?_, fun h114 => ?_⟩
      · refine And.intro (zA_165 hS) ⟨_, (zWi (zRb rfl)), ?_⟩
        refine And.intro (zA_165 hS) (zrd (v := td) ((p107bbbfr 165 6 (by omega) (by omega) (by omega) (by omega) (by omega) (by omega) (by omega) (by omega) (by omega) (by omega) (by omega) (by omega) (by omega) (by omega) (by omega) (by omega) (by omega) (by omega) (by omega) (by omega) (by omega) (by omega) (by omega)).trans ((fr 165 6 (by omega) (by omega) (by omega) (by omega)).trans htd)) ?_)
        refine And.intro (zA_165 hS) ⟨_, (zWi (by omega)), ?_⟩
        have hb143 : 302 ≤ S1.2.1 := hS.1
        have fI143 : ∀ c j : Nat, ¬ c = S1.2.1 → (zz (xu (xu I107o 165 4 1) 165 6 (td + 1)) S1.2.1 0) c j = (xu (xu I107o 165 4 1) 165 6 (td + 1)) c j := fun c j q => if_neg q
        have fL143 : ∀ c j : Nat, ¬ c = S1.2.1 → (zz L107o S1.2.1 0) c j = L107o c j := fun c j q => if_neg q
        have fR143 : ∀ c j : Nat, ¬ c = S1.2.1 → (zz R1 S1.2.1 none) c j = R1 c j := fun c j q => if_neg q
        have hRn143 : zRs (zz R1 S1.2.1 none) := zRs_fr hR (fun c j q => fR143 c j (by have := Nat.blt_eq.mp q; omega))
        have hz143 : (znS S1 18 33).2.1 = S1.2.1 + 1 ∧ (znS S1 18 33).2.2 = S1.2.2 + 33 := ⟨rfl, rfl⟩
        have hn143 : zNq S1.2.1 18 33 (zz (xu (xu I107o 165 4 1) 165 6 (td + 1)) S1.2.1 0) (zz L107o S1.2.1 0) (zz R1 S1.2.1 none) (znS S1 18 33) := ⟨rfl, if_pos rfl, hb143, fun j => ⟨if_pos rfl, if_pos rfl, if_pos rfl⟩⟩
        have hg143 : zSg S1 (znS S1 18 33) := zSg_n
        have hS := zSh_gr hS hg143
        refine ⟨_, sn_N_18.up (by decide), ?_⟩
        refine ⟨_, rfl, hS, hRn143, hn143, ?_⟩
        intro I147o L147o R147o S147o p147hSg p147bhDy p147bbhNJ p147bbbh29 p147bbbbhR2 p147bbbbbhsz p147bbbbbbfr p147bbbbbbbfrL p147bbbbbbbbfrR
        have hS := zSh_gr hS p147hSg
        refine And.intro (zA_165 hS) ?_
        have hR150 : zRs (xu R147o 165 7 (some S1.2.1)) := zRs_xu p147bbbbhR2 (by decide +kernel)
        refine And.intro (zA_165 hS) ⟨_, sn_M_drw.up (by decide), ?_⟩
        refine ⟨181, (rdO (tTk tp 4000) (bF 1)), S1.2.1, rfl, hS, hR150, (zDy_181 hR150 hS), (by omega), (zOM_fr g107bb.1 (fun c9 j9 h9 => (by repeat (first | exact rfl | refine zxcj (by omega) ?_ | refine (p147bbbbbbfr _ _ (by omega)).trans ?_ | refine (fI143 _ _ (by omega)).trans ?_ | refine (p107bbbfr _ _ (by omega) (by omega) (by omega) (by omega) (by omega) (by omega) (by omega) (by omega) (by omega) (by omega) (by omega) (by omega) (by omega) (by omega) (by omega) (by omega) (by omega) (by omega) (by omega) (by omega) (by omega) (by omega) (by omega)).trans ?_ | refine (fr _ _ (by omega) (by omega) (by omega) (by omega)).trans ?_))) (fun c9 j9 h9 => (by repeat (first | exact rfl | refine (p147bbbbbbbfrL _ _ (by omega)).trans ?_ | refine (fL143 _ _ (by omega)).trans ?_)))), (rd_ok hc0 (fm := 1) (by decide) ⟨_, g107.1.2⟩ hz9).1.1, rfl, (zDy_xu p147bhDy (by decide) (by show _ < _ ∨ _ + 23 ≤ _; omega)), (by omega), p147bbhNJ, p147bbbh29, g107bb.2.2.2, ?_⟩
        intro I155o L155o p155hNJ2 p155bhJO2 p155bbfr p155bbbfrL
        refine And.intro (zA_165 hS) (Exists.intro _ (And.intro (zinl_ok (zT21_12 8)) (And.intro rfl ?_)))
        refine And.intro (zA_165 hS) ⟨_, (zWi (zRb rfl)), ?_⟩
        refine hQ S1.2.1 _ _ _ _ _ (by omega) zxe ⟨_, g107.1.2⟩ ⟨(by repeat (first | exact zxe | refine zxcj (by omega) ?_ | refine (p155bbfr _ _ (by omega) (by omega) (by omega) (by omega) (by omega) (by omega)).trans ?_ | refine (p147bbbbbbfr _ _ (by omega)).trans ?_ | refine (fI143 _ _ (by omega)).trans ?_ | refine (p107bbbfr _ _ (by omega) (by omega) (by omega) (by omega) (by omega) (by omega) (by omega) (by omega) (by omega) (by omega) (by omega) (by omega) (by omega) (by omega) (by omega) (by omega) (by omega) (by omega) (by omega) (by omega) (by omega) (by omega) (by omega)).trans ?_ | refine (fr _ _ (by omega) (by omega) (by omega) (by omega)).trans ?_)), fun i9 h9 => absurd h9 (Nat.not_lt_zero i9)⟩ (by repeat (first | exact h5 | refine zxcj (by omega) ?_ | refine (p155bbfr _ _ (by omega) (by omega) (by omega) (by omega) (by omega) (by omega)).trans ?_ | refine (p147bbbbbbfr _ _ (by omega)).trans ?_ | refine (fI143 _ _ (by omega)).trans ?_ | refine (p107bbbfr _ _ (by omega) (by omega) (by omega) (by omega) (by omega) (by omega) (by omega) (by omega) (by omega) (by omega) (by omega) (by omega) (by omega) (by omega) (by omega) (by omega) (by omega) (by omega) (by omega) (by omega) (by omega) (by omega) (by omega)).trans ?_ | refine (fr _ _ (by omega) (by omega) (by omega) (by omega)).trans ?_)) (by repeat (first | exact zxe | refine zxcj (by omega) ?_ | refine (p155bbfr _ _ (by omega) (by omega) (by omega) (by omega) (by omega) (by omega)).trans ?_ | refine (p147bbbbbbfr _ _ (by omega)).trans ?_ | refine (fI143 _ _ (by omega)).trans ?_ | refine (p107bbbfr _ _ (by omega) (by omega) (by omega) (by omega) (by omega) (by omega) (by omega) (by omega) (by omega) (by omega) (by omega) (by omega) (by omega) (by omega) (by omega) (by omega) (by omega) (by omega) (by omega) (by omega) (by omega) (by omega) (by omega)).trans ?_ | refine (fr _ _ (by omega) (by omega) (by omega) (by omega)).trans ?_)) (by repeat (first | exact zxe | refine zxcj (by omega) ?_ | refine (p155bbfr _ _ (by omega) (by omega) (by omega) (by omega) (by omega) (by omega)).trans ?_ | refine (p147bbbbbbfr _ _ (by omega)).trans ?_ | refine (fI143 _ _ (by omega)).trans ?_ | refine (p107bbbfr _ _ (by omega) (by omega) (by omega) (by omega) (by omega) (by omega) (by omega) (by omega) (by omega) (by omega) (by omega) (by omega) (by omega) (by omega) (by omega) (by omega) (by omega) (by omega) (by omega) (by omega) (by omega) (by omega) (by omega)).trans ?_ | refine (fr _ _ (by omega) (by omega) (by omega) (by omega)).trans ?_)) (zSg_t hg143 p147hSg) (zDy_xu p147bhDy (by decide) (by show _ < _ ∨ _ + 23 ≤ _; omega)) hR150 (by omega) (by first | exact zxe | exact rfl) (by omega) (zOM_fr g107bb.1 (fun c9 j9 h9 => (by repeat (first | exact rfl | refine zxcj (by omega) ?_ | refine (p155bbfr _ _ (by omega) (by omega) (by omega) (by omega) (by omega) (by omega)).trans ?_ | refine (p147bbbbbbfr _ _ (by omega)).trans ?_ | refine (fI143 _ _ (by omega)).trans ?_ | refine (p107bbbfr _ _ (by omega) (by omega) (by omega) (by omega) (by omega) (by omega) (by omega) (by omega) (by omega) (by omega) (by omega) (by omega) (by omega) (by omega) (by omega) (by omega) (by omega) (by omega) (by omega) (by omega) (by omega) (by omega) (by omega)).trans ?_ | refine (fr _ _ (by omega) (by omega) (by omega) (by omega)).trans ?_))) (fun c9 j9 h9 => (by repeat (first | exact rfl | refine (p155bbbfrL _ _ (by omega)).trans ?_ | refine (p147bbbbbbbfrL _ _ (by omega)).trans ?_ | refine (fL143 _ _ (by omega)).trans ?_)))) (zOU_fr g107bb.2.1 (fun c9 j9 h9 => (by repeat (first | exact rfl | refine zxcj (by omega) ?_ | refine (p155bbfr _ _ (by omega) (by omega) (by omega) (by omega) (by omega) (by omega)).trans ?_ | refine (p147bbbbbbfr _ _ (by omega)).trans ?_ | refine (fI143 _ _ (by omega)).trans ?_ | refine (p107bbbfr _ _ (by omega) (by omega) (by omega) (by omega) (by omega) (by omega) (by omega) (by omega) (by omega) (by omega) (by omega) (by omega) (by omega) (by omega) (by omega) (by omega) (by omega) (by omega) (by omega) (by omega) (by omega) (by omega) (by omega)).trans ?_ | refine (fr _ _ (by omega) (by omega) (by omega) (by omega)).trans ?_)))) (by repeat (first | exact g107bb.2.2.1 | refine zxcj (by omega) ?_ | refine (p155bbfr _ _ (by omega) (by omega) (by omega) (by omega) (by omega) (by omega)).trans ?_ | refine (p147bbbbbbfr _ _ (by omega)).trans ?_ | refine (fI143 _ _ (by omega)).trans ?_ | refine (p107bbbfr _ _ (by omega) (by omega) (by omega) (by omega) (by omega) (by omega) (by omega) (by omega) (by omega) (by omega) (by omega) (by omega) (by omega) (by omega) (by omega) (by omega) (by omega) (by omega) (by omega) (by omega) (by omega) (by omega) (by omega)).trans ?_ | refine (fr _ _ (by omega) (by omega) (by omega) (by omega)).trans ?_)) (zNJ_fr p155hNJ2 (fun c9 j9 h9 => zxu (by omega) rfl) (fun c9 j9 h9 => rfl)) (zJO_fr p155bhJO2 (fun c9 j9 h9 => zxu (by omega) rfl)) (fun c j h0 h1 h2 h3 h4 h5 h6 h7 h8 h9 h10 h11 h12 h13 h14 h15 h16 h17 h18 h19 h20 h21 h22 h23 h24 h25 h26 h27 h28 h29 h30 h31 h32 h33 h34 => (zxcj h0 ((p155bbfr c j (by omega) h3 h30 h31 h32 h33).trans ((p147bbbbbbfr c j (by omega)).trans ((fI143 c j (by omega)).trans (zxcj h29 (zxcj h28 ((p107bbbfr c j h3 h5 h6 h7 h8 h9 h10 h11 h12 h13 h14 h15 h16 h17 h19 h20 h21 h22 h23 h24 h25 h26 h27).trans (zxcj h1 ((fr c j h2 h3 h4 h18).trans rfl)))))))))) (fun c j h0 h1 h2 => ((p155bbbfrL c j (by omega)).trans ((p147bbbbbbbfrL c j (by omega)).trans ((fL143 c j (by omega)).trans ((p107bbbbfrL c j h0 h1).trans rfl))))) (fun c j h0 h1 => (zxcj h0 ((p147bbbbbbbbfrR c j (by omega)).trans ((fR143 c j (by omega)).trans rfl))))
      · exact False.elim (by omega)
    · refine And.intro (zA_165 hS) (zrdR (v := some 166) (zR_165_1 hR) ?_)
      refine And.intro (zP_166 hS (by omega) (by omega)) (fun v81 e81 r81 => ?_)
      have f81 : v81 = wAt tp i := (e81.trans ((congrArg (I1 166) (by omega)).trans (hai (by omega))))
      have f81b : 0 ≤ v81 ∧ v81 ≤ 255 := (by have z := hgi (by omega); omega)
      refine And.intro (zA_181 hS) ⟨_, sn_V_unt.up (by decide), ?_⟩
      refine ⟨181, (tC (tF tp i)), (tF tp i).length, (v81 : Int), rfl, hDk, hX, (by omega), (by omega), ?_⟩
      intro v82o I82o p82hv p82bfr
      have g82 : v82o = 0 ∨ v82o = 1 := (by rcases p82hv with y | y; exact Or.inr y.2.2.1; exact Or.inl y.2.1)
      refine And.intro (by omega) ⟨fun h85 => ?_, fun h85 => ?_⟩
      · refine ⟨((4001 - (i + 1)), 0, 0), zlt6 (by omega), [some (zvr (165)), some (zvi (1)), some (zvr (181)), some (zvi ((lf + 1))), some (zvi ((i + 1)))], ⟨rfl, rfl, rfl, rfl, rfl, rfl⟩, (i + 1), (lf + 1), rfl, rfl, rfl, rfl, rfl, rfl, (by omega), (by omega), ((p82bfr 165 5 (by omega) (by omega) (by omega)).trans h5), ?_, (fun c j h0 h1 h2 h3 => ((p82bfr c j h1 h2 (fun w => h3 w.1)).trans ((fr c j h0 h1 h2 h3).trans rfl)))⟩
        · rcases p82hv with ⟨y1, y2, y3, y4⟩ | ⟨y1, y2, y3⟩
          · have yc : wAt tp i = 10 ∨ (32 ≤ wAt tp i ∧ wAt tp i ≤ 126) := by omega
            rw [tF_y yc]
            rw [f81] at y4
            exact zRM_s y4
          · have yc : ¬ (wAt tp i = 10 ∨ (32 ≤ wAt tp i ∧ wAt tp i ≤ 126)) := by omega
            rw [tF_n yc]
            exact y3
      · refine ⟨((4001 - (i + 1)), 0, 0), zlt6 (by omega), [some (zvr (165)), some (zvi (1)), some (zvr (181)), some (zvi ((lf + 0))), some (zvi ((i + 1)))], ⟨rfl, rfl, rfl, rfl, rfl, rfl⟩, (i + 1), (lf + 0), rfl, rfl, rfl, rfl, rfl, rfl, (by omega), (by omega), ((p82bfr 165 5 (by omega) (by omega) (by omega)).trans h5), ?_, (fun c j h0 h1 h2 h3 => ((p82bfr c j h1 h2 (fun w => h3 w.1)).trans ((fr c j h0 h1 h2 h3).trans rfl)))⟩
        · rcases p82hv with ⟨y1, y2, y3, y4⟩ | ⟨y1, y2, y3⟩
          · have yc : wAt tp i = 10 ∨ (32 ≤ wAt tp i ∧ wAt tp i ≤ 126) := by omega
            rw [tF_y yc]
            rw [f81] at y4
            exact zRM_s y4
          · have yc : ¬ (wAt tp i = 10 ∨ (32 ≤ wAt tp i ∧ wAt tp i ≤ 126)) := by omega
            rw [tF_n yc]
            exact y3)
