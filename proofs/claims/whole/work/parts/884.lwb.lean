/-! lwb -/
def T_Y_reh : ZT := fun args I L R S Q => ∃ (q : Nat) (w : List CuR) (l : Int), args = [zvr 165, zvi l] ∧ (zSh S) ∧ (zRs R) ∧ (R 165 31 = some q) ∧ (zDy zT15 zF15 q R S) ∧ (zMh w I) ∧ (∀ p : Nat, p < cuHc w → I 211 p = cuOr w p) ∧ (cuHc w ≤ 20) ∧ (cuG w) ∧ (∀ j : Nat, j < 20 → I (212 + 3) j = 0 ∨ I (212 + 3) j = 1) ∧ (r32 l) ∧ (0 ≤ I 165 44) ∧ ∀ (v : Int) (I' : ZI) (L' : ZI), (v = if 0 ≤ l ∧ l ≤ 6 then 1 else -1) → (0 ≤ I' 165 44) → (∀ j : Nat, j < 20 → I' (212 + 3) j = 0 ∨ I' (212 + 3) j = 1) → (∀ c j : Nat, ¬ (c = 165 ∧ j = 44) → ¬ (c = 165 ∧ j = 45) → ¬ (c = 165 ∧ j = 46) → ¬ (212 ≤ c ∧ c ≤ 212 + 21) → I' c j = I c j) → (∀ c j : Nat, ¬ (212 ≤ c ∧ c ≤ 212 + 21) → L' c j = L c j) → Q (some (zvi (v))) I' L' R S
theorem sn_Y_reh : ZSnd 9 21 53 T_Y_reh := ZSnd.loops (zT21_53 8) (by
  rintro args I L R S Q hz ⟨q, w, l, rfl, hS, hR, hrc, hdq, hMh, hord, hc20, hG, hpl, hr, h44p, hQ⟩
  have hM20 := zct_le (dIs w l) (cuHc w)
  have hDD := zDy_212 hR hS
  have ht8 := dTx_8 (l := l) hc20
  refine ⟨[30, 86], fun nM tM lsM stM I1 L1 R1 S1 => match tM with
      | 30 => ∃ (i : Nat), nM = (9, (801 - i), 0) ∧ lsM = [some (zvr (165)), some (zvi (l)), some (zvi (1)), some (zvi (i)), none, none, none] ∧ stM = [] ∧ L1 = L ∧ R1 = R ∧ S1 = S ∧ (0 ≤ I1 165 44) ∧ (i ≤ (dTx w l).length) ∧ (0 ≤ l ∧ l ≤ 6) ∧ (zTd 212 ((dTx w l).take i) I1) ∧ (∀ j : Nat, j < 20 → I1 (212 + 3) j = 0 ∨ I1 (212 + 3) j = 1) ∧ (∀ c j : Nat, ¬ (c = 165 ∧ j = 44) → ¬ (c = 165 ∧ j = 45) → ¬ (c = 165 ∧ j = 46) → ¬ (212 ≤ c ∧ c ≤ 212 + 21) → I1 c j = I c j)
      | 86 => ∃ (n : Nat), nM = (8, (21 - n), 0) ∧ lsM = [some (zvr (165)), some (zvi (l)), some (zvi (1)), some (zvi ((zct (dIs w l) (cuHc w)))), some (zvi ((zct (dIs w l) n))), some (zvi (n)), none] ∧ stM = [] ∧ R1 = R ∧ S1 = S ∧ (0 ≤ I1 165 44) ∧ (n ≤ cuHc w) ∧ (0 ≤ l ∧ l ≤ 6) ∧ (I1 216 0 = (zct (dIs w l) (cuHc w) : Nat)) ∧ (∀ j : Nat, j < cuHc w → dIs w l j → zRh 212 l (zct (dIs w l) j) (dHx w j) (dHy w j) I1 L1) ∧ (∀ j : Nat, j < 20 → I1 (212 + 3) j = 0 ∨ I1 (212 + 3) j = 1) ∧ (∀ c j : Nat, ¬ (c = 165 ∧ j = 44) → ¬ (c = 165 ∧ j = 45) → ¬ (c = 165 ∧ j = 46) → ¬ (212 ≤ c ∧ c ≤ 212 + 21) → I1 c j = I c j) ∧ (∀ c j : Nat, ¬ (212 ≤ c ∧ c ≤ 212 + 21) → L1 c j = L c j)
      | _ => False, rfl, ?_, ⟨?_, ?_, True.intro⟩⟩
  · refine And.intro (zA_165 hS) (zrdR (v := some q) hrc ?_)
    refine And.intro (by omega) ⟨fun h8 => ?_, fun h8 => ?_⟩
    · refine hQ _ _ _ (by first | exact (if_pos hl6).symm | exact (if_neg (by omega)).symm) (by first | exact h44c | exact h44p) (by first | exact hpl | exact (fun j h1 => rfl.trans (hpl j h1)) | (clear hQ; grind [xu])) (fun c j h0 h1 h2 h3 => rfl) (fun c j h0 => rfl)
    · refine And.intro ⟨(by omega), (zRb rfl)⟩ ⟨fun h14 => ?_, fun h14 => ?_⟩
      · refine And.intro (zA_165 hS) (zrdR (v := some 212) (zR_165_40 hR) ?_)
        refine And.intro (zA_212 hS) ⟨_, sn_X_clr.up (by decide), ?_⟩
        refine ⟨212, rfl, hS, hR, hDD, ?_⟩
        intro I23o p23hTd2 p23bfr
        refine ⟨(9, (801 - (0 : Nat)), 0), [some (zvr (165)), some (zvi (l)), some (zvi (1)), some (zvi ((0 : Nat))), none, none, none], ⟨rfl, rfl, rfl, rfl, rfl⟩, 0, rfl, rfl, rfl, rfl, rfl, rfl, (by have z : I23o 165 44 = I 165 44 := (by apply p23bfr <;> omega); rw [z]; exact h44p), (by clear hQ; grind [xu]), (by omega), (by show zTd 212 [] _; exact p23hTd2), (fun j hj => by rw [p23bfr 215 j (by omega) (by omega) (by omega) (by omega) (by omega) (by omega)]; exact hpl j hj), (fun c j h0 h1 h2 h3 => ((p23bfr c j (by omega) (by omega) (by omega) (by omega) (by omega) (by omega)).trans rfl))⟩
      · refine hQ _ _ _ (by first | exact (if_pos hl6).symm | exact (if_neg (by omega)).symm) (by first | exact h44c | exact h44p) (by first | exact hpl | exact (fun j h1 => rfl.trans (hpl j h1)) | (clear hQ; grind [xu])) (fun c j h0 h1 h2 h3 => rfl) (fun c j h0 => rfl)
  · rintro nM lsM stM I1 L1 R1 S1 hz1 ⟨i, rfl, rfl, rfl, rfl, rfl, rfl, h44c, hi, hl6, hTd, hpl1, fr⟩
    have hMh1 : zMh w I1 := zMh_fr hMh (fun c j h => fr c j (by omega) (by omega) (by omega) (by omega))
    have hord1 : ∀ p : Nat, p < cuHc w → I1 211 p = cuOr w p := fun p hp => (fr 211 p (by omega) (by omega) (by omega) (by omega)).trans (hord p hp)
    have hwc := fun h => dTx_c (w := w) (l := l) (wAt_in (i := i) h)
    refine And.intro (zA_165 hS) ⟨_, sn_Y_drh.up (by decide), ?_⟩
    refine ⟨q, w, l, i, rfl, hS, hR, hrc, hdq, hMh1, hord1, (by omega), (by first | exact hG | (clear hQ; grind [xu])), (by omega), h44c, ?_⟩
    intro v33o I33o p33hv p33bh44e p33bbfr
    have g33 : (v33o = -1 ∧ i = (dTx w l).length) ∨ (v33o = wAt (dTx w l) i ∧ i < (dTx w l).length) := (by have z := p33hv; by_cases y : i < (dTx w l).length; (rw [if_pos ⟨by omega, by omega, by omega⟩] at z; exact Or.inr ⟨z.trans (by rw [Int.toNat_natCast]), y⟩); (rw [if_neg (fun h => by omega)] at z; exact Or.inl ⟨z, by omega⟩))
    have g33b : -1 ≤ v33o ∧ v33o ≤ 126 := (by rcases g33 with z | z; omega; have z2 := hwc z.2; unfold wCh at z2; omega)
    refine And.intro ⟨(by omega), (zRb rfl)⟩ ⟨fun h37 => ?_, fun h37 => ?_⟩
    · have t37 : i = (dTx w l).length := (by rcases g33 with z | z; exact z.2; exfalso; have z2 := hwc z.2; unfold wCh at z2; omega)
      refine And.intro (zA_165 hS) (zrdR (v := some 212) (zR_165_40 hR) ?_)
      refine And.intro (zA_212 hS) ⟨_, sn_X_red.up (by decide), ?_⟩
      refine ⟨212, w, l, rfl, hS, hR, hDD, (by have z := hTd; rw [t37, List.take_length] at z; exact zTd_fr z (fun c j h => p33bbfr c j (by omega) (by omega) (by omega))), hl6, (by omega), (fun j hj => by rw [p33bbfr 215 j (by omega) (by omega) (by omega)]; exact hpl1 j hj), ?_⟩
      intro v76o I76o L76o p76hv p76bh40 p76bbhrow p76bbbhpl2 p76bbbbfr p76bbbbbfrL
      refine ⟨(8, (21 - (0 : Nat)), 0), zlt6 (by omega), [some (zvr (165)), some (zvi (l)), some (zvi (1)), some (zvi ((zct (dIs w l) (cuHc w)))), some (zvi ((zct (dIs w l) (0 : Nat)))), some (zvi ((0 : Nat))), none], ⟨rfl, rfl, rfl, (congrArg (fun z => some (zvi z)) (by omega)), (congrArg (fun z => some (zvi z)) rfl), rfl, rfl⟩, 0, rfl, rfl, rfl, rfl, rfl, (by have z : I76o 165 44 = I33o 165 44 := (by apply p76bbbbfr <;> omega); rw [z]; exact p33bh44e), (by omega), (by omega), p76bh40, p76bbhrow, p76bbbhpl2, (fun c j h0 h1 h2 h3 => ((p76bbbbfr c j (by omega)).trans ((p33bbfr c j h0 h1 h2).trans ((fr c j h0 h1 h2 (by omega)).trans rfl)))), (fun c j h0 => ((p76bbbbbfrL c j (by omega)).trans rfl))⟩
    · have t37 : i < (dTx w l).length := (by rcases g33 with z | z; (exfalso; omega); exact z.2)
      have t37b : wAt (dTx w l) i = 10 ∨ (32 ≤ wAt (dTx w l) i ∧ wAt (dTx w l) i ≤ 126) := (hwc t37)
      refine And.intro (zRb rfl) (zbf rfl ?_)
      refine And.intro (zA_165 hS) (zrdR (v := some 212) (zR_165_40 hR) ?_)
      refine And.intro (zA_165 hS) ⟨_, sn_Y_drh.up (by decide), ?_⟩
      refine ⟨q, w, l, i, rfl, hS, hR, hrc, hdq, (zMh_fr hMh1 (fun c j h => p33bbfr c j (by omega) (by omega) (by omega))), (fun p hp => (p33bbfr 211 p (by omega) (by omega) (by omega)).trans (hord1 p hp)), (by omega), (by first | exact hG | (clear hQ; grind [xu])), (by omega), p33bh44e, ?_⟩
      intro v51o I51o p51hv p51bh44e p51bbfr
      have g51 : v51o = wAt (dTx w l) i := (by have z := p51hv; rw [if_pos ⟨by omega, by omega, by omega⟩] at z; exact z.trans (by rw [Int.toNat_natCast]))
      refine And.intro (zA_212 hS) ⟨_, sn_X_uni.up (by decide), ?_⟩
      refine ⟨212, ((dTx w l).take i), v51o, rfl, hS, hR, hDD, (zTd_fr hTd (fun c j h => (p51bbfr c j (by omega) (by omega) (by omega)).trans (p33bbfr c j (by omega) (by omega) (by omega)))), (by rw [wTk_l (by omega)]; omega), (by rw [g51]; exact t37b), ?_⟩
      intro v54o I54o p54hv p54bhTd2 p54bbfr
      refine And.intro (by omega) ⟨(fun h57 => False.elim (by omega)), fun h57 => ?_⟩
      refine ⟨(9, (801 - (i + 1)), 0), zlt6 (by omega), [some (zvr (165)), some (zvi (l)), some (zvi (1)), some (zvi ((i + 1))), none, none, none], ⟨rfl, rfl, rfl, rfl, rfl⟩, (i + 1), rfl, rfl, rfl, rfl, rfl, rfl, (by have z : I54o 165 44 = I51o 165 44 := (by apply p54bbfr <;> omega); rw [z]; exact p51bh44e), (by first | exact hi | (clear hQ; grind [xu])), (by omega), (by have z := p54bhTd2; rw [g51, wTk t37] at z; exact z), (fun j hj => by rw [(p54bbfr 215 j (by omega) (by omega) (by omega)).trans ((p51bbfr 215 j (by omega) (by omega) (by omega)).trans (p33bbfr 215 j (by omega) (by omega) (by omega)))]; exact hpl1 j hj), (fun c j h0 h1 h2 h3 => ((p54bbfr c j (by omega) (by omega) (by omega)).trans ((p51bbfr c j h0 h1 h2).trans ((p33bbfr c j h0 h1 h2).trans ((fr c j h0 h1 h2 (by omega)).trans rfl)))))⟩
  · rintro nM lsM stM I1 L1 R1 S1 hz1 ⟨n, rfl, rfl, rfl, rfl, rfl, h44c, hn, hl6, h40, hrw, hpl1, fr, frL⟩
    have hMh1 : zMh w I1 := zMh_fr hMh (fun c j h => fr c j (by omega) (by omega) (by omega) (by omega))
    have hord1 : ∀ p : Nat, p < cuHc w → I1 211 p = cuOr w p := fun p hp => (fr 211 p (by omega) (by omega) (by omega) (by omega)).trans (hord p hp)
    have hm35 := hMh1.1
    have hmm := hMh1.2
    have hzn := zct_le (dIs w l) n
    have hob := fun h => cuOr_b (w := w) (i := n) h
    have hvb := fun (h : (cuOr w n).toNat < cuHc w) => cuHv_b hG h
    refine And.intro (zA_165 hS) (zrd (v := (cuHc w)) hm35 ?_)
    refine And.intro ⟨(by omega), (by omega)⟩ ⟨fun h92 => ?_, fun h92 => ?_⟩
    · have t92 : (zct (dIs w l) n) = zct (dIs w l) (cuHc w) := (by have e9 : n = cuHc w := (by omega); rw [e9])
      refine And.intro (zRb rfl) (zbf rfl ?_)
      refine And.intro ⟨(by omega), (by omega)⟩ ⟨(fun h237 => False.elim (by omega)), fun h237 => ?_⟩
      refine hQ _ _ _ (by first | exact (if_pos hl6).symm | exact (if_neg (by omega)).symm) (by first | exact h44c | exact h44p) (by first | exact hpl | exact (fun j h1 => ((fr (212 + 3) _ (by omega) (by omega) (by omega) (by omega)).trans rfl).trans (hpl j h1)) | exact hpl1 | exact (fun j h1 => rfl.trans (hpl1 j h1)) | (clear hQ; grind [xu])) (fun c j h0 h1 h2 h3 => ((fr c j h0 h1 h2 (by omega)).trans rfl)) (fun c j h0 => ((frL c j (by omega)).trans rfl))
    · have t92 : n + 1 ≤ cuHc w := (by omega)
      refine And.intro (zA_165 hS) (zrdR (v := some 211) (zR_165_39 hR) ?_)
      refine And.intro (zP_211 hS (by omega) (by omega)) (fun v101 e101 r101 => ?_)
      have f101 : v101 = cuOr w n := (e101.trans ((congrArg (I1 211) (by omega)).trans (hord1 n (by omega))))
      have f101b : 0 ≤ v101 ∧ v101 + 1 ≤ cuHc w := (by have z := hob (by omega); omega)
      refine And.intro (zA_165 hS) (zrdR (v := some 208) (zR_165_36 hR) ?_)
      refine And.intro (zP_208 hS (by omega) (by omega)) (fun v110 e110 r110 => ?_)
      have f110 : v110 = cuHv w (cuOr w n).toNat / 256 := (e110.trans ((congrArg (I1 208) (show _ = (cuOr w n).toNat by omega)).trans (hmm (cuOr w n).toNat (by omega)).1))
      refine And.intro ⟨r110, (by omega)⟩ ⟨fun h112 => ?_, fun h112 => ?_⟩
      · have t112 : dIs w l n := (by unfold dIs; omega)
        have t112b : zct (dIs w l) (n + 1) = (zct (dIs w l) n) + 1 ∧ (zct (dIs w l) n) < zct (dIs w l) (cuHc w) := ⟨zct_t t112, zct_lt2 (by omega) t112⟩
        have t112bb : (zct (dIs w l) n) + 1 ≤ zct (dIs w l) (cuHc w) := (by omega)
        refine And.intro (zRb rfl) (zbf rfl ?_)
        refine And.intro ⟨(by omega), (by omega)⟩ ⟨(fun h125 => False.elim (by omega)), fun h125 => ?_⟩
        refine And.intro (zA_165 hS) (zrdR (v := some 212) (zR_165_40 hR) ?_)
        refine And.intro (zA_212 hS) ⟨_, sn_X_at.up (by decide), ?_⟩
        refine ⟨212, (((zct (dIs w l) n)) : Int), (1 : Int), (zct (dIs w l) n), (zct (dIs w l) (cuHc w)), rfl, hS, hR, hDD, (by omega), (Eq.trans (b := (((zct (dIs w l) (cuHc w) : Nat)) : Int)) h40 (by omega)), (by omega), (by clear hQ; grind [xu]), ?_⟩
        intro v135o I135o p135hv p135bfr
        have g135 : v135o = dHx w n := (by have z := (hrw n (by omega) t112).2.1.1; rcases p135hv with y | y | y | y <;> omega)
        have g135b : 0 ≤ v135o ∧ v135o ≤ 15000 := (by have z := dHx_b (w := w) (n := n); omega)
        refine And.intro (zA_165 hS) (zrdR (v := some 209) (zR_165_37 hR) ?_)
        refine And.intro (zP_209 hS (by omega) (by omega)) (fun v147 e147 r147 => ?_)
        have f147 : v147 = cuHv w (cuOr w n).toNat % 16 := (e147.trans (((p135bfr 209 _ (by omega)).trans rfl).trans ((congrArg (I1 209) (show _ = (cuOr w n).toNat by omega)).trans (hmm (cuOr w n).toNat (by omega)).2.1)))
        refine And.intro r147 ?_
        refine ⟨_, _, ⟨zW6i (by omega), zW6i (by omega)⟩, fun z150 c150 => ?_⟩
        refine And.intro c150.2.2 ⟨fun h151 => ?_, fun h151 => ?_⟩
        · exact False.elim (by have z := g135; unfold dHx at z; omega)
        · refine And.intro (zA_165 hS) (zrdR (v := some 212) (zR_165_40 hR) ?_)
          refine And.intro (zA_212 hS) ⟨_, sn_X_at.up (by decide), ?_⟩
          refine ⟨212, (((zct (dIs w l) n)) : Int), (2 : Int), (zct (dIs w l) n), (zct (dIs w l) (cuHc w)), rfl, hS, hR, hDD, (by omega), (Eq.trans (b := (((zct (dIs w l) (cuHc w) : Nat)) : Int)) ((p135bfr 216 0 (by omega)).trans h40) (by omega)), (by omega), (by clear hQ; grind [xu]), ?_⟩
          intro v161o I161o p161hv p161bfr
          have g161 : v161o = dHy w n := (by have z := (hrw n (by omega) t112).2.1.2; rcases p161hv with y | y | y | y <;> omega)
          have g161b : 0 ≤ v161o ∧ v161o ≤ 15000 := (by have z := dHx_b (w := w) (n := n); omega)
          refine And.intro (zA_165 hS) (zrdR (v := some 210) (zR_165_38 hR) ?_)
          refine And.intro (zP_210 hS (by omega) (by omega)) (fun v173 e173 r173 => ?_)
          have f173 : v173 = cuHv w (cuOr w n).toNat / 16 % 16 := (e173.trans (((p161bfr 210 _ (by omega)).trans ((p135bfr 210 _ (by omega)).trans rfl)).trans ((congrArg (I1 210) (show _ = (cuOr w n).toNat by omega)).trans (hmm (cuOr w n).toNat (by omega)).2.2)))
          refine And.intro r173 ?_
          refine ⟨_, _, ⟨zW6i (by omega), zW6i (by omega)⟩, fun z176 c176 => ?_⟩
          refine And.intro c176.2.2 ⟨fun h177 => ?_, fun h177 => ?_⟩
          · exact False.elim (by have z := g161; unfold dHy at z; omega)
          · refine And.intro (zA_165 hS) (zrdR (v := some 212) (zR_165_40 hR) ?_)
            refine And.intro (zA_212 hS) ⟨_, sn_X_at.up (by decide), ?_⟩
            refine ⟨212, (((zct (dIs w l) n)) : Int), (5 : Int), (zct (dIs w l) n), (zct (dIs w l) (cuHc w)), rfl, hS, hR, hDD, (by omega), (Eq.trans (b := (((zct (dIs w l) (cuHc w) : Nat)) : Int)) ((p161bfr 216 0 (by omega)).trans ((p135bfr 216 0 (by omega)).trans h40)) (by omega)), (by omega), (by clear hQ; grind [xu]), ?_⟩
            intro v187o I187o p187hv p187bfr
            have g187 : v187o = l := (by have z := (hrw n (by omega) t112).1.2.1; rcases p187hv with y | y | y | y; omega; omega; (exact y.2.trans ((p161bfr _ _ (by omega)).trans ((p135bfr _ _ (by omega)).trans z))); omega)
            refine And.intro (by omega) ?_
            refine ⟨_, _, ⟨zW6i (by omega), zW6i (by omega)⟩, fun z192 c192 => ?_⟩
            refine And.intro c192.2.2 ⟨(fun h193 => False.elim (by omega)), fun h193 => ?_⟩
            refine And.intro (zA_165 hS) (zrdR (v := some 212) (zR_165_40 hR) ?_)
            refine And.intro (zA_212 hS) ⟨_, sn_X_at.up (by decide), ?_⟩
            refine ⟨212, (((zct (dIs w l) n)) : Int), (6 : Int), (zct (dIs w l) n), (zct (dIs w l) (cuHc w)), rfl, hS, hR, hDD, (by omega), (Eq.trans (b := (((zct (dIs w l) (cuHc w) : Nat)) : Int)) ((p187bfr 216 0 (by omega)).trans ((p161bfr 216 0 (by omega)).trans ((p135bfr 216 0 (by omega)).trans h40))) (by omega)), (by omega), (by clear hQ; grind [xu]), ?_⟩
            intro v204o I204o p204hv p204bfr
            have g204 : v204o = l + 1 := (by have z := (hrw n (by omega) t112).1.2.2.1; rcases p204hv with y | y | y | y; omega; omega; omega; (exact y.2.trans ((p187bfr _ _ (by omega)).trans ((p161bfr _ _ (by omega)).trans ((p135bfr _ _ (by omega)).trans z)))))
            refine And.intro (by omega) ?_
            refine ⟨_, _, ⟨zW6i (by omega), zW6i (by omega)⟩, fun z211 c211 => ?_⟩
            refine And.intro c211.2.2 ⟨(fun h212 => False.elim (by omega)), fun h212 => ?_⟩
            refine ⟨(8, (21 - (n + 1)), 0), zlt6 (by omega), [some (zvr (165)), some (zvi (l)), some (zvi (1)), some (zvi ((zct (dIs w l) (cuHc w)))), some (zvi ((zct (dIs w l) (n + 1)))), some (zvi ((n + 1))), none], ⟨rfl, rfl, rfl, rfl, (congrArg (fun z => some (zvi z)) (by omega)), rfl, rfl⟩, (n + 1), rfl, rfl, rfl, rfl, rfl, (by first | exact h44c | (rw [show I204o 165 44 = I1 165 44 from ((p204bfr 165 _ (by omega)).trans ((p187bfr 165 _ (by omega)).trans ((p161bfr 165 _ (by omega)).trans ((p135bfr 165 _ (by omega)).trans rfl))))]; exact h44c)), (by omega), (by omega), (Eq.trans (b := (((zct (dIs w l) (cuHc w) : Nat)) : Int)) ((p204bfr 216 0 (by omega)).trans ((p187bfr 216 0 (by omega)).trans ((p161bfr 216 0 (by omega)).trans ((p135bfr 216 0 (by omega)).trans h40)))) (by omega)), (fun j hj g => zRh_fr (hrw j hj g) (fun c gc => ((p204bfr c _ (by omega)).trans ((p187bfr c _ (by omega)).trans ((p161bfr c _ (by omega)).trans ((p135bfr c _ (by omega)).trans rfl))))) (fun c gc => rfl)), (fun j hj => by rw [show I204o 215 j = I1 215 j from ((p204bfr 215 _ (by omega)).trans ((p187bfr 215 _ (by omega)).trans ((p161bfr 215 _ (by omega)).trans ((p135bfr 215 _ (by omega)).trans rfl))))]; exact hpl1 j hj), (fun c j h0 h1 h2 h3 => ((p204bfr c j (by omega)).trans ((p187bfr c j (by omega)).trans ((p161bfr c j (by omega)).trans ((p135bfr c j (by omega)).trans ((fr c j h0 h1 h2 (by omega)).trans rfl)))))), (fun c j h0 => ((frL c j (by omega)).trans rfl))⟩
      · have t112 : ¬ dIs w l n := (by unfold dIs; omega)
        have t112b : zct (dIs w l) (n + 1) = (zct (dIs w l) n) := (zct_f t112)
        refine ⟨(8, (21 - (n + 1)), 0), zlt6 (by omega), [some (zvr (165)), some (zvi (l)), some (zvi (1)), some (zvi ((zct (dIs w l) (cuHc w)))), some (zvi ((zct (dIs w l) (n + 1)))), some (zvi ((n + 1))), none], ⟨rfl, rfl, rfl, rfl, (congrArg (fun z => some (zvi z)) (by omega)), rfl, rfl⟩, (n + 1), rfl, rfl, rfl, rfl, rfl, (by first | exact h44c | (rw [show I1 165 44 = I1 165 44 from rfl]; exact h44c)), (by omega), (by omega), (Eq.trans (b := (((zct (dIs w l) (cuHc w) : Nat)) : Int)) h40 (by omega)), (fun j hj g => zRh_fr (hrw j hj g) (fun c gc => rfl) (fun c gc => rfl)), (fun j hj => by rw [show I1 215 j = I1 215 j from rfl]; exact hpl1 j hj), (fun c j h0 h1 h2 h3 => ((fr c j h0 h1 h2 (by omega)).trans rfl)), (fun c j h0 => ((frL c j (by omega)).trans rfl))⟩)
