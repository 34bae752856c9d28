/-! ve -/
def T_M_drw : ZT := fun args I L R S Q => ∃ (k : Nat) (O : OoS) (q : Nat), args = [zvr 165, zvr k] ∧ (zSh S) ∧ (zRs R) ∧ (zDy zT20 zF20 k R S) ∧ (168 ≤ k ∧ k ≤ 181) ∧ (zOM k O I L) ∧ (oGd O) ∧ (R 165 7 = some q) ∧ (zDy zT18 zF18 q R S) ∧ (302 ≤ q) ∧ (zNJ q jd0 I L) ∧ (I q 29 = 0) ∧ (1 ≤ ocn O) ∧ ∀ (I' : ZI) (L' : ZI), (zNJ q (oD O) I' L') → (zJO q (oD O) I') → (∀ c j : Nat, ¬ (q ≤ c ∧ c ≤ q + 22) → ¬ (c = k ∧ j = 0) → ¬ (c = 165 ∧ j = 11) → ¬ c = 194 → ¬ c = 195 → ¬ c = 196 → I' c j = I c j) → (∀ c j : Nat, ¬ (q ≤ c ∧ c ≤ q + 22) → L' c j = L c j) → Q none I' L' R S
theorem sn_M_drw : ZSnd 9 21 13 T_M_drw := ZSnd.loops (zT21_13 8) (by
  rintro args I L R S Q hz ⟨k, O, q, rfl, hS, hR, hD, hk, hO, hG, hdq, hDq, hq, hNJ, h29, hc1, hQ⟩
  obtain ⟨o1, o2, o3, o4⟩ := id hO
  obtain ⟨g1, g2, g3, g4, g5⟩ := id hG
  have hk40 := hD.1
  have hk1 := hk.1
  have hk2 := hk.2
  refine ⟨[7, 30, 187], fun nM tM lsM stM I1 L1 R1 S1 => match tM with
      | 7 => ∃ (m : Nat), nM = (3, (201 - m), 0) ∧ lsM = [some (zvr (165)), some (zvr (k)), some (zvi (m)), none, none] ∧ stM = [] ∧ L1 = L ∧ R1 = R ∧ S1 = S ∧ (m ≤ ocn O) ∧ (∀ j : Nat, j < m → I1 194 j = -1) ∧ (I1 165 11 = 0) ∧ (∀ c j : Nat, ¬ (c = 165 ∧ j = 11) → ¬ c = 194 → I1 c j = I c j)
      | 30 => ∃ (m : Nat), nM = (2, (201 - m), 0) ∧ lsM = [some (zvr (165)), some (zvr (k)), some (zvi (m)), none, none] ∧ stM = [] ∧ R1 = R ∧ S1 = S ∧ (m ≤ ocn O) ∧ (zMH O m (oSt O m).1 I1) ∧ (∀ j : Nat, m ≤ j → j < ocn O → I1 194 j = -1) ∧ (zNJ q (oSt O m).1 I1 L1) ∧ (zJO q (oSt O m).1 I1) ∧ (∀ c j : Nat, ¬ (q ≤ c ∧ c ≤ q + 22) → ¬ (c = k ∧ j = 0) → ¬ (c = 165 ∧ j = 11) → ¬ c = 194 → ¬ c = 195 → ¬ c = 196 → I1 c j = I c j) ∧ (∀ c j : Nat, ¬ (q ≤ c ∧ c ≤ q + 22) → L1 c j = L c j)
      | 187 => ∃ (m : Nat), nM = (1, (201 - m), 0) ∧ lsM = [some (zvr (165)), some (zvr (k)), some (zvi (m)), none, none] ∧ stM = [] ∧ R1 = R ∧ S1 = S ∧ (1 ≤ m) ∧ (m ≤ ocn O) ∧ (zMH O (ocn O) (oDs O) I1) ∧ (zNJ q (oDt O m) I1 L1) ∧ (zJO q (oDt O m) I1) ∧ (∀ c j : Nat, ¬ (q ≤ c ∧ c ≤ q + 22) → ¬ (c = k ∧ j = 0) → ¬ (c = 165 ∧ j = 11) → ¬ c = 194 → ¬ c = 195 → ¬ c = 196 → I1 c j = I c j) ∧ (∀ c j : Nat, ¬ (q ≤ c ∧ c ≤ q + 22) → L1 c j = L c j)
      | _ => False, rfl, ?_, ⟨?_, ?_, ?_, True.intro⟩⟩
  · refine And.intro (zA_165 hS) ⟨_, (zWi (zRb rfl)), ?_⟩
    refine ⟨(3, (201 - (0 : Nat)), 0), [some (zvr (165)), some (zvr (k)), some (zvi ((0 : Nat))), none, none], ⟨rfl, rfl, rfl, rfl⟩, 0, rfl, rfl, rfl, rfl, rfl, rfl, (by omega), (fun j h => absurd h (Nat.not_lt_zero j)), zxe, (fun c j h0 h1 => (zxcj h0 rfl))⟩
  · rintro nM lsM stM I1 L1 R1 S1 hz1 ⟨m, rfl, rfl, rfl, rfl, rfl, rfl, hm, hz1, h0, fr⟩
    refine And.intro (zDX hD 0 rfl) (zrd (v := (ocn O)) ((fr k 4 (by omega) (by omega)).trans o1) ?_)
    refine And.intro ⟨(by omega), (by omega)⟩ ⟨fun h12 => ?_, fun h12 => ?_⟩
    · refine ⟨(2, (201 - (0 : Nat)), 0), zlt6 (by omega), [some (zvr (165)), some (zvr (k)), some (zvi ((0 : Nat))), none, none], ⟨rfl, rfl, rfl, rfl⟩, 0, rfl, rfl, rfl, rfl, rfl, (by omega), ⟨h0, fun j h => absurd h (Nat.not_lt_zero j), fun s h => absurd h (Nat.not_lt_zero s)⟩, (fun j _ hj => hz1 j (by omega)), (zNJ_fr hNJ (fun c j h => fr c j (by omega) (by omega)) (fun c j h => rfl)), (Or.inr ⟨rfl, (fr q 29 (by omega) (by omega)).trans h29⟩), (fun c j h0 h1 h2 h3 h4 h5 => ((fr c j (by omega) (by omega)).trans rfl)), (fun c j h0 => rfl)⟩
    · refine And.intro (zA_165 hS) (zrdR (v := some 194) (zR_165_8 hR) ?_)
      refine And.intro ⟨(zx0 rfl), (zP_194 hS (by omega) (by omega))⟩ ⟨_, (zWi (zRb rfl)), ?_⟩
      refine ⟨(3, (201 - (m + 1)), 0), zlt6 (by omega), [some (zvr (165)), some (zvr (k)), some (zvi ((m + 1))), none, none], ⟨rfl, rfl, rfl, rfl⟩, (m + 1), rfl, rfl, rfl, rfl, rfl, rfl, (by omega), (fun j hj => by by_cases e : j = m; (rw [e]; exact zxe' (by omega)); exact zxs (by omega) (hz1 j (by omega))), (zxu (by omega) h0), (fun c j h0 h1 => (zxu h1 ((fr c j (by omega) (by omega)).trans rfl)))⟩
  · rintro nM lsM stM I1 L1 R1 S1 hz1 ⟨m, rfl, rfl, rfl, rfl, rfl, hm, hM1, hz1, hNJ1, hJO1, fr, frL⟩
    have hn1 := oSt_n (O := O) m
    have hgs := oSt_g hG hm
    obtain ⟨m1, m2, m3⟩ := id hM1
    refine And.intro (zDX hD 0 rfl) (zrd (v := (ocn O)) ((fr k 4 (by omega) (by omega) (by omega) (by omega) (by omega) (by omega)).trans o1) ?_)
    refine And.intro ⟨(by omega), (by omega)⟩ ⟨fun h35 => ?_, fun h35 => ?_⟩
    · refine ⟨(1, (201 - (1 : Nat)), 0), zlt6 (by omega), [some (zvr (165)), some (zvr (k)), some (zvi ((1 : Nat))), none, none], ⟨rfl, rfl, rfl, rfl⟩, 1, rfl, rfl, rfl, rfl, rfl, (by omega), (by omega), (by obtain rfl : m = ocn O := (by omega); exact hM1), (by rw [oDt_1 hG hc1]; obtain rfl : m = ocn O := (by omega); exact hNJ1), (by rw [oDt_1 hG hc1]; obtain rfl : m = ocn O := (by omega); exact hJO1), (fun c j h0 h1 h2 h3 h4 h5 => ((fr c j (by omega) (by omega) (by omega) (by omega) (by omega) (by omega)).trans rfl)), (fun c j h0 => ((frL c j (by omega)).trans rfl))⟩
    · refine And.intro (zDX hD 0 rfl) ⟨_, sn_V_kind.up (by decide), ?_⟩
      refine ⟨k, O, (m : Int), m, rfl, hS, hR, hD, (by first | exact (zOM_fr hO (fun c j h => ((fr c j (by omega) (by omega) (by omega) (by omega) (by omega) (by omega)).trans rfl)) (fun c j h => ((frL c j (by omega)).trans rfl))) | (clear hQ; grind [xu])), (by first | exact hG | (clear hQ; grind [xu])), (by omega), ?_⟩
      intro v40o I40o p40hv p40bhv2 p40bbht p40bbbfr
      refine And.intro ⟨(by omega), (zRb rfl)⟩ ⟨fun h44 => ?_, fun h44 => ?_⟩
      · refine ⟨(2, (201 - (m + 1)), 0), zlt6 (by omega), [some (zvr (165)), some (zvr (k)), some (zvi ((m + 1))), none, none], ⟨rfl, rfl, rfl, rfl⟩, (m + 1), rfl, rfl, rfl, rfl, rfl, (by omega), ?_, ?_, ?_, ?_, (fun c j h0 h1 h2 h3 h4 h5 => ((p40bbbfr c j (by omega)).trans ((fr c j (by omega) (by omega) (by omega) (by omega) (by omega) (by omega)).trans rfl))), (fun c j h0 => ((frL c j (by omega)).trans rfl))⟩
        · first
          | exact zMH_n (zMH_fr hM1 (fun c j h => p40bbbfr c j (by omega))) (fun w => by have w1 := w.1; have w2 := w.2; omega) ((p40bbbfr 194 _ (by omega)).trans (hz1 m (by omega) (by omega)))
          | exact zMH_t hgs hM1 ⟨by omega, by omega⟩ rfl p134hv (zxe.trans (by omega)) (zxu (by omega) ((zxe' (by omega)).trans (by omega))) (fun j hj => (zxu (by omega) (zxs (by omega) ((p165bbbbfr 194 _ (by omega) (by omega) (by omega) (by omega) (by omega) (by omega) (by omega) (by omega) (by omega) (by omega) (by omega) (by omega)).trans (zxu (by omega) ((p134bfr 194 _ (by omega)).trans (zxu (by omega) ((p67bbbfr 194 _ (by omega)).trans ((p61bbbfr 194 _ (by omega)).trans (p40bbbfr 194 _ (by omega))))))))))) (zxu (by omega) (zxu (by omega) ((p165bbbbfr 196 _ (by omega) (by omega) (by omega) (by omega) (by omega) (by omega) (by omega) (by omega) (by omega) (by omega) (by omega) (by omega)).trans (zxu (by omega) ((p134bfr 196 _ (by omega)).trans ((zxe' (by omega)).trans (by first | (rw [f117]; exact (oPs_t (by omega)).symm) | (rw [oPs_t (by omega), oSh_no (fun w => by have w1 := w.1; omega)])))))))) (zxu (by omega) (zxu (by omega) ((p165bbbbfr 195 _ (by omega) (by omega) (by omega) (by omega) (by omega) (by omega) (by omega) (by omega) (by omega) (by omega) (by omega) (by omega)).trans (zxe' (by omega))))) (fun s hs => ⟨(zxu (by omega) (zxu (by omega) ((p165bbbbfr 196 _ (by omega) (by omega) (by omega) (by omega) (by omega) (by omega) (by omega) (by omega) (by omega) (by omega) (by omega) (by omega)).trans (zxu (by omega) ((p134bfr 196 _ (by omega)).trans (zxs (by omega) ((p67bbbfr 196 _ (by omega)).trans ((p61bbbfr 196 _ (by omega)).trans (p40bbbfr 196 _ (by omega)))))))))), (zxu (by omega) (zxu (by omega) ((p165bbbbfr 195 _ (by omega) (by omega) (by omega) (by omega) (by omega) (by omega) (by omega) (by omega) (by omega) (by omega) (by omega) (by omega)).trans (zxs (by omega) ((p134bfr 195 _ (by omega)).trans (zxu (by omega) ((p67bbbfr 195 _ (by omega)).trans ((p61bbbfr 195 _ (by omega)).trans (p40bbbfr 195 _ (by omega))))))))))⟩)
        · intro j h1 h2
          first
          | exact (p40bbbfr 194 _ (by omega)).trans (hz1 j (by omega) (by omega))
          | exact (zxu (by omega) (zxs (by omega) ((p165bbbbfr 194 _ (by omega) (by omega) (by omega) (by omega) (by omega) (by omega) (by omega) (by omega) (by omega) (by omega) (by omega) (by omega)).trans (zxu (by omega) ((p134bfr 194 _ (by omega)).trans (zxu (by omega) (((p67bbbfr 194 _ (by omega)).trans ((p61bbbfr 194 _ (by omega)).trans (p40bbbfr 194 _ (by omega)))).trans (hz1 j (by omega) (by omega)))))))))
        · first
          | (rw [oSt_f (fun w => by have w1 := w.1; have w2 := w.2; omega)]
             exact zNJ_fr hNJ1 (fun c j h => p40bbbfr c j (by omega)) (fun c j h => rfl))
          | (rw [oSt_t ⟨by omega, by omega⟩]
             show zNJ q (djS (oSt O m).1 (oPs O m) (oRp O (oSt O m) m)) _ _
             rw [← f155, ← f164]
             exact zNJ_fr p165bhNJ2 (fun c j h => zxu (by omega) (zxu (by omega) rfl)) (fun c j h => rfl))
        · first
          | (rw [oSt_f (fun w => by have w1 := w.1; have w2 := w.2; omega)]
             exact zJO_fr hJO1 (fun c j h => p40bbbfr c j (by omega)))
          | (rw [oSt_t ⟨by omega, by omega⟩]
             show zJO q (djS (oSt O m).1 (oPs O m) (oRp O (oSt O m) m)) _
             rw [← f155, ← f164]
             exact Or.inl (zJN_fr p165bbbhJN2 (fun c j h => zxu (by omega) (zxu (by omega) rfl))))
      · have t44 : 0 ≤ opa O m ∧ opa O m + 1 ≤ m := (by have w := (oPar hG (k := m) (by omega) (by omega)).2.1; omega)
        refine And.intro (zA_165 hS) (fun v48 e48 r48 => ?_)
        have f48 : v48 = dns (oSt O m).1 := (e48.trans (((p40bbbfr 165 _ (by omega)).trans rfl).trans m1))
        refine And.intro ⟨r48, (zRb rfl)⟩ ⟨fun h53 => ?_, fun h53 => ?_⟩
        · have t53 : oSc O m ≤ 15 := (by omega)
          have t53b : dns (oSt O m).1 = oSc O m := (by omega)
          refine And.intro (zDX hD 0 rfl) ⟨_, sn_V_par.up (by decide), ?_⟩
          refine ⟨k, O, (m : Int), m, rfl, hS, hR, hD, (by first | exact (zOM_fr hO (fun c j h => ((p40bbbfr c j (by omega)).trans ((fr c j (by omega) (by omega) (by omega) (by omega) (by omega) (by omega)).trans rfl))) (fun c j h => ((frL c j (by omega)).trans rfl))) | (clear hQ; grind [xu])), (by first | exact hG | (clear hQ; grind [xu])), (by omega), ?_⟩
          intro v61o I61o p61hv p61bhv2 p61bbht p61bbbfr
          refine And.intro (zDX hD 0 rfl) ⟨_, sn_V_kind.up (by decide), ?_⟩
          refine ⟨k, O, (v61o : Int), (opa O m).toNat, rfl, hS, hR, hD, (by first | exact (zOM_fr hO (fun c j h => ((p61bbbfr c j (by omega)).trans ((p40bbbfr c j (by omega)).trans ((fr c j (by omega) (by omega) (by omega) (by omega) (by omega) (by omega)).trans rfl)))) (fun c j h => ((frL c j (by omega)).trans rfl))) | (clear hQ; grind [xu])), (by first | exact hG | (clear hQ; grind [xu])), (by omega), ?_⟩
          intro v67o I67o p67hv p67bhv2 p67bbht p67bbbfr
          refine And.intro ⟨(by omega), (zRb rfl)⟩ ⟨fun h71 => ?_, fun h71 => ?_⟩
          · refine And.intro (zRb rfl) (zbt rfl ?_)
            refine And.intro (zA_165 hS) (zrdR (v := some 196) (zR_165_10 hR) ?_)
            refine And.intro (zA_165 hS) (fun v104 e104 r104 => ?_)
            have f104 : v104 = dns (oSt O m).1 := (e104.trans (((p67bbbfr 165 _ (by omega)).trans ((p61bbbfr 165 _ (by omega)).trans ((p40bbbfr 165 _ (by omega)).trans rfl))).trans m1))
            refine And.intro (zRb rfl) (zbt rfl ?_)
            refine And.intro ⟨(zx0 rfl), (zP_196 hS (by omega) (by omega))⟩ ⟨_, (zWi (zRb rfl)), ?_⟩
            refine And.intro (zA_165 hS) (zrdR (v := some 195) (zR_165_9 hR) ?_)
            refine And.intro (zA_165 hS) (fun v128 e128 r128 => ?_)
            have f128 : v128 = dns (oSt O m).1 := (e128.trans ((zxu (by omega) ((p67bbbfr 165 _ (by omega)).trans ((p61bbbfr 165 _ (by omega)).trans ((p40bbbfr 165 _ (by omega)).trans rfl)))).trans m1))
            refine And.intro (zA_165 hS) ⟨_, sn_M_rep.up (by decide), ?_⟩
            refine ⟨k, O, (m : Int), m, rfl, hS, hR, hD, (by omega), (by first | exact (zOM_fr hO (fun c j h => (zxcj (by omega) ((p67bbbfr c j (by omega)).trans ((p61bbbfr c j (by omega)).trans ((p40bbbfr c j (by omega)).trans ((fr c j (by omega) (by omega) (by omega) (by omega) (by omega) (by omega)).trans rfl)))))) (fun c j h => ((frL c j (by omega)).trans rfl))) | (clear hQ; grind [xu])), (by first | exact hG | (clear hQ; grind [xu])), (by omega), ⟨zxu (by omega) (((p67bbbfr 165 _ (by omega)).trans ((p61bbbfr 165 _ (by omega)).trans (p40bbbfr 165 _ (by omega)))).trans m1), fun j hj => zxu (by omega) (((p67bbbfr 194 _ (by omega)).trans ((p61bbbfr 194 _ (by omega)).trans (p40bbbfr 194 _ (by omega)))).trans (m2 j hj)), fun s hs => ⟨zxs (by omega) (((p67bbbfr 196 _ (by omega)).trans ((p61bbbfr 196 _ (by omega)).trans (p40bbbfr 196 _ (by omega)))).trans (m3 s hs).1), zxu (by omega) (((p67bbbfr 195 _ (by omega)).trans ((p61bbbfr 195 _ (by omega)).trans (p40bbbfr 195 _ (by omega)))).trans (m3 s hs).2)⟩⟩, ?_⟩
            intro v134o I134o p134hv p134bfr
            have g134 : -1 ≤ v134o ∧ v134o ≤ 15 := (by have w := oRp_b (O := O) (s := oSt O m) (k := m); omega)
            refine And.intro ⟨(zx0 rfl), (zP_195 hS (by omega) (by omega))⟩ ⟨_, (zWi (by omega)), ?_⟩
            refine And.intro (zA_165 hS) (zrdR (v := some 194) (zR_165_8 hR) ?_)
            refine And.intro (zA_165 hS) (zrdR (v := some q) hdq ?_)
            refine And.intro (zA_165 hS) (zrdR (v := some 196) (zR_165_10 hR) ?_)
            refine And.intro (zA_165 hS) (fun v152 e152 r152 => ?_)
            have f152 : v152 = dns (oSt O m).1 := (e152.trans ((zxu (by omega) ((p134bfr 165 _ (by omega)).trans (zxu (by omega) ((p67bbbfr 165 _ (by omega)).trans ((p61bbbfr 165 _ (by omega)).trans ((p40bbbfr 165 _ (by omega)).trans rfl)))))).trans m1))
            refine And.intro (zP_196 hS (by omega) (by omega)) (fun v155 e155 r155 => ?_)
            have f155 : v155 = oPs O m := (e155.trans (zxu (by omega) ((p134bfr 196 _ (by omega)).trans ((zxe' (by omega)).trans (by first | (rw [f117]; exact (oPs_t (by omega)).symm) | (rw [oPs_t (by omega), oSh_no (fun w => by have w1 := w.1; omega)]))))))
            refine And.intro (zA_165 hS) (zrdR (v := some 195) (zR_165_9 hR) ?_)
            refine And.intro (zA_165 hS) (fun v161 e161 r161 => ?_)
            have f161 : v161 = dns (oSt O m).1 := (e161.trans ((zxu (by omega) ((p134bfr 165 _ (by omega)).trans (zxu (by omega) ((p67bbbfr 165 _ (by omega)).trans ((p61bbbfr 165 _ (by omega)).trans ((p40bbbfr 165 _ (by omega)).trans rfl)))))).trans m1))
            refine And.intro (zP_195 hS (by omega) (by omega)) (fun v164 e164 r164 => ?_)
            have f164 : v164 = oRp O (oSt O m) m := (e164.trans ((zxe' (by omega)).trans p134hv))
            refine And.intro (zDX hDq 0 rfl) ⟨_, sn_J_shet2.up (by decide), ?_⟩
            refine ⟨q, (oSt O m).1, (v155 : Int), (v164 : Int), rfl, hDq, (by first | exact (zNJ_fr hNJ (fun c j h => (zxcj (by omega) ((p134bfr c j (by omega)).trans (zxcj (by omega) ((p67bbbfr c j (by omega)).trans ((p61bbbfr c j (by omega)).trans ((p40bbbfr c j (by omega)).trans ((fr c j (by omega) (by omega) (by omega) (by omega) (by omega) (by omega)).trans rfl)))))))) (fun c j h => ((frL c j (by omega)).trans rfl))) | exact (zNJ_fr hNJ1 (fun c j h => (zxcj (by omega) ((p134bfr c j (by omega)).trans (zxcj (by omega) ((p67bbbfr c j (by omega)).trans ((p61bbbfr c j (by omega)).trans ((p40bbbfr c j (by omega)).trans rfl))))))) (fun c j h => rfl)) | (clear hQ; grind [xu])), hgs, (by omega), (by have w := oPs_b hG (k := m) (by omega); omega), (by rw [f164]; exact oRp_b), ?_⟩
            intro v165o I165o L165o p165hv p165bhNJ2 p165bbhJG2 p165bbbhJN2 p165bbbbfr p165bbbbbfrL
            refine And.intro ⟨(zx0 rfl), (zP_194 hS (by omega) (by omega))⟩ ⟨_, (zWi (by omega)), ?_⟩
            refine And.intro (zA_165 hS) (fun v171 e171 r171 => ?_)
            have f171 : v171 = dns (oSt O m).1 := (e171.trans ((zxu (by omega) ((p165bbbbfr 165 _ (by omega) (by omega) (by omega) (by omega) (by omega) (by omega) (by omega) (by omega) (by omega) (by omega) (by omega) (by omega)).trans (zxu (by omega) ((p134bfr 165 _ (by omega)).trans (zxu (by omega) ((p67bbbfr 165 _ (by omega)).trans ((p61bbbfr 165 _ (by omega)).trans ((p40bbbfr 165 _ (by omega)).trans rfl)))))))).trans m1))
            refine And.intro (zA_165 hS) ⟨_, (zWi (by omega)), ?_⟩
            refine ⟨(2, (201 - (m + 1)), 0), zlt6 (by omega), [some (zvr (165)), some (zvr (k)), some (zvi ((m + 1))), none, none], ⟨rfl, rfl, rfl, rfl⟩, (m + 1), rfl, rfl, rfl, rfl, rfl, (by omega), ?_, ?_, ?_, ?_, (fun c j h0 h1 h2 h3 h4 h5 => (zxcj h2 (zxu h3 ((p165bbbbfr c j (by omega) (by omega) (by omega) (by omega) (by omega) (by omega) (by omega) (by omega) (by omega) (by omega) (by omega) (by omega)).trans (zxu h4 ((p134bfr c j (by omega)).trans (zxu h5 ((p67bbbfr c j (by omega)).trans ((p61bbbfr c j (by omega)).trans ((p40bbbfr c j (by omega)).trans ((fr c j (by omega) (by omega) (by omega) (by omega) (by omega) (by omega)).trans rfl))))))))))), (fun c j h0 => ((p165bbbbbfrL c j).trans ((frL c j (by omega)).trans rfl)))⟩
            · first
              | exact zMH_n (zMH_fr hM1 (fun c j h => p40bbbfr c j (by omega))) (fun w => by have w1 := w.1; have w2 := w.2; omega) ((p40bbbfr 194 _ (by omega)).trans (hz1 m (by omega) (by omega)))
              | exact zMH_t hgs hM1 ⟨by omega, by omega⟩ rfl p134hv (zxe.trans (by omega)) (zxu (by omega) ((zxe' (by omega)).trans (by omega))) (fun j hj => (zxu (by omega) (zxs (by omega) ((p165bbbbfr 194 _ (by omega) (by omega) (by omega) (by omega) (by omega) (by omega) (by omega) (by omega) (by omega) (by omega) (by omega) (by omega)).trans (zxu (by omega) ((p134bfr 194 _ (by omega)).trans (zxu (by omega) ((p67bbbfr 194 _ (by omega)).trans ((p61bbbfr 194 _ (by omega)).trans (p40bbbfr 194 _ (by omega))))))))))) (zxu (by omega) (zxu (by omega) ((p165bbbbfr 196 _ (by omega) (by omega) (by omega) (by omega) (by omega) (by omega) (by omega) (by omega) (by omega) (by omega) (by omega) (by omega)).trans (zxu (by omega) ((p134bfr 196 _ (by omega)).trans ((zxe' (by omega)).trans (by first | (rw [f117]; exact (oPs_t (by omega)).symm) | (rw [oPs_t (by omega), oSh_no (fun w => by have w1 := w.1; omega)])))))))) (zxu (by omega) (zxu (by omega) ((p165bbbbfr 195 _ (by omega) (by omega) (by omega) (by omega) (by omega) (by omega) (by omega) (by omega) (by omega) (by omega) (by omega) (by omega)).trans (zxe' (by omega))))) (fun s hs => ⟨(zxu (by omega) (zxu (by omega) ((p165bbbbfr 196 _ (by omega) (by omega) (by omega) (by omega) (by omega) (by omega) (by omega) (by omega) (by omega) (by omega) (by omega) (by omega)).trans (zxu (by omega) ((p134bfr 196 _ (by omega)).trans (zxs (by omega) ((p67bbbfr 196 _ (by omega)).trans ((p61bbbfr 196 _ (by omega)).trans (p40bbbfr 196 _ (by omega)))))))))), (zxu (by omega) (zxu (by omega) ((p165bbbbfr 195 _ (by omega) (by omega) (by omega) (by omega) (by omega) (by omega) (by omega) (by omega) (by omega) (by omega) (by omega) (by omega)).trans (zxs (by omega) ((p134bfr 195 _ (by omega)).trans (zxu (by omega) ((p67bbbfr 195 _ (by omega)).trans ((p61bbbfr 195 _ (by omega)).trans (p40bbbfr 195 _ (by omega))))))))))⟩)
            · intro j h1 h2
              first
              | exact (p40bbbfr 194 _ (by omega)).trans (hz1 j (by omega) (by omega))
              | exact (zxu (by omega) (zxs (by omega) ((p165bbbbfr 194 _ (by omega) (by omega) (by omega) (by omega) (by omega) (by omega) (by omega) (by omega) (by omega) (by omega) (by omega) (by omega)).trans (zxu (by omega) ((p134bfr 194 _ (by omega)).trans (zxu (by omega) (((p67bbbfr 194 _ (by omega)).trans ((p61bbbfr 194 _ (by omega)).trans (p40bbbfr 194 _ (by omega)))).trans (hz1 j (by omega) (by omega)))))))))
            · first
              | (rw [oSt_f (fun w => by have w1 := w.1; have w2 := w.2; omega)]
                 exact zNJ_fr hNJ1 (fun c j h => p40bbbfr c j (by omega)) (fun c j h => rfl))
              | (rw [oSt_t ⟨by omega, by omega⟩]
                 show zNJ q (djS (oSt O m).1 (oPs O m) (oRp O (oSt O m) m)) _ _
                 rw [← f155, ← f164]
                 exact zNJ_fr p165bhNJ2 (fun c j h => zxu (by omega) (zxu (by omega) rfl)) (fun c j h => rfl))
            · first
              | (rw [oSt_f (fun w => by have w1 := w.1; have w2 := w.2; omega)]
                 exact zJO_fr hJO1 (fun c j h => p40bbbfr c j (by omega)))
              | (rw [oSt_t ⟨by omega, by omega⟩]
                 show zJO q (djS (oSt O m).1 (oPs O m) (oRp O (oSt O m) m)) _
                 rw [← f155, ← f164]
                 exact Or.inl (zJN_fr p165bbbhJN2 (fun c j h => zxu (by omega) (zxu (by omega) rfl))))
          · refine And.intro (zRb rfl) (zbf rfl ?_)
            refine And.intro (zA_165 hS) (zrdR (v := some 194) (zR_165_8 hR) ?_)
            refine And.intro (zP_194 hS (by omega) (by omega)) (fun v91 e91 r91 => ?_)
            have f91 : v91 = oSh O (opa O m).toNat := (e91.trans ((congrArg (I67o 194) (by omega)).trans (((p67bbbfr 194 _ (by omega)).trans ((p61bbbfr 194 _ (by omega)).trans ((p40bbbfr 194 _ (by omega)).trans rfl))).trans (m2 (opa O m).toNat (by omega)))))
            have f91b : -1 ≤ v91 ∧ v91 + 1 ≤ dns (oSt O m).1 := (by have w := oSh_b (O := O) (j := (opa O m).toNat) (k := m) (by omega); omega)
            refine And.intro ⟨r91, (zRb rfl)⟩ ⟨fun h93 => ?_, fun h93 => ?_⟩
            · refine And.intro (zA_165 hS) (zrdR (v := some 196) (zR_165_10 hR) ?_)
              refine And.intro (zA_165 hS) (fun v104 e104 r104 => ?_)
              have f104 : v104 = dns (oSt O m).1 := (e104.trans (((p67bbbfr 165 _ (by omega)).trans ((p61bbbfr 165 _ (by omega)).trans ((p40bbbfr 165 _ (by omega)).trans rfl))).trans m1))
              refine And.intro (zRb rfl) (zbf rfl ?_)
              refine And.intro (zA_165 hS) (zrdR (v := some 194) (zR_165_8 hR) ?_)
              refine And.intro (zP_194 hS (by omega) (by omega)) (fun v117 e117 r117 => ?_)
              have f117 : v117 = oSh O (opa O m).toNat := (e117.trans ((congrArg (I67o 194) (by omega)).trans (((p67bbbfr 194 _ (by omega)).trans ((p61bbbfr 194 _ (by omega)).trans ((p40bbbfr 194 _ (by omega)).trans rfl))).trans (m2 (opa O m).toNat (by omega)))))
              have f117b : -1 ≤ v117 ∧ v117 + 1 ≤ dns (oSt O m).1 := (by have w := oSh_b (O := O) (j := (opa O m).toNat) (k := m) (by omega); omega)
              refine And.intro ⟨(zx0 rfl), (zP_196 hS (by omega) (by omega))⟩ ⟨_, (zWi r117), ?_⟩
              refine And.intro (zA_165 hS) (zrdR (v := some 195) (zR_165_9 hR) ?_)
              refine And.intro (zA_165 hS) (fun v128 e128 r128 => ?_)
              have f128 : v128 = dns (oSt O m).1 := (e128.trans ((zxu (by omega) ((p67bbbfr 165 _ (by omega)).trans ((p61bbbfr 165 _ (by omega)).trans ((p40bbbfr 165 _ (by omega)).trans rfl)))).trans m1))
              refine And.intro (zA_165 hS) ⟨_, sn_M_rep.up (by decide), ?_⟩
              refine ⟨k, O, (m : Int), m, rfl, hS, hR, hD, (by omega), (by first | exact (zOM_fr hO (fun c j h => (zxcj (by omega) ((p67bbbfr c j (by omega)).trans ((p61bbbfr c j (by omega)).trans ((p40bbbfr c j (by omega)).trans ((fr c j (by omega) (by omega) (by omega) (by omega) (by omega) (by omega)).trans rfl)))))) (fun c j h => ((frL c j (by omega)).trans rfl))) | (clear hQ; grind [xu])), (by first | exact hG | (clear hQ; grind [xu])), (by omega), ⟨zxu (by omega) (((p67bbbfr 165 _ (by omega)).trans ((p61bbbfr 165 _ (by omega)).trans (p40bbbfr 165 _ (by omega)))).trans m1), fun j hj => zxu (by omega) (((p67bbbfr 194 _ (by omega)).trans ((p61bbbfr 194 _ (by omega)).trans (p40bbbfr 194 _ (by omega)))).trans (m2 j hj)), fun s hs => ⟨zxs (by omega) (((p67bbbfr 196 _ (by omega)).trans ((p61bbbfr 196 _ (by omega)).trans (p40bbbfr 196 _ (by omega)))).trans (m3 s hs).1), zxu (by omega) (((p67bbbfr 195 _ (by omega)).trans ((p61bbbfr 195 _ (by omega)).trans (p40bbbfr 195 _ (by omega)))).trans (m3 s hs).2)⟩⟩, ?_⟩
              intro v134o I134o p134hv p134bfr
              have g134 : -1 ≤ v134o ∧ v134o ≤ 15 := (by have w := oRp_b (O := O) (s := oSt O m) (k := m); omega)
              refine And.intro ⟨(zx0 rfl), (zP_195 hS (by omega) (by omega))⟩ ⟨_, (zWi (by omega)), ?_⟩
              refine And.intro (zA_165 hS) (zrdR (v := some 194) (zR_165_8 hR) ?_)
              refine And.intro (zA_165 hS) (zrdR (v := some q) hdq ?_)
              refine And.intro (zA_165 hS) (zrdR (v := some 196) (zR_165_10 hR) ?_)
              refine And.intro (zA_165 hS) (fun v152 e152 r152 => ?_)
              have f152 : v152 = dns (oSt O m).1 := (e152.trans ((zxu (by omega) ((p134bfr 165 _ (by omega)).trans (zxu (by omega) ((p67bbbfr 165 _ (by omega)).trans ((p61bbbfr 165 _ (by omega)).trans ((p40bbbfr 165 _ (by omega)).trans rfl)))))).trans m1))
              refine And.intro (zP_196 hS (by omega) (by omega)) (fun v155 e155 r155 => ?_)
              have f155 : v155 = oPs O m := (e155.trans (zxu (by omega) ((p134bfr 196 _ (by omega)).trans ((zxe' (by omega)).trans (by first | (rw [f117]; exact (oPs_t (by omega)).symm) | (rw [oPs_t (by omega), oSh_no (fun w => by have w1 := w.1; omega)]))))))
              refine And.intro (zA_165 hS) (zrdR (v := some 195) (zR_165_9 hR) ?_)
              refine And.intro (zA_165 hS) (fun v161 e161 r161 => ?_)
              have f161 : v161 = dns (oSt O m).1 := (e161.trans ((zxu (by omega) ((p134bfr 165 _ (by omega)).trans (zxu (by omega) ((p67bbbfr 165 _ (by omega)).trans ((p61bbbfr 165 _ (by omega)).trans ((p40bbbfr 165 _ (by omega)).trans rfl)))))).trans m1))
              refine And.intro (zP_195 hS (by omega) (by omega)) (fun v164 e164 r164 => ?_)
              have f164 : v164 = oRp O (oSt O m) m := (e164.trans ((zxe' (by omega)).trans p134hv))
              refine And.intro (zDX hDq 0 rfl) ⟨_, sn_J_shet2.up (by decide), ?_⟩
              refine ⟨q, (oSt O m).1, (v155 : Int), (v164 : Int), rfl, hDq, (by first | exact (zNJ_fr hNJ (fun c j h => (zxcj (by omega) ((p134bfr c j (by omega)).trans (zxcj (by omega) ((p67bbbfr c j (by omega)).trans ((p61bbbfr c j (by omega)).trans ((p40bbbfr c j (by omega)).trans ((fr c j (by omega) (by omega) (by omega) (by omega) (by omega) (by omega)).trans rfl)))))))) (fun c j h => ((frL c j (by omega)).trans rfl))) | exact (zNJ_fr hNJ1 (fun c j h => (zxcj (by omega) ((p134bfr c j (by omega)).trans (zxcj (by omega) ((p67bbbfr c j (by omega)).trans ((p61bbbfr c j (by omega)).trans ((p40bbbfr c j (by omega)).trans rfl))))))) (fun c j h => rfl)) | (clear hQ; grind [xu])), hgs, (by omega), (by have w := oPs_b hG (k := m) (by omega); omega), (by rw [f164]; exact oRp_b), ?_⟩
              intro v165o I165o L165o p165hv p165bhNJ2 p165bbhJG2 p165bbbhJN2 p165bbbbfr p165bbbbbfrL
              refine And.intro ⟨(zx0 rfl), (zP_194 hS (by omega) (by omega))⟩ ⟨_, (zWi (by omega)), ?_⟩
              refine And.intro (zA_165 hS) (fun v171 e171 r171 => ?_)
              have f171 : v171 = dns (oSt O m).1 := (e171.trans ((zxu (by omega) ((p165bbbbfr 165 _ (by omega) (by omega) (by omega) (by omega) (by omega) (by omega) (by omega) (by omega) (by omega) (by omega) (by omega) (by omega)).trans (zxu (by omega) ((p134bfr 165 _ (by omega)).trans (zxu (by omega) ((p67bbbfr 165 _ (by omega)).trans ((p61bbbfr 165 _ (by omega)).trans ((p40bbbfr 165 _ (by omega)).trans rfl)))))))).trans m1))
              refine And.intro (zA_165 hS) ⟨_, (zWi (by omega)), ?_⟩
              refine ⟨(2, (201 - (m + 1)), 0), zlt6 (by omega), [some (zvr (165)), some (zvr (k)), some (zvi ((m + 1))), none, none], ⟨rfl, rfl, rfl, rfl⟩, (m + 1), rfl, rfl, rfl, rfl, rfl, (by omega), ?_, ?_, ?_, ?_, (fun c j h0 h1 h2 h3 h4 h5 => (zxcj h2 (zxu h3 ((p165bbbbfr c j (by omega) (by omega) (by omega) (by omega) (by omega) (by omega) (by omega) (by omega) (by omega) (by omega) (by omega) (by omega)).trans (zxu h4 ((p134bfr c j (by omega)).trans (zxu h5 ((p67bbbfr c j (by omega)).trans ((p61bbbfr c j (by omega)).trans ((p40bbbfr c j (by omega)).trans ((fr c j (by omega) (by omega) (by omega) (by omega) (by omega) (by omega)).trans rfl))))))))))), (fun c j h0 => ((p165bbbbbfrL c j).trans ((frL c j (by omega)).trans rfl)))⟩
              · first
                | exact zMH_n (zMH_fr hM1 (fun c j h => p40bbbfr c j (by omega))) (fun w => by have w1 := w.1; have w2 := w.2; omega) ((p40bbbfr 194 _ (by omega)).trans (hz1 m (by omega) (by omega)))
                | exact zMH_t hgs hM1 ⟨by omega, by omega⟩ rfl p134hv (zxe.trans (by omega)) (zxu (by omega) ((zxe' (by omega)).trans (by omega))) (fun j hj => (zxu (by omega) (zxs (by omega) ((p165bbbbfr 194 _ (by omega) (by omega) (by omega) (by omega) (by omega) (by omega) (by omega) (by omega) (by omega) (by omega) (by omega) (by omega)).trans (zxu (by omega) ((p134bfr 194 _ (by omega)).trans (zxu (by omega) ((p67bbbfr 194 _ (by omega)).trans ((p61bbbfr 194 _ (by omega)).trans (p40bbbfr 194 _ (by omega))))))))))) (zxu (by omega) (zxu (by omega) ((p165bbbbfr 196 _ (by omega) (by omega) (by omega) (by omega) (by omega) (by omega) (by omega) (by omega) (by omega) (by omega) (by omega) (by omega)).trans (zxu (by omega) ((p134bfr 196 _ (by omega)).trans ((zxe' (by omega)).trans (by first | (rw [f117]; exact (oPs_t (by omega)).symm) | (rw [oPs_t (by omega), oSh_no (fun w => by have w1 := w.1; omega)])))))))) (zxu (by omega) (zxu (by omega) ((p165bbbbfr 195 _ (by omega) (by omega) (by omega) (by omega) (by omega) (by omega) (by omega) (by omega) (by omega) (by omega) (by omega) (by omega)).trans (zxe' (by omega))))) (fun s hs => ⟨(zxu (by omega) (zxu (by omega) ((p165bbbbfr 196 _ (by omega) (by omega) (by omega) (by omega) (by omega) (by omega) (by omega) (by omega) (by omega) (by omega) (by omega) (by omega)).trans (zxu (by omega) ((p134bfr 196 _ (by omega)).trans (zxs (by omega) ((p67bbbfr 196 _ (by omega)).trans ((p61bbbfr 196 _ (by omega)).trans (p40bbbfr 196 _ (by omega)))))))))), (zxu (by omega) (zxu (by omega) ((p165bbbbfr 195 _ (by omega) (by omega) (by omega) (by omega) (by omega) (by omega) (by omega) (by omega) (by omega) (by omega) (by omega) (by omega)).trans (zxs (by omega) ((p134bfr 195 _ (by omega)).trans (zxu (by omega) ((p67bbbfr 195 _ (by omega)).trans ((p61bbbfr 195 _ (by omega)).trans (p40bbbfr 195 _ (by omega))))))))))⟩)
              · intro j h1 h2
                first
                | exact (p40bbbfr 194 _ (by omega)).trans (hz1 j (by omega) (by omega))
                | exact (zxu (by omega) (zxs (by omega) ((p165bbbbfr 194 _ (by omega) (by omega) (by omega) (by omega) (by omega) (by omega) (by omega) (by omega) (by omega) (by omega) (by omega) (by omega)).trans (zxu (by omega) ((p134bfr 194 _ (by omega)).trans (zxu (by omega) (((p67bbbfr 194 _ (by omega)).trans ((p61bbbfr 194 _ (by omega)).trans (p40bbbfr 194 _ (by omega)))).trans (hz1 j (by omega) (by omega)))))))))
              · first
                | (rw [oSt_f (fun w => by have w1 := w.1; have w2 := w.2; omega)]
                   exact zNJ_fr hNJ1 (fun c j h => p40bbbfr c j (by omega)) (fun c j h => rfl))
                | (rw [oSt_t ⟨by omega, by omega⟩]
                   show zNJ q (djS (oSt O m).1 (oPs O m) (oRp O (oSt O m) m)) _ _
                   rw [← f155, ← f164]
                   exact zNJ_fr p165bhNJ2 (fun c j h => zxu (by omega) (zxu (by omega) rfl)) (fun c j h => rfl))
              · first
                | (rw [oSt_f (fun w => by have w1 := w.1; have w2 := w.2; omega)]
                   exact zJO_fr hJO1 (fun c j h => p40bbbfr c j (by omega)))
                | (rw [oSt_t ⟨by omega, by omega⟩]
                   show zJO q (djS (oSt O m).1 (oPs O m) (oRp O (oSt O m) m)) _
                   rw [← f155, ← f164]
                   exact Or.inl (zJN_fr p165bbbhJN2 (fun c j h => zxu (by omega) (zxu (by omega) rfl))))
            · exact False.elim (by have w := oSh_f (O := O) (p := (opa O m).toNat) (m := m) (by omega) (by omega) (by omega); omega)
        · refine ⟨(2, (201 - (m + 1)), 0), zlt6 (by omega), [some (zvr (165)), some (zvr (k)), some (zvi ((m + 1))), none, none], ⟨rfl, rfl, rfl, rfl⟩, (m + 1), rfl, rfl, rfl, rfl, rfl, (by omega), ?_, ?_, ?_, ?_, (fun c j h0 h1 h2 h3 h4 h5 => ((p40bbbfr c j (by omega)).trans ((fr c j (by omega) (by omega) (by omega) (by omega) (by omega) (by omega)).trans rfl))), (fun c j h0 => ((frL c j (by omega)).trans rfl))⟩
          · first
            | exact zMH_n (zMH_fr hM1 (fun c j h => p40bbbfr c j (by omega))) (fun w => by have w1 := w.1; have w2 := w.2; omega) ((p40bbbfr 194 _ (by omega)).trans (hz1 m (by omega) (by omega)))
            | exact zMH_t hgs hM1 ⟨by omega, by omega⟩ rfl p134hv (zxe.trans (by omega)) (zxu (by omega) ((zxe' (by omega)).trans (by omega))) (fun j hj => (zxu (by omega) (zxs (by omega) ((p165bbbbfr 194 _ (by omega) (by omega) (by omega) (by omega) (by omega) (by omega) (by omega) (by omega) (by omega) (by omega) (by omega) (by omega)).trans (zxu (by omega) ((p134bfr 194 _ (by omega)).trans (zxu (by omega) ((p67bbbfr 194 _ (by omega)).trans ((p61bbbfr 194 _ (by omega)).trans (p40bbbfr 194 _ (by omega))))))))))) (zxu (by omega) (zxu (by omega) ((p165bbbbfr 196 _ (by omega) (by omega) (by omega) (by omega) (by omega) (by omega) (by omega) (by omega) (by omega) (by omega) (by omega) (by omega)).trans (zxu (by omega) ((p134bfr 196 _ (by omega)).trans ((zxe' (by omega)).trans (by first | (rw [f117]; exact (oPs_t (by omega)).symm) | (rw [oPs_t (by omega), oSh_no (fun w => by have w1 := w.1; omega)])))))))) (zxu (by omega) (zxu (by omega) ((p165bbbbfr 195 _ (by omega) (by omega) (by omega) (by omega) (by omega) (by omega) (by omega) (by omega) (by omega) (by omega) (by omega) (by omega)).trans (zxe' (by omega))))) (fun s hs => ⟨(zxu (by omega) (zxu (by omega) ((p165bbbbfr 196 _ (by omega) (by omega) (by omega) (by omega) (by omega) (by omega) (by omega) (by omega) (by omega) (by omega) (by omega) (by omega)).trans (zxu (by omega) ((p134bfr 196 _ (by omega)).trans (zxs (by omega) ((p67bbbfr 196 _ (by omega)).trans ((p61bbbfr 196 _ (by omega)).trans (p40bbbfr 196 _ (by omega)))))))))), (zxu (by omega) (zxu (by omega) ((p165bbbbfr 195 _ (by omega) (by omega) (by omega) (by omega) (by omega) (by omega) (by omega) (by omega) (by omega) (by omega) (by omega) (by omega)).trans (zxs (by omega) ((p134bfr 195 _ (by omega)).trans (zxu (by omega) ((p67bbbfr 195 _ (by omega)).trans ((p61bbbfr 195 _ (by omega)).trans (p40bbbfr 195 _ (by omega))))))))))⟩)
          · intro j h1 h2
            first
            | exact (p40bbbfr 194 _ (by omega)).trans (hz1 j (by omega) (by omega))
            | exact (zxu (by omega) (zxs (by omega) ((p165bbbbfr 194 _ (by omega) (by omega) (by omega) (by omega) (by omega) (by omega) (by omega) (by omega) (by omega) (by omega) (by omega) (by omega)).trans (zxu (by omega) ((p134bfr 194 _ (by omega)).trans (zxu (by omega) (((p67bbbfr 194 _ (by omega)).trans ((p61bbbfr 194 _ (by omega)).trans (p40bbbfr 194 _ (by omega)))).trans (hz1 j (by omega) (by omega)))))))))
          · first
            | (rw [oSt_f (fun w => by have w1 := w.1; have w2 := w.2; omega)]
               exact zNJ_fr hNJ1 (fun c j h => p40bbbfr c j (by omega)) (fun c j h => rfl))
            | (rw [oSt_t ⟨by omega, by omega⟩]
               show zNJ q (djS (oSt O m).1 (oPs O m) (oRp O (oSt O m) m)) _ _
               rw [← f155, ← f164]
               exact zNJ_fr p165bhNJ2 (fun c j h => zxu (by omega) (zxu (by omega) rfl)) (fun c j h => rfl))
          · first
            | (rw [oSt_f (fun w => by have w1 := w.1; have w2 := w.2; omega)]
               exact zJO_fr hJO1 (fun c j h => p40bbbfr c j (by omega)))
            | (rw [oSt_t ⟨by omega, by omega⟩]
               show zJO q (djS (oSt O m).1 (oPs O m) (oRp O (oSt O m) m)) _
               rw [← f155, ← f164]
               exact Or.inl (zJN_fr p165bbbhJN2 (fun c j h => zxu (by omega) (zxu (by omega) rfl))))
  · rintro nM lsM stM I1 L1 R1 S1 hz1 ⟨m, rfl, rfl, rfl, rfl, rfl, hm1, hm, hM1, hNJ1, hJO1, fr, frL⟩
    have hok := oDt_k hG hm
    obtain ⟨m1, m2, m3⟩ := id hM1
    have hdn : dns (oDt O m) = dns (oDs O) := congrArg (fun z => z.1) hok.2.1
    have hds : dns (oDs O) ≤ 16 := by rw [← hdn]; exact hok.1.1.1
    refine And.intro (zDX hD 0 rfl) (zrd (v := (ocn O)) ((fr k 4 (by omega) (by omega) (by omega) (by omega) (by omega) (by omega)).trans o1) ?_)
    refine And.intro ⟨(by omega), (by omega)⟩ ⟨fun h192 => ?_, fun h192 => ?_⟩
    · refine hQ _ _ (by obtain rfl : m = ocn O := (by omega); exact hNJ1) (by obtain rfl : m = ocn O := (by omega); exact hJO1) (fun c j h0 h1 h2 h3 h4 h5 => ((fr c j (by omega) (by omega) (by omega) (by omega) (by omega) (by omega)).trans rfl)) (fun c j h0 => ((frL c j (by omega)).trans rfl))
    · refine And.intro (zDX hD 0 rfl) ⟨_, sn_V_par.up (by decide), ?_⟩
      refine ⟨k, O, (m : Int), m, rfl, hS, hR, hD, (by first | exact (zOM_fr hO (fun c j h => ((fr c j (by omega) (by omega) (by omega) (by omega) (by omega) (by omega)).trans rfl)) (fun c j h => ((frL c j (by omega)).trans rfl))) | (clear hQ; grind [xu])), (by first | exact hG | (clear hQ; grind [xu])), (by omega), ?_⟩
      intro v197o I197o p197hv p197bhv2 p197bbht p197bbbfr
      refine And.intro (zDX hD 0 rfl) ⟨_, sn_V_kind.up (by decide), ?_⟩
      refine ⟨k, O, (m : Int), m, rfl, hS, hR, hD, (by first | exact (zOM_fr hO (fun c j h => ((p197bbbfr c j (by omega)).trans ((fr c j (by omega) (by omega) (by omega) (by omega) (by omega) (by omega)).trans rfl))) (fun c j h => ((frL c j (by omega)).trans rfl))) | (clear hQ; grind [xu])), (by first | exact hG | (clear hQ; grind [xu])), (by omega), ?_⟩
      intro v203o I203o p203hv p203bhv2 p203bbht p203bbbfr
      refine And.intro ⟨(by omega), (zRb rfl)⟩ ⟨fun h212 => ?_, fun h212 => ?_⟩
      · refine And.intro ⟨(by omega), (zRb rfl)⟩ ⟨fun h239 => ?_, fun h239 => ?_⟩
        · refine And.intro ⟨(by omega), (zRb rfl)⟩ ⟨fun h265 => ?_, fun h265 => ?_⟩
          · refine ⟨(1, (201 - (m + 1)), 0), zlt6 (by omega), [some (zvr (165)), some (zvr (k)), some (zvi ((m + 1))), none, none], ⟨rfl, rfl, rfl, rfl⟩, (m + 1), rfl, rfl, rfl, rfl, rfl, (by omega), (by omega), (zMH_fr hM1 (fun c j h => ((p203bbbfr c j (by omega)).trans ((p197bbbfr c j (by omega)).trans rfl)))), ?_, ?_, (fun c j h0 h1 h2 h3 h4 h5 => ((p203bbbfr c j (by omega)).trans ((p197bbbfr c j (by omega)).trans ((fr c j (by omega) (by omega) (by omega) (by omega) (by omega) (by omega)).trans rfl)))), (fun c j h0 => ((frL c j (by omega)).trans rfl))⟩
            · show zNJ q (oStp O m (oDt O m)) _ _
              first
              | (rw [oStp_W ⟨by omega, f231bb⟩]
                 have w := p232hNJ2
                 rw [f231] at w
                 exact (fun w => w) w)
              | (rw [oStp_N ⟨by omega, f258bb⟩]
                 have w := p259hNJ2
                 rw [f258] at w
                 exact (fun w => w) w)
              | (rw [oStp_T (by omega)]
                 exact (fun w => w) p271hNJ2)
              | (rw [oStp_n (by omega) (fun w1 w2 => by
                   have w4 := (oDr_i (O := O) (d := oDt O m) (j := opa O m) (s := oSh O (opa O m).toNat) hok.2.1 rfl).mp w2
                   rw [show dbs (oDt O m) = dbs (oDs O) from congrArg (fun z => z.2.1) hok.2.1] at w4
                   first
                   | omega
                   | (rw [f19_217, if_pos (by omega)] at f20_217; omega)
                   | (rw [f19_244, if_pos (by omega)] at f20_244; omega))]
                 exact (zNJ_fr hNJ1 (fun c j h => ((p203bbbfr c j (by omega)).trans ((p197bbbfr c j (by omega)).trans rfl))) (fun c j h => rfl)))
            · show zJO q (oStp O m (oDt O m)) _
              first
              | (rw [oStp_W ⟨by omega, f231bb⟩]
                 have w := p232bhJN2
                 rw [f231] at w
                 exact Or.inl w)
              | (rw [oStp_N ⟨by omega, f258bb⟩]
                 have w := p259bhJN2
                 rw [f258] at w
                 exact Or.inl w)
              | (rw [oStp_T (by omega)]
                 exact Or.inl p271bhJN2)
              | (rw [oStp_n (by omega) (fun w1 w2 => by
                   have w4 := (oDr_i (O := O) (d := oDt O m) (j := opa O m) (s := oSh O (opa O m).toNat) hok.2.1 rfl).mp w2
                   rw [show dbs (oDt O m) = dbs (oDs O) from congrArg (fun z => z.2.1) hok.2.1] at w4
                   first
                   | omega
                   | (rw [f19_217, if_pos (by omega)] at f20_217; omega)
                   | (rw [f19_244, if_pos (by omega)] at f20_244; omega))]
                 exact (zJO_fr hJO1 (fun c j h => ((p203bbbfr c j (by omega)).trans ((p197bbbfr c j (by omega)).trans rfl)))))
          · have t265 : 0 ≤ opa O m ∧ opa O m + 1 ≤ ocn O := (by have w := (oPar hG (k := m) (by omega) (by omega)).2.1; omega)
            refine And.intro (zA_165 hS) ⟨_, sn_M_ter.up (by decide), ?_⟩
            refine ⟨k, O, q, (oDt O m), (m : Int), m, rfl, hS, hR, hD, (by omega), (by first | exact (zOM_fr hO (fun c j h => ((p203bbbfr c j (by omega)).trans ((p197bbbfr c j (by omega)).trans ((fr c j (by omega) (by omega) (by omega) (by omega) (by omega) (by omega)).trans rfl)))) (fun c j h => ((frL c j (by omega)).trans rfl))) | (clear hQ; grind [xu])), (by first | exact hG | (clear hQ; grind [xu])), hdq, hDq, (by omega), (by first | exact (zNJ_fr hNJ (fun c j h => ((p203bbbfr c j (by omega)).trans ((p197bbbfr c j (by omega)).trans ((fr c j (by omega) (by omega) (by omega) (by omega) (by omega) (by omega)).trans rfl)))) (fun c j h => ((frL c j (by omega)).trans rfl))) | exact (zNJ_fr hNJ1 (fun c j h => ((p203bbbfr c j (by omega)).trans ((p197bbbfr c j (by omega)).trans rfl))) (fun c j h => rfl)) | (clear hQ; grind [xu])), hok, (zJO_t (zJO_fr hJO1 (fun c j h => ((p203bbbfr c j (by omega)).trans ((p197bbbfr c j (by omega)).trans rfl)))) (by rw [hdn]; exact oDs_1 (j := (opa O (oSy O m).toNat).toNat) (by have w := (oSy_b hG (k := m) (by omega) (by omega)).2; omega) (oSy_k hG (by omega) (by omega)))), (zMH_c (zMH_fr hM1 (fun c j h => ((p203bbbfr c j (by omega)).trans ((p197bbbfr c j (by omega)).trans rfl)))) hok.2.1), (by omega), (by omega), ?_⟩
            intro I271o L271o p271hNJ2 p271bhJN2 p271bbfr p271bbbfrL
            refine ⟨(1, (201 - (m + 1)), 0), zlt6 (by omega), [some (zvr (165)), some (zvr (k)), some (zvi ((m + 1))), none, none], ⟨rfl, rfl, rfl, rfl⟩, (m + 1), rfl, rfl, rfl, rfl, rfl, (by omega), (by omega), (zMH_fr hM1 (fun c j h => ((p271bbfr c j (by omega) (by omega)).trans ((p203bbbfr c j (by omega)).trans ((p197bbbfr c j (by omega)).trans rfl))))), ?_, ?_, (fun c j h0 h1 h2 h3 h4 h5 => ((p271bbfr c j (by omega) (by omega)).trans ((p203bbbfr c j (by omega)).trans ((p197bbbfr c j (by omega)).trans ((fr c j (by omega) (by omega) (by omega) (by omega) (by omega) (by omega)).trans rfl))))), (fun c j h0 => ((p271bbbfrL c j (by omega)).trans ((frL c j (by omega)).trans rfl)))⟩
            · show zNJ q (oStp O m (oDt O m)) _ _
              first
              | (rw [oStp_W ⟨by omega, f231bb⟩]
                 have w := p232hNJ2
                 rw [f231] at w
                 exact (fun w => w) w)
              | (rw [oStp_N ⟨by omega, f258bb⟩]
                 have w := p259hNJ2
                 rw [f258] at w
                 exact (fun w => w) w)
              | (rw [oStp_T (by omega)]
                 exact (fun w => w) p271hNJ2)
              | (rw [oStp_n (by omega) (fun w1 w2 => by
                   have w4 := (oDr_i (O := O) (d := oDt O m) (j := opa O m) (s := oSh O (opa O m).toNat) hok.2.1 rfl).mp w2
                   rw [show dbs (oDt O m) = dbs (oDs O) from congrArg (fun z => z.2.1) hok.2.1] at w4
                   first
                   | omega
                   | (rw [f19_217, if_pos (by omega)] at f20_217; omega)
                   | (rw [f19_244, if_pos (by omega)] at f20_244; omega))]
                 exact (zNJ_fr hNJ1 (fun c j h => ((p271bbfr c j (by omega) (by omega)).trans ((p203bbbfr c j (by omega)).trans ((p197bbbfr c j (by omega)).trans rfl)))) (fun c j h => ((p271bbbfrL c j (by omega)).trans rfl))))
            · show zJO q (oStp O m (oDt O m)) _
              first
              | (rw [oStp_W ⟨by omega, f231bb⟩]
                 have w := p232bhJN2
                 rw [f231] at w
                 exact Or.inl w)
              | (rw [oStp_N ⟨by omega, f258bb⟩]
                 have w := p259bhJN2
                 rw [f258] at w
                 exact Or.inl w)
              | (rw [oStp_T (by omega)]
                 exact Or.inl p271bhJN2)
              | (rw [oStp_n (by omega) (fun w1 w2 => by
                   have w4 := (oDr_i (O := O) (d := oDt O m) (j := opa O m) (s := oSh O (opa O m).toNat) hok.2.1 rfl).mp w2
                   rw [show dbs (oDt O m) = dbs (oDs O) from congrArg (fun z => z.2.1) hok.2.1] at w4
                   first
                   | omega
                   | (rw [f19_217, if_pos (by omega)] at f20_217; omega)
                   | (rw [f19_244, if_pos (by omega)] at f20_244; omega))]
                 exact (zJO_fr hJO1 (fun c j h => ((p271bbfr c j (by omega) (by omega)).trans ((p203bbbfr c j (by omega)).trans ((p197bbbfr c j (by omega)).trans rfl))))))
        · have t239 : 0 ≤ opa O m ∧ opa O m + 1 ≤ ocn O := (by have w := (oPar hG (k := m) (by omega) (by omega)).2.1; omega)
          refine And.intro (zA_165 hS) (Exists.intro _ (And.intro (zinl_ok (zT21_31 7)) (And.intro rfl ?_)))
          refine And.intro (zA_165 hS) (zrdR (v := some 194) (zR_165_8 hR) ?_)
          refine And.intro (zP_194 hS (by omega) (by omega)) (fun v5_244 e5_244 r5_244 => ?_)
          have f5_244 : v5_244 = oSh O (opa O m).toNat := (e5_244.trans ((congrArg (I203o 194) (by omega)).trans (((p203bbbfr 194 _ (by omega)).trans ((p197bbbfr 194 _ (by omega)).trans rfl)).trans (m2 (opa O m).toNat (by omega)))))
          have f5_244b : -1 ≤ v5_244 ∧ v5_244 + 1 ≤ dns (oDt O m) := (oSh_c (j := (opa O m).toNat) hok (by omega) (by omega))
          refine And.intro ⟨r5_244, (zRb rfl)⟩ ⟨fun h7_244 => ?_, fun h7_244 => ?_⟩
          · refine And.intro (Or.inl rfl) ?_
            refine And.intro (zRb rfl) (zbt rfl ?_)
            refine And.intro ⟨(by omega), (zRb rfl)⟩ ⟨fun h265 => ?_, (fun h265 => False.elim (by omega))⟩
            refine ⟨(1, (201 - (m + 1)), 0), zlt6 (by omega), [some (zvr (165)), some (zvr (k)), some (zvi ((m + 1))), none, none], ⟨rfl, rfl, rfl, rfl⟩, (m + 1), rfl, rfl, rfl, rfl, rfl, (by omega), (by omega), (zMH_fr hM1 (fun c j h => ((p203bbbfr c j (by omega)).trans ((p197bbbfr c j (by omega)).trans rfl)))), ?_, ?_, (fun c j h0 h1 h2 h3 h4 h5 => ((p203bbbfr c j (by omega)).trans ((p197bbbfr c j (by omega)).trans ((fr c j (by omega) (by omega) (by omega) (by omega) (by omega) (by omega)).trans rfl)))), (fun c j h0 => ((frL c j (by omega)).trans rfl))⟩
            · show zNJ q (oStp O m (oDt O m)) _ _
              first
              | (rw [oStp_W ⟨by omega, f231bb⟩]
                 have w := p232hNJ2
                 rw [f231] at w
                 exact (fun w => w) w)
              | (rw [oStp_N ⟨by omega, f258bb⟩]
                 have w := p259hNJ2
                 rw [f258] at w
                 exact (fun w => w) w)
              | (rw [oStp_T (by omega)]
                 exact (fun w => w) p271hNJ2)
              | (rw [oStp_n (by omega) (fun w1 w2 => by
                   have w4 := (oDr_i (O := O) (d := oDt O m) (j := opa O m) (s := oSh O (opa O m).toNat) hok.2.1 rfl).mp w2
                   rw [show dbs (oDt O m) = dbs (oDs O) from congrArg (fun z => z.2.1) hok.2.1] at w4
                   first
                   | omega
                   | (rw [f19_217, if_pos (by omega)] at f20_217; omega)
                   | (rw [f19_244, if_pos (by omega)] at f20_244; omega))]
                 exact (zNJ_fr hNJ1 (fun c j h => ((p203bbbfr c j (by omega)).trans ((p197bbbfr c j (by omega)).trans rfl))) (fun c j h => rfl)))
            · show zJO q (oStp O m (oDt O m)) _
              first
              | (rw [oStp_W ⟨by omega, f231bb⟩]
                 have w := p232bhJN2
                 rw [f231] at w
                 exact Or.inl w)
              | (rw [oStp_N ⟨by omega, f258bb⟩]
                 have w := p259bhJN2
                 rw [f258] at w
                 exact Or.inl w)
              | (rw [oStp_T (by omega)]
                 exact Or.inl p271bhJN2)
              | (rw [oStp_n (by omega) (fun w1 w2 => by
                   have w4 := (oDr_i (O := O) (d := oDt O m) (j := opa O m) (s := oSh O (opa O m).toNat) hok.2.1 rfl).mp w2
                   rw [show dbs (oDt O m) = dbs (oDs O) from congrArg (fun z => z.2.1) hok.2.1] at w4
                   first
                   | omega
                   | (rw [f19_217, if_pos (by omega)] at f20_217; omega)
                   | (rw [f19_244, if_pos (by omega)] at f20_244; omega))]
                 exact (zJO_fr hJO1 (fun c j h => ((p203bbbfr c j (by omega)).trans ((p197bbbfr c j (by omega)).trans rfl)))))
          · refine And.intro (zA_165 hS) (zrdR (v := some 195) (zR_165_9 hR) ?_)
            refine And.intro (zA_165 hS) (zrdR (v := some 194) (zR_165_8 hR) ?_)
            refine And.intro (zP_194 hS (by omega) (by omega)) (fun v19_244 e19_244 r19_244 => ?_)
            have f19_244 : v19_244 = oSh O (opa O m).toNat := (e19_244.trans ((congrArg (I203o 194) (by omega)).trans (((p203bbbfr 194 _ (by omega)).trans ((p197bbbfr 194 _ (by omega)).trans rfl)).trans (m2 (opa O m).toNat (by omega)))))
            have f19_244b : -1 ≤ v19_244 ∧ v19_244 + 1 ≤ dns (oDt O m) := (oSh_c (j := (opa O m).toNat) hok (by omega) (by omega))
            refine And.intro (zP_195 hS (by omega) (by omega)) (fun v20_244 e20_244 r20_244 => ?_)
            have f20_244 : v20_244 = if dbs (oDs O) v19_244.toNat = v19_244.toNat then -1 else (dbs (oDs O) v19_244.toNat : Int) := (e20_244.trans (((p203bbbfr 195 _ (by omega)).trans ((p197bbbfr 195 _ (by omega)).trans rfl)).trans (m3 _ (by omega)).2))
            refine And.intro ⟨r20_244, (zRb rfl)⟩ ⟨fun h22_244 => ?_, fun h22_244 => ?_⟩
            · refine And.intro (Or.inl rfl) ?_
              refine And.intro (zRb rfl) (zbt rfl ?_)
              refine And.intro ⟨(by omega), (zRb rfl)⟩ ⟨fun h265 => ?_, (fun h265 => False.elim (by omega))⟩
              refine ⟨(1, (201 - (m + 1)), 0), zlt6 (by omega), [some (zvr (165)), some (zvr (k)), some (zvi ((m + 1))), none, none], ⟨rfl, rfl, rfl, rfl⟩, (m + 1), rfl, rfl, rfl, rfl, rfl, (by omega), (by omega), (zMH_fr hM1 (fun c j h => ((p203bbbfr c j (by omega)).trans ((p197bbbfr c j (by omega)).trans rfl)))), ?_, ?_, (fun c j h0 h1 h2 h3 h4 h5 => ((p203bbbfr c j (by omega)).trans ((p197bbbfr c j (by omega)).trans ((fr c j (by omega) (by omega) (by omega) (by omega) (by omega) (by omega)).trans rfl)))), (fun c j h0 => ((frL c j (by omega)).trans rfl))⟩
              · show zNJ q (oStp O m (oDt O m)) _ _
                first
                | (rw [oStp_W ⟨by omega, f231bb⟩]
                   have w := p232hNJ2
                   rw [f231] at w
                   exact (fun w => w) w)
                | (rw [oStp_N ⟨by omega, f258bb⟩]
                   have w := p259hNJ2
                   rw [f258] at w
                   exact (fun w => w) w)
                | (rw [oStp_T (by omega)]
                   exact (fun w => w) p271hNJ2)
                | (rw [oStp_n (by omega) (fun w1 w2 => by
                     have w4 := (oDr_i (O := O) (d := oDt O m) (j := opa O m) (s := oSh O (opa O m).toNat) hok.2.1 rfl).mp w2
                     rw [show dbs (oDt O m) = dbs (oDs O) from congrArg (fun z => z.2.1) hok.2.1] at w4
                     first
                     | omega
                     | (rw [f19_217, if_pos (by omega)] at f20_217; omega)
                     | (rw [f19_244, if_pos (by omega)] at f20_244; omega))]
                   exact (zNJ_fr hNJ1 (fun c j h => ((p203bbbfr c j (by omega)).trans ((p197bbbfr c j (by omega)).trans rfl))) (fun c j h => rfl)))
              · show zJO q (oStp O m (oDt O m)) _
                first
                | (rw [oStp_W ⟨by omega, f231bb⟩]
                   have w := p232bhJN2
                   rw [f231] at w
                   exact Or.inl w)
                | (rw [oStp_N ⟨by omega, f258bb⟩]
                   have w := p259bhJN2
                   rw [f258] at w
                   exact Or.inl w)
                | (rw [oStp_T (by omega)]
                   exact Or.inl p271bhJN2)
                | (rw [oStp_n (by omega) (fun w1 w2 => by
                     have w4 := (oDr_i (O := O) (d := oDt O m) (j := opa O m) (s := oSh O (opa O m).toNat) hok.2.1 rfl).mp w2
                     rw [show dbs (oDt O m) = dbs (oDs O) from congrArg (fun z => z.2.1) hok.2.1] at w4
                     first
                     | omega
                     | (rw [f19_217, if_pos (by omega)] at f20_217; omega)
                     | (rw [f19_244, if_pos (by omega)] at f20_244; omega))]
                   exact (zJO_fr hJO1 (fun c j h => ((p203bbbfr c j (by omega)).trans ((p197bbbfr c j (by omega)).trans rfl)))))
            · refine And.intro (Or.inr rfl) ?_
              refine And.intro (zRb rfl) (zbf rfl ?_)
              refine And.intro (zA_165 hS) (zrdR (v := some 194) (zR_165_8 hR) ?_)
              refine And.intro (zP_194 hS (by omega) (by omega)) (fun v258 e258 r258 => ?_)
              have f258 : v258 = oSh O (opa O m).toNat := (e258.trans ((congrArg (I203o 194) (by omega)).trans (((p203bbbfr 194 _ (by omega)).trans ((p197bbbfr 194 _ (by omega)).trans rfl)).trans (m2 (opa O m).toNat (by omega)))))
              have f258b : -1 ≤ v258 ∧ v258 + 1 ≤ dns (oDt O m) := (oSh_c (j := (opa O m).toNat) hok (by omega) (by omega))
              have f258bb : oDr O (opa O m) := (by refine (oDr_i (j := opa O m) (s := oSh O (opa O m).toNat) hok.2.1 rfl).mpr ?_; rw [show dbs (oDt O m) = dbs (oDs O) from congrArg (fun z => z.2.1) hok.2.1, ← f19_244]; by_cases e : dbs (oDs O) v19_244.toNat = v19_244.toNat; exact ⟨by omega, by omega⟩; (rw [if_neg e] at f20_244; omega))
              refine And.intro (zA_165 hS) ⟨_, sn_M_not.up (by decide), ?_⟩
              refine ⟨k, O, q, (oDt O m), (m : Int), m, (v258 : Int), rfl, hS, hR, hD, (by omega), (by first | exact (zOM_fr hO (fun c j h => ((p203bbbfr c j (by omega)).trans ((p197bbbfr c j (by omega)).trans ((fr c j (by omega) (by omega) (by omega) (by omega) (by omega) (by omega)).trans rfl)))) (fun c j h => ((frL c j (by omega)).trans rfl))) | (clear hQ; grind [xu])), (by first | exact hG | (clear hQ; grind [xu])), hdq, hDq, (by omega), (by first | exact (zNJ_fr hNJ (fun c j h => ((p203bbbfr c j (by omega)).trans ((p197bbbfr c j (by omega)).trans ((fr c j (by omega) (by omega) (by omega) (by omega) (by omega) (by omega)).trans rfl)))) (fun c j h => ((frL c j (by omega)).trans rfl))) | exact (zNJ_fr hNJ1 (fun c j h => ((p203bbbfr c j (by omega)).trans ((p197bbbfr c j (by omega)).trans rfl))) (fun c j h => rfl)) | (clear hQ; grind [xu])), hok, (zJO_t (zJO_fr hJO1 (fun c j h => ((p203bbbfr c j (by omega)).trans ((p197bbbfr c j (by omega)).trans rfl)))) (by omega)), (zMH_c (zMH_fr hM1 (fun c j h => ((p203bbbfr c j (by omega)).trans ((p197bbbfr c j (by omega)).trans rfl)))) hok.2.1), (by omega), (by omega), (by have w4 := (oDr_i (O := O) (d := oDt O m) (j := opa O m) (s := oSh O (opa O m).toNat) hok.2.1 rfl).mp f258bb; rw [← f258] at w4; exact ⟨by omega, by omega, w4.2⟩), ?_⟩
              intro I259o L259o p259hNJ2 p259bhJN2 p259bbfr p259bbbfrL
              refine And.intro ⟨(by omega), (zRb rfl)⟩ ⟨fun h265 => ?_, (fun h265 => False.elim (by omega))⟩
              refine ⟨(1, (201 - (m + 1)), 0), zlt6 (by omega), [some (zvr (165)), some (zvr (k)), some (zvi ((m + 1))), none, none], ⟨rfl, rfl, rfl, rfl⟩, (m + 1), rfl, rfl, rfl, rfl, rfl, (by omega), (by omega), (zMH_fr hM1 (fun c j h => ((p259bbfr c j (by omega) (by omega)).trans ((p203bbbfr c j (by omega)).trans ((p197bbbfr c j (by omega)).trans rfl))))), ?_, ?_, (fun c j h0 h1 h2 h3 h4 h5 => ((p259bbfr c j (by omega) (by omega)).trans ((p203bbbfr c j (by omega)).trans ((p197bbbfr c j (by omega)).trans ((fr c j (by omega) (by omega) (by omega) (by omega) (by omega) (by omega)).trans rfl))))), (fun c j h0 => ((p259bbbfrL c j (by omega)).trans ((frL c j (by omega)).trans rfl)))⟩
              · show zNJ q (oStp O m (oDt O m)) _ _
                first
                | (rw [oStp_W ⟨by omega, f231bb⟩]
                   have w := p232hNJ2
                   rw [f231] at w
                   exact (fun w => w) w)
                | (rw [oStp_N ⟨by omega, f258bb⟩]
                   have w := p259hNJ2
                   rw [f258] at w
                   exact (fun w => w) w)
                | (rw [oStp_T (by omega)]
                   exact (fun w => w) p271hNJ2)
                | (rw [oStp_n (by omega) (fun w1 w2 => by
                     have w4 := (oDr_i (O := O) (d := oDt O m) (j := opa O m) (s := oSh O (opa O m).toNat) hok.2.1 rfl).mp w2
                     rw [show dbs (oDt O m) = dbs (oDs O) from congrArg (fun z => z.2.1) hok.2.1] at w4
                     first
                     | omega
                     | (rw [f19_217, if_pos (by omega)] at f20_217; omega)
                     | (rw [f19_244, if_pos (by omega)] at f20_244; omega))]
                   exact (zNJ_fr hNJ1 (fun c j h => ((p259bbfr c j (by omega) (by omega)).trans ((p203bbbfr c j (by omega)).trans ((p197bbbfr c j (by omega)).trans rfl)))) (fun c j h => ((p259bbbfrL c j (by omega)).trans rfl))))
              · show zJO q (oStp O m (oDt O m)) _
                first
                | (rw [oStp_W ⟨by omega, f231bb⟩]
                   have w := p232bhJN2
                   rw [f231] at w
                   exact Or.inl w)
                | (rw [oStp_N ⟨by omega, f258bb⟩]
                   have w := p259bhJN2
                   rw [f258] at w
                   exact Or.inl w)
                | (rw [oStp_T (by omega)]
                   exact Or.inl p271bhJN2)
                | (rw [oStp_n (by omega) (fun w1 w2 => by
                     have w4 := (oDr_i (O := O) (d := oDt O m) (j := opa O m) (s := oSh O (opa O m).toNat) hok.2.1 rfl).mp w2
                     rw [show dbs (oDt O m) = dbs (oDs O) from congrArg (fun z => z.2.1) hok.2.1] at w4
                     first
                     | omega
                     | (rw [f19_217, if_pos (by omega)] at f20_217; omega)
                     | (rw [f19_244, if_pos (by omega)] at f20_244; omega))]
                   exact (zJO_fr hJO1 (fun c j h => ((p259bbfr c j (by omega) (by omega)).trans ((p203bbbfr c j (by omega)).trans ((p197bbbfr c j (by omega)).trans rfl))))))
      · have t212 : 0 ≤ opa O m ∧ opa O m + 1 ≤ ocn O := (by have w := (oPar hG (k := m) (by omega) (by omega)).2.1; omega)
        refine And.intro (zA_165 hS) (Exists.intro _ (And.intro (zinl_ok (zT21_31 7)) (And.intro rfl ?_)))
        refine And.intro (zA_165 hS) (zrdR (v := some 194) (zR_165_8 hR) ?_)
        refine And.intro (zP_194 hS (by omega) (by omega)) (fun v5_217 e5_217 r5_217 => ?_)
        have f5_217 : v5_217 = oSh O (opa O m).toNat := (e5_217.trans ((congrArg (I203o 194) (by omega)).trans (((p203bbbfr 194 _ (by omega)).trans ((p197bbbfr 194 _ (by omega)).trans rfl)).trans (m2 (opa O m).toNat (by omega)))))
        have f5_217b : -1 ≤ v5_217 ∧ v5_217 + 1 ≤ dns (oDt O m) := (oSh_c (j := (opa O m).toNat) hok (by omega) (by omega))
        refine And.intro ⟨r5_217, (zRb rfl)⟩ ⟨fun h7_217 => ?_, fun h7_217 => ?_⟩
        · refine And.intro (Or.inl rfl) ?_
          refine And.intro (zRb rfl) (zbt rfl ?_)
          refine And.intro ⟨(by omega), (zRb rfl)⟩ ⟨fun h239 => ?_, (fun h239 => False.elim (by omega))⟩
          refine And.intro ⟨(by omega), (zRb rfl)⟩ ⟨fun h265 => ?_, (fun h265 => False.elim (by omega))⟩
          refine ⟨(1, (201 - (m + 1)), 0), zlt6 (by omega), [some (zvr (165)), some (zvr (k)), some (zvi ((m + 1))), none, none], ⟨rfl, rfl, rfl, rfl⟩, (m + 1), rfl, rfl, rfl, rfl, rfl, (by omega), (by omega), (zMH_fr hM1 (fun c j h => ((p203bbbfr c j (by omega)).trans ((p197bbbfr c j (by omega)).trans rfl)))), ?_, ?_, (fun c j h0 h1 h2 h3 h4 h5 => ((p203bbbfr c j (by omega)).trans ((p197bbbfr c j (by omega)).trans ((fr c j (by omega) (by omega) (by omega) (by omega) (by omega) (by omega)).trans rfl)))), (fun c j h0 => ((frL c j (by omega)).trans rfl))⟩
          · show zNJ q (oStp O m (oDt O m)) _ _
            first
            | (rw [oStp_W ⟨by omega, f231bb⟩]
               have w := p232hNJ2
               rw [f231] at w
               exact (fun w => w) w)
            | (rw [oStp_N ⟨by omega, f258bb⟩]
               have w := p259hNJ2
               rw [f258] at w
               exact (fun w => w) w)
            | (rw [oStp_T (by omega)]
               exact (fun w => w) p271hNJ2)
            | (rw [oStp_n (by omega) (fun w1 w2 => by
                 have w4 := (oDr_i (O := O) (d := oDt O m) (j := opa O m) (s := oSh O (opa O m).toNat) hok.2.1 rfl).mp w2
                 rw [show dbs (oDt O m) = dbs (oDs O) from congrArg (fun z => z.2.1) hok.2.1] at w4
                 first
                 | omega
                 | (rw [f19_217, if_pos (by omega)] at f20_217; omega)
                 | (rw [f19_244, if_pos (by omega)] at f20_244; omega))]
               exact (zNJ_fr hNJ1 (fun c j h => ((p203bbbfr c j (by omega)).trans ((p197bbbfr c j (by omega)).trans rfl))) (fun c j h => rfl)))
          · show zJO q (oStp O m (oDt O m)) _
            first
            | (rw [oStp_W ⟨by omega, f231bb⟩]
               have w := p232bhJN2
               rw [f231] at w
               exact Or.inl w)
            | (rw [oStp_N ⟨by omega, f258bb⟩]
               have w := p259bhJN2
               rw [f258] at w
               exact Or.inl w)
            | (rw [oStp_T (by omega)]
               exact Or.inl p271bhJN2)
            | (rw [oStp_n (by omega) (fun w1 w2 => by
                 have w4 := (oDr_i (O := O) (d := oDt O m) (j := opa O m) (s := oSh O (opa O m).toNat) hok.2.1 rfl).mp w2
                 rw [show dbs (oDt O m) = dbs (oDs O) from congrArg (fun z => z.2.1) hok.2.1] at w4
                 first
                 | omega
                 | (rw [f19_217, if_pos (by omega)] at f20_217; omega)
                 | (rw [f19_244, if_pos (by omega)] at f20_244; omega))]
               exact (zJO_fr hJO1 (fun c j h => ((p203bbbfr c j (by omega)).trans ((p197bbbfr c j (by omega)).trans rfl)))))
        · refine And.intro (zA_165 hS) (zrdR (v := some 195) (zR_165_9 hR) ?_)
          refine And.intro (zA_165 hS) (zrdR (v := some 194) (zR_165_8 hR) ?_)
          refine And.intro (zP_194 hS (by omega) (by omega)) (fun v19_217 e19_217 r19_217 => ?_)
          have f19_217 : v19_217 = oSh O (opa O m).toNat := (e19_217.trans ((congrArg (I203o 194) (by omega)).trans (((p203bbbfr 194 _ (by omega)).trans ((p197bbbfr 194 _ (by omega)).trans rfl)).trans (m2 (opa O m).toNat (by omega)))))
          have f19_217b : -1 ≤ v19_217 ∧ v19_217 + 1 ≤ dns (oDt O m) := (oSh_c (j := (opa O m).toNat) hok (by omega) (by omega))
          refine And.intro (zP_195 hS (by omega) (by omega)) (fun v20_217 e20_217 r20_217 => ?_)
          have f20_217 : v20_217 = if dbs (oDs O) v19_217.toNat = v19_217.toNat then -1 else (dbs (oDs O) v19_217.toNat : Int) := (e20_217.trans (((p203bbbfr 195 _ (by omega)).trans ((p197bbbfr 195 _ (by omega)).trans rfl)).trans (m3 _ (by omega)).2))
          refine And.intro ⟨r20_217, (zRb rfl)⟩ ⟨fun h22_217 => ?_, fun h22_217 => ?_⟩
          · refine And.intro (Or.inl rfl) ?_
            refine And.intro (zRb rfl) (zbt rfl ?_)
            refine And.intro ⟨(by omega), (zRb rfl)⟩ ⟨fun h239 => ?_, (fun h239 => False.elim (by omega))⟩
            refine And.intro ⟨(by omega), (zRb rfl)⟩ ⟨fun h265 => ?_, (fun h265 => False.elim (by omega))⟩
            refine ⟨(1, (201 - (m + 1)), 0), zlt6 (by omega), [some (zvr (165)), some (zvr (k)), some (zvi ((m + 1))), none, none], ⟨rfl, rfl, rfl, rfl⟩, (m + 1), rfl, rfl, rfl, rfl, rfl, (by omega), (by omega), (zMH_fr hM1 (fun c j h => ((p203bbbfr c j (by omega)).trans ((p197bbbfr c j (by omega)).trans rfl)))), ?_, ?_, (fun c j h0 h1 h2 h3 h4 h5 => ((p203bbbfr c j (by omega)).trans ((p197bbbfr c j (by omega)).trans ((fr c j (by omega) (by omega) (by omega) (by omega) (by omega) (by omega)).trans rfl)))), (fun c j h0 => ((frL c j (by omega)).trans rfl))⟩
            · show zNJ q (oStp O m (oDt O m)) _ _
              first
              | (rw [oStp_W ⟨by omega, f231bb⟩]
                 have w := p232hNJ2
                 rw [f231] at w
                 exact (fun w => w) w)
              | (rw [oStp_N ⟨by omega, f258bb⟩]
                 have w := p259hNJ2
                 rw [f258] at w
                 exact (fun w => w) w)
              | (rw [oStp_T (by omega)]
                 exact (fun w => w) p271hNJ2)
              | (rw [oStp_n (by omega) (fun w1 w2 => by
                   have w4 := (oDr_i (O := O) (d := oDt O m) (j := opa O m) (s := oSh O (opa O m).toNat) hok.2.1 rfl).mp w2
                   rw [show dbs (oDt O m) = dbs (oDs O) from congrArg (fun z => z.2.1) hok.2.1] at w4
                   first
                   | omega
                   | (rw [f19_217, if_pos (by omega)] at f20_217; omega)
                   | (rw [f19_244, if_pos (by omega)] at f20_244; omega))]
                 exact (zNJ_fr hNJ1 (fun c j h => ((p203bbbfr c j (by omega)).trans ((p197bbbfr c j (by omega)).trans rfl))) (fun c j h => rfl)))
            · show zJO q (oStp O m (oDt O m)) _
              first
              | (rw [oStp_W ⟨by omega, f231bb⟩]
                 have w := p232bhJN2
                 rw [f231] at w
                 exact Or.inl w)
              | (rw [oStp_N ⟨by omega, f258bb⟩]
                 have w := p259bhJN2
                 rw [f258] at w
                 exact Or.inl w)
              | (rw [oStp_T (by omega)]
                 exact Or.inl p271bhJN2)
              | (rw [oStp_n (by omega) (fun w1 w2 => by
                   have w4 := (oDr_i (O := O) (d := oDt O m) (j := opa O m) (s := oSh O (opa O m).toNat) hok.2.1 rfl).mp w2
                   rw [show dbs (oDt O m) = dbs (oDs O) from congrArg (fun z => z.2.1) hok.2.1] at w4
                   first
                   | omega
                   | (rw [f19_217, if_pos (by omega)] at f20_217; omega)
                   | (rw [f19_244, if_pos (by omega)] at f20_244; omega))]
                 exact (zJO_fr hJO1 (fun c j h => ((p203bbbfr c j (by omega)).trans ((p197bbbfr c j (by omega)).trans rfl)))))
          · refine And.intro (Or.inr rfl) ?_
            refine And.intro (zRb rfl) (zbf rfl ?_)
            refine And.intro (zA_165 hS) (zrdR (v := some 194) (zR_165_8 hR) ?_)
            refine And.intro (zP_194 hS (by omega) (by omega)) (fun v231 e231 r231 => ?_)
            have f231 : v231 = oSh O (opa O m).toNat := (e231.trans ((congrArg (I203o 194) (by omega)).trans (((p203bbbfr 194 _ (by omega)).trans ((p197bbbfr 194 _ (by omega)).trans rfl)).trans (m2 (opa O m).toNat (by omega)))))
            have f231b : -1 ≤ v231 ∧ v231 + 1 ≤ dns (oDt O m) := (oSh_c (j := (opa O m).toNat) hok (by omega) (by omega))
            have f231bb : oDr O (opa O m) := (by refine (oDr_i (j := opa O m) (s := oSh O (opa O m).toNat) hok.2.1 rfl).mpr ?_; rw [show dbs (oDt O m) = dbs (oDs O) from congrArg (fun z => z.2.1) hok.2.1, ← f19_217]; by_cases e : dbs (oDs O) v19_217.toNat = v19_217.toNat; exact ⟨by omega, by omega⟩; (rw [if_neg e] at f20_217; omega))
            refine And.intro (zA_165 hS) ⟨_, sn_M_wir.up (by decide), ?_⟩
            refine ⟨k, O, q, (oDt O m), (m : Int), m, (v231 : Int), rfl, hS, hR, hD, (by omega), (by first | exact (zOM_fr hO (fun c j h => ((p203bbbfr c j (by omega)).trans ((p197bbbfr c j (by omega)).trans ((fr c j (by omega) (by omega) (by omega) (by omega) (by omega) (by omega)).trans rfl)))) (fun c j h => ((frL c j (by omega)).trans rfl))) | (clear hQ; grind [xu])), (by first | exact hG | (clear hQ; grind [xu])), hdq, hDq, (by omega), (by first | exact (zNJ_fr hNJ (fun c j h => ((p203bbbfr c j (by omega)).trans ((p197bbbfr c j (by omega)).trans ((fr c j (by omega) (by omega) (by omega) (by omega) (by omega) (by omega)).trans rfl)))) (fun c j h => ((frL c j (by omega)).trans rfl))) | exact (zNJ_fr hNJ1 (fun c j h => ((p203bbbfr c j (by omega)).trans ((p197bbbfr c j (by omega)).trans rfl))) (fun c j h => rfl)) | (clear hQ; grind [xu])), hok, (zJO_t (zJO_fr hJO1 (fun c j h => ((p203bbbfr c j (by omega)).trans ((p197bbbfr c j (by omega)).trans rfl)))) (by omega)), (by omega), (by omega), (by have w4 := (oDr_i (O := O) (d := oDt O m) (j := opa O m) (s := oSh O (opa O m).toNat) hok.2.1 rfl).mp f231bb; rw [← f231] at w4; exact ⟨by omega, by omega, w4.2⟩), ?_⟩
            intro I232o L232o p232hNJ2 p232bhJN2 p232bbfr p232bbbfrL
            refine And.intro ⟨(by omega), (zRb rfl)⟩ ⟨fun h239 => ?_, (fun h239 => False.elim (by omega))⟩
            refine And.intro ⟨(by omega), (zRb rfl)⟩ ⟨fun h265 => ?_, (fun h265 => False.elim (by omega))⟩
            refine ⟨(1, (201 - (m + 1)), 0), zlt6 (by omega), [some (zvr (165)), some (zvr (k)), some (zvi ((m + 1))), none, none], ⟨rfl, rfl, rfl, rfl⟩, (m + 1), rfl, rfl, rfl, rfl, rfl, (by omega), (by omega), (zMH_fr hM1 (fun c j h => ((p232bbfr c j (by omega) (by omega)).trans ((p203bbbfr c j (by omega)).trans ((p197bbbfr c j (by omega)).trans rfl))))), ?_, ?_, (fun c j h0 h1 h2 h3 h4 h5 => ((p232bbfr c j (by omega) (by omega)).trans ((p203bbbfr c j (by omega)).trans ((p197bbbfr c j (by omega)).trans ((fr c j (by omega) (by omega) (by omega) (by omega) (by omega) (by omega)).trans rfl))))), (fun c j h0 => ((p232bbbfrL c j (by omega)).trans ((frL c j (by omega)).trans rfl)))⟩
            · show zNJ q (oStp O m (oDt O m)) _ _
              first
              | (rw [oStp_W ⟨by omega, f231bb⟩]
                 have w := p232hNJ2
                 rw [f231] at w
                 exact (fun w => w) w)
              | (rw [oStp_N ⟨by omega, f258bb⟩]
                 have w := p259hNJ2
                 rw [f258] at w
                 exact (fun w => w) w)
              | (rw [oStp_T (by omega)]
                 exact (fun w => w) p271hNJ2)
              | (rw [oStp_n (by omega) (fun w1 w2 => by
                   have w4 := (oDr_i (O := O) (d := oDt O m) (j := opa O m) (s := oSh O (opa O m).toNat) hok.2.1 rfl).mp w2
                   rw [show dbs (oDt O m) = dbs (oDs O) from congrArg (fun z => z.2.1) hok.2.1] at w4
                   first
                   | omega
                   | (rw [f19_217, if_pos (by omega)] at f20_217; omega)
                   | (rw [f19_244, if_pos (by omega)] at f20_244; omega))]
                 exact (zNJ_fr hNJ1 (fun c j h => ((p232bbfr c j (by omega) (by omega)).trans ((p203bbbfr c j (by omega)).trans ((p197bbbfr c j (by omega)).trans rfl)))) (fun c j h => ((p232bbbfrL c j (by omega)).trans rfl))))
            · show zJO q (oStp O m (oDt O m)) _
              first
              | (rw [oStp_W ⟨by omega, f231bb⟩]
                 have w := p232bhJN2
                 rw [f231] at w
                 exact Or.inl w)
              | (rw [oStp_N ⟨by omega, f258bb⟩]
                 have w := p259bhJN2
                 rw [f258] at w
                 exact Or.inl w)
              | (rw [oStp_T (by omega)]
                 exact Or.inl p271bhJN2)
              | (rw [oStp_n (by omega) (fun w1 w2 => by
                   have w4 := (oDr_i (O := O) (d := oDt O m) (j := opa O m) (s := oSh O (opa O m).toNat) hok.2.1 rfl).mp w2
                   rw [show dbs (oDt O m) = dbs (oDs O) from congrArg (fun z => z.2.1) hok.2.1] at w4
                   first
                   | omega
                   | (rw [f19_217, if_pos (by omega)] at f20_217; omega)
                   | (rw [f19_244, if_pos (by omega)] at f20_244; omega))]
                 exact (zJO_fr hJO1 (fun c j h => ((p232bbfr c j (by omega) (by omega)).trans ((p203bbbfr c j (by omega)).trans ((p197bbbfr c j (by omega)).trans rfl)))))))
