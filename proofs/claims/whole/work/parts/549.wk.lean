/-! wk -/
def T_V_own : ZT := fun args I L R S Q => ∃ (k : Nat) (w : List Int) (O : OoS) (j : Int) (j_ : Nat) (fm : Int), args = [zvr k, zvi j] ∧ (zDy zT20 zF20 k R S) ∧ (zPO k w I) ∧ (zOM k O I L) ∧ (oGd O) ∧ (oNg O) ∧ (zOU k O I) ∧ (j = j_ ∧ j_ < ocn O) ∧ (I k 1 = fm) ∧ (0 ≤ fm ∧ fm ≤ 1) ∧ (w.length + 600 ≤ 110000 ∧ w.length + otl O j_ 0 ≤ 110000) ∧ ∀ (I' : ZI), (zPO k (w ++ ((if fm = 0 ∧ okd O j_ ≠ 9 then [40] else []) ++ wOw O j_)) I') → (∀ c j : Nat, ¬ (c = k ∧ j = 26) → ¬ c = k + 12 → I' c j = I c j) → Q none I' L R S
theorem sn_V_own : ZSnd 4 20 45 T_V_own := by
  rintro d hd args I L R S Q hz ⟨k, w, O, j, j_, fm, rfl, hD, hP, hO, hG, hN, hU, hj, hfm, hfm2, hl, hQ⟩
  by_cases h9 : okd O j_ = 9
  · refine sn_V_own9 d hd _ I L R S Q hz ⟨k, w, O, j, j_, rfl, hD, hP, hO, hG, hN, hU, hj, h9, hl.2, fun I' h1 h2 => hQ I' ?_ h2⟩
    rw [if_neg (fun q => q.2 h9), wOw_9 h9, List.nil_append]
    exact h1
  · have hb := (hG.2.1 j_ hj.2).1
    refine sn_V_own8 d hd _ I L R S Q hz ⟨k, w, O, j, j_, (okd O j_).toNat, fm, rfl, hD, hP, hO, hG, hN, hU, hj, by omega, by omega, hfm, hfm2, hl.1, fun I' h1 h2 => hQ I' ?_ h2⟩
    rw [wOw_n h9, ← List.append_assoc]
    by_cases e : fm = 0
    · rw [if_pos ⟨e, h9⟩]
      rw [if_pos e] at h1
      exact h1
    · rw [if_neg (fun q => e q.1)]
      rw [if_neg e] at h1
      exact h1
def T_V_wal : ZT := fun args I L R S Q => ∃ (k : Nat) (O : OoS) (dp : Nat → Nat) (fm : Int), args = [zvr k] ∧ (zDy zT20 zF20 k R S) ∧ (zOM k O I L) ∧ (oGd O) ∧ (oNg O) ∧ (zOU k O I) ∧ (I k 1 = fm) ∧ (0 ≤ fm ∧ fm ≤ 1) ∧ (0 < ocn O) ∧ (wPre O dp) ∧ (∀ m x, m ≤ ocn O → x ≤ 200 → (wWr O dp fm m x).length + 2900 ≤ 110000) ∧ (∀ j, j < ocn O → okd O j = 9 → otl O j 0 ≤ 2000) ∧ ∀ (I' : ZI), (zPO k (wPg O dp fm) I') → (I' k 27 = 0) → (∀ c j : Nat, ¬ (c = k ∧ j = 26) → ¬ (c = k ∧ j = 27) → ¬ c = k + 12 → I' c j = I c j) → Q none I' L R S
theorem sn_V_wal : ZSnd 5 20 56 T_V_wal := ZSnd.loops (zT20_56 4) (by
  rintro args I L R S Q hz ⟨k, O, dp, fm, rfl, hD, hO, hG, hN, hU, hfm, hfm2, hn, hp, hW, h9, hQ⟩
  have hk40 := hD.1
  obtain ⟨o1, o2, o3, o4⟩ := id hO
  obtain ⟨g1, g2, g3, g4, g5⟩ := id hG
  have hN0 := hN
  have hkd := fun a h => (o2 a h).1
  have hpa := fun a h => (o2 a h).2
  have g2b := fun a h => (g2 a h).2.1
  refine ⟨[16], fun nM tM lsM stM I1 L1 R1 S1 => match tM with
      | 16 => ∃ (u : Int) (t : Int) (m : Nat) (f : Nat) (x : Nat), nM = ((ocn O - m), (u + 1).toNat, 0) ∧ lsM = [some (zvr (k)), some (zvi (u)), some (zvi (t)), some (zvi (f)), none] ∧ stM = [] ∧ L1 = L ∧ R1 = R ∧ S1 = S ∧ (wCv O dp u t m f x) ∧ (zPO k (wWr O dp fm m x) I1) ∧ (∀ c j : Nat, ¬ (c = k ∧ j = 26) → ¬ c = k + 12 → I1 c j = I c j)
      | _ => False, rfl, ?_, ⟨?_, True.intro⟩⟩
  · refine And.intro (zDX hD 0 rfl) ⟨_, (zWi (zRb rfl)), ?_⟩
    refine And.intro (zDX hD 0 rfl) ⟨_, sn_V_own.up (by decide), ?_⟩
    refine ⟨k, [], O, (0 : Int), 0, fm, rfl, hD, ⟨zxe.trans rfl, fun i hi => absurd hi (Nat.not_lt_zero i)⟩, (by first | exact (zOM_fr hO (fun c j h => (zxcj (by omega) rfl)) (fun c j h => rfl)) | (clear hQ; grind [xu])), (by first | exact hG | (clear hQ; grind [xu])), (by first | exact hN | (clear hQ; grind [xu])), (by first | exact (zOU_fr hU (fun c j h => (zxcj (by omega) rfl))) | (clear hQ; grind [xu])), (by omega), (zxs (by decide) hfm), (by omega), ⟨(by show 0 + 600 ≤ 110000; omega), (by have z := (g4 0 0 (by omega) (by omega)).1; show 0 + otl O 0 0 ≤ 110000; omega)⟩, ?_⟩
    intro I11o p11hP2 p11bfr
    refine ⟨((ocn O - (1 : Nat)), ((0 : Int) + 1).toNat, 0), [some (zvr (k)), some (zvi ((0 : Int))), some (zvi ((0 : Int))), some (zvi ((1 : Nat))), none], ⟨rfl, rfl, rfl, rfl, rfl⟩, 0, 0, 1, 1, 0, rfl, rfl, rfl, rfl, rfl, rfl, (wCv_0 hp (by omega)), ?_, (fun c j h0 h1 => ((p11bfr c j h0 h1).trans (zxcj h0 rfl)))⟩
    · rw [wWr_0 hp.1]
      exact p11hP2
  · rintro nM lsM stM I1 L1 R1 S1 hz1 ⟨u, t, m, f, x, rfl, rfl, rfl, rfl, rfl, rfl, hC, hP1, fr⟩
    have hCb := wCv_b g1 hp hC
    have hkd1 := hkd u.toNat
    have hpa1 := hpa u.toNat
    have g2u := g2b u.toNat
    refine And.intro ⟨(by omega), (zRb rfl)⟩ ⟨fun h18 => ?_, fun h18 => ?_⟩
    · refine And.intro (zDX hD 0 rfl) ⟨_, sn_V_say.up (by decide), ?_⟩
      refine ⟨k, (wWr O dp fm m x), (10 : Int), rfl, hD, hP1, (by have z := hW m x (by omega) (by omega); first | omega | (simp only [List.length_append, List.length_cons, List.length_nil]; omega)), (by omega), ?_⟩
      intro I110o p110hP2 p110bfr
      refine And.intro ⟨(zDX hD 0 rfl), (Or.inl rfl)⟩ ?_
      refine hQ _ ?_ zxe (fun c j h0 h1 h2 => (zxcj h1 ((p110bfr c j h0 h2).trans ((fr c j h0 h2).trans rfl))))
      · have e0 : u = -1 := by omega
        rw [e0] at hC
        have z := wCv_e hC
        have e : wWr O dp fm m x = wWr O dp fm (ocn O) (wLo O dp (ocn O)) := by rw [z.1, z.2]
        rw [← wWr_e (O := O) (dp := dp) (fm := fm) hn, ← e]
        exact zPO_fr p110hP2 (fun c j h => zxcj (by omega) rfl)
    · refine And.intro (zDX hD 0 rfl) ⟨_, sn_V_chf.up (by decide), ?_⟩
      refine ⟨k, O, (u : Int), (f : Int), f, rfl, hD, (by first | exact (zOM_fr hO (fun c j h => ((fr c j (by omega) (by omega)).trans rfl)) (fun c j h => rfl)) | (clear hQ; grind [xu])), (by first | exact hG | (clear hQ; grind [xu])), (by omega), (by omega), ?_⟩
      intro v24o p24hv p24bhv2
      have g24 : v24o = -1 ∨ (v24o = m ∧ m < ocn O ∧ 0 < m ∧ t + 1 = dp m) := (by rcases p24hv with q | q; exact Or.inl q.1; have z := wCv_c hp hC (by omega) ⟨q.1, q.2.1, q.2.2.1, q.2.2.2⟩; exact Or.inr ⟨z.1, z.2.1, z.2.2.1, z.2.2.2.1⟩)
      refine And.intro ⟨(by omega), (zRb rfl)⟩ ⟨fun h32 => ?_, fun h32 => ?_⟩
      · refine And.intro (zDX hD 0 rfl) (zrd (v := fm) ((fr k 1 (by omega) (by omega)).trans hfm) ?_)
        refine And.intro (by omega) ⟨fun h70 => ?_, fun h70 => ?_⟩
        · refine And.intro (zDX hD 0 rfl) (zrdR (v := some (k + 3)) (zDR hD 2 rfl) ?_)
          refine And.intro (zDP hD 3 rfl rfl (by omega) (by omega)) (fun v99 e99 r99 => ?_)
          have f99 : v99 = opa O u.toNat := (by first | exact (e99.trans ((p87bfr (k + 3) _ (by omega) (by omega)).trans ((congrArg (I1 (k + 3)) (by omega)).trans ((fr (k + 3) u.toNat (by omega) (by omega)).trans (hpa1 (by omega)))))) | exact (e99.trans ((congrArg (I1 (k + 3)) (by omega)).trans ((fr (k + 3) u.toNat (by omega) (by omega)).trans (hpa1 (by omega))))))
          have f99b : -1 ≤ v99 ∧ v99 < u := (by have z := g2u (by omega); omega)
          refine ⟨((ocn O - m), (v99 + 1).toNat, 0), zlt6 (by omega), [some (zvr (k)), some (zvi (v99)), some (zvi ((t - 1))), some (zvi ((u.toNat + 1))), none], ⟨rfl, rfl, (congrArg (fun z => some (zvi z)) (by omega)), (congrArg (fun z => some (zvi z)) (by omega)), rfl⟩, v99, (t - 1), m, (u.toNat + 1), (x + wCx O u.toNat), rfl, rfl, rfl, rfl, rfl, rfl, ?_, ?_, (fun c j h0 h1 => ((fr c j h0 h1).trans rfl))⟩
          · first
            | (have z0 := f99
               have z00 := g2 0 (by omega)
               exact (wCv_p hp (by omega) hC (by omega) (by rcases p24hv with q | q; exact q.2; exfalso; omega) f99).1)
            | (have w0 := p52hP2
               exact (wCv_c hp hC (by omega) (by rcases p24hv with q | q; (exfalso; omega); exact ⟨q.1, q.2.1, q.2.2.1, q.2.2.2⟩)).2.2.2.2.2)
          · first
            | (have z := wCv_c hp hC (by omega) (by rcases p24hv with q | q; (exfalso; omega); exact ⟨q.1, q.2.1, q.2.2.1, q.2.2.2⟩)
               show zPO k (wWr O dp fm (m + 1) 0) _
               rw [wWr_m z.2.2.1, ← z.2.2.2.2.1]
               exact p52hP2)
            | (have e : wCx O u.toNat = 1 := if_neg (by omega)
               show zPO k (wWr O dp fm m (x + wCx O u.toNat)) _
               rw [e, wWr_x, if_pos (show fm = 0 by omega)]
               exact p87hP2)
            | (have e : wCx O u.toNat = 0 := if_pos (by omega)
               show zPO k (wWr O dp fm m (x + wCx O u.toNat)) _
               rw [e]
               exact hP1)
            | (have e : wWr O dp fm m (x + wCx O u.toNat) = wWr O dp fm m x := by
                 unfold wWr
                 rw [if_neg (show ¬ fm = 0 by omega), if_neg (show ¬ fm = 0 by omega)]
               show zPO k (wWr O dp fm m (x + wCx O u.toNat)) _
               rw [e]
               exact hP1)
        · refine And.intro (zDX hD 0 rfl) (zrdR (v := some (k + 2)) (zDR hD 1 rfl) ?_)
          refine And.intro (zDP hD 2 rfl rfl (by omega) (by omega)) (fun v78 e78 r78 => ?_)
          have f78 : v78 = okd O u.toNat := (e78.trans ((congrArg (I1 (k + 2)) (by omega)).trans ((fr (k + 2) u.toNat (by omega) (by omega)).trans (hkd1 (by omega)))))
          refine And.intro ⟨r78, (zRb rfl)⟩ ⟨fun h81 => ?_, fun h81 => ?_⟩
          · refine And.intro (zDX hD 0 rfl) (zrdR (v := some (k + 3)) (zDR hD 2 rfl) ?_)
            refine And.intro (zDP hD 3 rfl rfl (by omega) (by omega)) (fun v99 e99 r99 => ?_)
            have f99 : v99 = opa O u.toNat := (by first | exact (e99.trans ((p87bfr (k + 3) _ (by omega) (by omega)).trans ((congrArg (I1 (k + 3)) (by omega)).trans ((fr (k + 3) u.toNat (by omega) (by omega)).trans (hpa1 (by omega)))))) | exact (e99.trans ((congrArg (I1 (k + 3)) (by omega)).trans ((fr (k + 3) u.toNat (by omega) (by omega)).trans (hpa1 (by omega))))))
            have f99b : -1 ≤ v99 ∧ v99 < u := (by have z := g2u (by omega); omega)
            refine ⟨((ocn O - m), (v99 + 1).toNat, 0), zlt6 (by omega), [some (zvr (k)), some (zvi (v99)), some (zvi ((t - 1))), some (zvi ((u.toNat + 1))), none], ⟨rfl, rfl, (congrArg (fun z => some (zvi z)) (by omega)), (congrArg (fun z => some (zvi z)) (by omega)), rfl⟩, v99, (t - 1), m, (u.toNat + 1), (x + wCx O u.toNat), rfl, rfl, rfl, rfl, rfl, rfl, ?_, ?_, (fun c j h0 h1 => ((fr c j h0 h1).trans rfl))⟩
            · first
              | (have z0 := f99
                 have z00 := g2 0 (by omega)
                 exact (wCv_p hp (by omega) hC (by omega) (by rcases p24hv with q | q; exact q.2; exfalso; omega) f99).1)
              | (have w0 := p52hP2
                 exact (wCv_c hp hC (by omega) (by rcases p24hv with q | q; (exfalso; omega); exact ⟨q.1, q.2.1, q.2.2.1, q.2.2.2⟩)).2.2.2.2.2)
            · first
              | (have z := wCv_c hp hC (by omega) (by rcases p24hv with q | q; (exfalso; omega); exact ⟨q.1, q.2.1, q.2.2.1, q.2.2.2⟩)
                 show zPO k (wWr O dp fm (m + 1) 0) _
                 rw [wWr_m z.2.2.1, ← z.2.2.2.2.1]
                 exact p52hP2)
              | (have e : wCx O u.toNat = 1 := if_neg (by omega)
                 show zPO k (wWr O dp fm m (x + wCx O u.toNat)) _
                 rw [e, wWr_x, if_pos (show fm = 0 by omega)]
                 exact p87hP2)
              | (have e : wCx O u.toNat = 0 := if_pos (by omega)
                 show zPO k (wWr O dp fm m (x + wCx O u.toNat)) _
                 rw [e]
                 exact hP1)
              | (have e : wWr O dp fm m (x + wCx O u.toNat) = wWr O dp fm m x := by
                   unfold wWr
                   rw [if_neg (show ¬ fm = 0 by omega), if_neg (show ¬ fm = 0 by omega)]
                 show zPO k (wWr O dp fm m (x + wCx O u.toNat)) _
                 rw [e]
                 exact hP1)
          · refine And.intro (zDX hD 0 rfl) ⟨_, sn_V_say.up (by decide), ?_⟩
            refine ⟨k, (wWr O dp fm m x), (41 : Int), rfl, hD, hP1, (by have z := hW m x (by omega) (by omega); first | omega | (simp only [List.length_append, List.length_cons, List.length_nil]; omega)), (by omega), ?_⟩
            intro I87o p87hP2 p87bfr
            refine And.intro (zDX hD 0 rfl) (zrdR (v := some (k + 3)) (zDR hD 2 rfl) ?_)
            refine And.intro (zDP hD 3 rfl rfl (by omega) (by omega)) (fun v99 e99 r99 => ?_)
            have f99 : v99 = opa O u.toNat := (by first | exact (e99.trans ((p87bfr (k + 3) _ (by omega) (by omega)).trans ((congrArg (I1 (k + 3)) (by omega)).trans ((fr (k + 3) u.toNat (by omega) (by omega)).trans (hpa1 (by omega)))))) | exact (e99.trans ((congrArg (I1 (k + 3)) (by omega)).trans ((fr (k + 3) u.toNat (by omega) (by omega)).trans (hpa1 (by omega))))))
            have f99b : -1 ≤ v99 ∧ v99 < u := (by have z := g2u (by omega); omega)
            refine ⟨((ocn O - m), (v99 + 1).toNat, 0), zlt6 (by omega), [some (zvr (k)), some (zvi (v99)), some (zvi ((t - 1))), some (zvi ((u.toNat + 1))), none], ⟨rfl, rfl, (congrArg (fun z => some (zvi z)) (by omega)), (congrArg (fun z => some (zvi z)) (by omega)), rfl⟩, v99, (t - 1), m, (u.toNat + 1), (x + wCx O u.toNat), rfl, rfl, rfl, rfl, rfl, rfl, ?_, ?_, (fun c j h0 h1 => ((p87bfr c j h0 h1).trans ((fr c j h0 h1).trans rfl)))⟩
            · first
              | (have z0 := f99
                 have z00 := g2 0 (by omega)
                 exact (wCv_p hp (by omega) hC (by omega) (by rcases p24hv with q | q; exact q.2; exfalso; omega) f99).1)
              | (have w0 := p52hP2
                 exact (wCv_c hp hC (by omega) (by rcases p24hv with q | q; (exfalso; omega); exact ⟨q.1, q.2.1, q.2.2.1, q.2.2.2⟩)).2.2.2.2.2)
            · first
              | (have z := wCv_c hp hC (by omega) (by rcases p24hv with q | q; (exfalso; omega); exact ⟨q.1, q.2.1, q.2.2.1, q.2.2.2⟩)
                 show zPO k (wWr O dp fm (m + 1) 0) _
                 rw [wWr_m z.2.2.1, ← z.2.2.2.2.1]
                 exact p52hP2)
              | (have e : wCx O u.toNat = 1 := if_neg (by omega)
                 show zPO k (wWr O dp fm m (x + wCx O u.toNat)) _
                 rw [e, wWr_x, if_pos (show fm = 0 by omega)]
                 exact p87hP2)
              | (have e : wCx O u.toNat = 0 := if_pos (by omega)
                 show zPO k (wWr O dp fm m (x + wCx O u.toNat)) _
                 rw [e]
                 exact hP1)
              | (have e : wWr O dp fm m (x + wCx O u.toNat) = wWr O dp fm m x := by
                   unfold wWr
                   rw [if_neg (show ¬ fm = 0 by omega), if_neg (show ¬ fm = 0 by omega)]
                 show zPO k (wWr O dp fm m (x + wCx O u.toNat)) _
                 rw [e]
                 exact hP1)
      · refine And.intro (zDX hD 0 rfl) ⟨_, sn_V_say.up (by decide), ?_⟩
        refine ⟨k, (wWr O dp fm m x), (10 : Int), rfl, hD, hP1, (by have z := hW m x (by omega) (by omega); first | omega | (simp only [List.length_append, List.length_cons, List.length_nil]; omega)), (by omega), ?_⟩
        intro I38o p38hP2 p38bfr
        refine And.intro (zDX hD 0 rfl) ⟨_, sn_V_shd.up (by decide), ?_⟩
        refine ⟨k, (wWr O dp fm m x ++ [10]), ((t + 1) : Int), (dp m), fm, rfl, hD, p38hP2, (by omega), (by have z := hW m x (by omega) (by omega); have z2 := wTm_l (u := (if fm = 0 then 32 else 46)) (m := dp m); simp only [List.length_append, List.length_cons, List.length_nil]; omega), ((p38bfr k 1 (by omega) (by omega)).trans ((fr k 1 (by omega) (by omega)).trans hfm)), (by omega), ?_⟩
        intro I46o p46hP2 p46bfr
        refine And.intro (zDX hD 0 rfl) ⟨_, sn_V_own.up (by decide), ?_⟩
        refine ⟨k, (wWr O dp fm m x ++ [10] ++ wTm (if fm = 0 then 32 else 46) (dp m)), O, (v24o : Int), m, fm, rfl, hD, p46hP2, (by first | exact (zOM_fr hO (fun c j h => ((p46bfr c j (by omega) (by omega)).trans ((p38bfr c j (by omega) (by omega)).trans ((fr c j (by omega) (by omega)).trans rfl)))) (fun c j h => rfl)) | (clear hQ; grind [xu])), (by first | exact hG | (clear hQ; grind [xu])), (by first | exact hN | (clear hQ; grind [xu])), (by first | exact (zOU_fr hU (fun c j h => ((p46bfr c j (by omega) (by omega)).trans ((p38bfr c j (by omega) (by omega)).trans ((fr c j (by omega) (by omega)).trans rfl))))) | (clear hQ; grind [xu])), (by omega), ((p46bfr k 1 (by omega) (by omega)).trans ((p38bfr k 1 (by omega) (by omega)).trans ((fr k 1 (by omega) (by omega)).trans hfm))), (by omega), (by have z := hW m x (by omega) (by omega); have z2 := wTm_l (u := (if fm = 0 then 32 else 46)) (m := dp m); have z3 := h9 m (by omega); have z4 := (g4 m 0 (by omega) (by omega)).2; have z5 : otl O m 0 ≤ 2000 := (by by_cases e : okd O m = 9; exact z3 e; exact Nat.le_trans (z4 e) (by decide)); simp only [List.length_append, List.length_cons, List.length_nil]; omega), ?_⟩
        intro I52o p52hP2 p52bfr
        refine ⟨((ocn O - (m + 1)), (v24o + 1).toNat, 0), zlt6 (by omega), [some (zvr (k)), some (zvi (v24o)), some (zvi ((t + 1))), some (zvi ((m + 1))), none], ⟨rfl, rfl, rfl, (congrArg (fun z => some (zvi z)) (by omega)), rfl⟩, v24o, (t + 1), (m + 1), (m + 1), 0, rfl, rfl, rfl, rfl, rfl, rfl, ?_, ?_, (fun c j h0 h1 => ((p52bfr c j h0 h1).trans ((p46bfr c j h0 h1).trans ((p38bfr c j h0 h1).trans ((fr c j h0 h1).trans rfl)))))⟩
        · first
          | (have z0 := f99
             have z00 := g2 0 (by omega)
             exact (wCv_p hp (by omega) hC (by omega) (by rcases p24hv with q | q; exact q.2; exfalso; omega) f99).1)
          | (have w0 := p52hP2
             exact (wCv_c hp hC (by omega) (by rcases p24hv with q | q; (exfalso; omega); exact ⟨q.1, q.2.1, q.2.2.1, q.2.2.2⟩)).2.2.2.2.2)
        · first
          | (have z := wCv_c hp hC (by omega) (by rcases p24hv with q | q; (exfalso; omega); exact ⟨q.1, q.2.1, q.2.2.1, q.2.2.2⟩)
             show zPO k (wWr O dp fm (m + 1) 0) _
             rw [wWr_m z.2.2.1, ← z.2.2.2.2.1]
             exact p52hP2)
          | (have e : wCx O u.toNat = 1 := if_neg (by omega)
             show zPO k (wWr O dp fm m (x + wCx O u.toNat)) _
             rw [e, wWr_x, if_pos (show fm = 0 by omega)]
             exact p87hP2)
          | (have e : wCx O u.toNat = 0 := if_pos (by omega)
             show zPO k (wWr O dp fm m (x + wCx O u.toNat)) _
             rw [e]
             exact hP1)
          | (have e : wWr O dp fm m (x + wCx O u.toNat) = wWr O dp fm m x := by
               unfold wWr
               rw [if_neg (show ¬ fm = 0 by omega), if_neg (show ¬ fm = 0 by omega)]
             show zPO k (wWr O dp fm m (x + wCx O u.toNat)) _
             rw [e]
             exact hP1))
