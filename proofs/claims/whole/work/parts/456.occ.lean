/-! oe -/
def T_C_pin : ZT := fun args I L R S Q => ∃ (k : Nat) (O : OoS) (d : JdS) (ob : Nat → Int) (j : Int) (j_ : Nat) (y : Int) (y_ : Nat), args = [zvr 63, zvi j, zvi y] ∧ (zSh S) ∧ (zRs R) ∧ (R 63 0 = some k) ∧ (zDy zT2 zF2 k R S) ∧ (43 ≤ k ∧ k ≤ 52) ∧ (zOB k O I L) ∧ (oGd O) ∧ (zDA d ob I) ∧ (jGd d) ∧ (oOk O d) ∧ (∀ j : Nat, j < ocn O → I 64 j = oSh O j) ∧ (j = j_ ∧ j_ < ocn O) ∧ (y = y_ ∧ y_ < ocn O) ∧ ((y_ : Int) = oSy O j_) ∧ (0 ≤ opa O y_ ∧ opa O y_ < ocn O) ∧ ∀ (I' : ZI), (zDA (oPi O j_ d) ob I') → (∀ c j : Nat, ¬ (c = 76 ∧ j = 2) → ¬ c = 77 → I' c j = I c j) → Q none I' L R S
theorem sn_C_pin : ZSnd 3 3 1 T_C_pin := ZSnd.loops (zT3_1 2) (by
  rintro args I L R S Q hz ⟨k, O, d, ob, j, j_, y, y_, rfl, hS, hR, hob, hD, hk, hO, hG, hDA, hJG, hok, h64, hj, hy, hy9, hz, hQ⟩
  obtain ⟨o1, o2, o3, o4⟩ := id hO
  obtain ⟨g1, g2, g3, g4, g5⟩ := id hG
  have hk40 := hD.1
  have hk1 := hk.1
  have hk2 := hk.2
  obtain ⟨hSR, hCS, hWR, hJR, hLR, hPR, hTR⟩ := id hDA
  obtain ⟨⟨g1, g2, g3, g4, g5, g6⟩, gs, gw, gj, gl, gp, gt⟩ := id hJG
  obtain ⟨c1_, c2_, c3_, c4_⟩ := id hSR
  obtain ⟨w1_, w2_, w3_, w4_⟩ := id hWR
  obtain ⟨j1_, j2_, j3_, j4_⟩ := id hJR
  obtain ⟨l1_, l2_, l3_, l4_⟩ := id hLR
  obtain ⟨p1_, p2_, p3_, p4_⟩ := id hPR
  obtain ⟨t1_, t2_, t3_, t4_⟩ := id hTR
  have hsb := oSh_b (O := O) (j := (opa O y_).toNat) (k := ocn O) (by omega)
  have hdn : dns d = dns (oDs O) := congrArg (fun z => z.1) hok.2.1
  have hsb2 : oSh O (opa O y_).toNat < dns d := by rw [hdn]; exact hsb.2
  have hsb1 := hsb.1
  refine ⟨[98], fun nM tM lsM stM I1 L1 R1 S1 => match tM with
      | 98 => ∃ (t : Nat) (s : Int) (x : Int) (z : Int) (f : Int), nM = ((61 - t), 0, 0) ∧ lsM = [some (zvr (63)), some (zvi (j_)), some (zvi (y_)), some (zvi (s)), some (zvl (x)), none, some (zvl (z)), none, some (zvi (f)), some (zvi (t))] ∧ stM = [] ∧ I1 = I ∧ L1 = L ∧ R1 = R ∧ S1 = S ∧ (t ≤ dnt d) ∧ (s = (oSh O (opa O y_).toNat) ∧ 0 ≤ s ∧ dbs d s.toNat = s) ∧ (x = (oTx O j_ 0) ∧ z = (oTx O j_ 1)) ∧ ((-2000000000 ≤ x ∧ x ≤ 2000000000) ∧ -2000000000 ≤ z ∧ z ≤ 2000000000) ∧ ((f = 1 ∧ (jFar x ∧ jFar z) ∧ ∀ p, p < t → ¬ (dT d p 3 = y_ ∧ dT d p 1 = x ∧ dT d p 2 = z)) ∨ (f = 0 ∧ oTm d s x z y_ = d)) ∧ (0 ≤ f ∧ f ≤ 1)
      | _ => False, rfl, ?_, ⟨?_, True.intro⟩⟩
  · refine And.intro (zA_63 hS) (zrdR (v := some k) hob ?_)
    refine And.intro (zDX hD 0 rfl) ⟨_, sn_O_par.up (by decide), ?_⟩
    refine ⟨k, O, (y : Int), y_, rfl, hS, hR, hD, (by first | exact (zOB_fr hO (fun c j h => rfl) (fun c j h => rfl)) | (clear hQ; grind [xu])), (by first | exact hG | (clear hQ; grind [xu])), (by omega), ?_⟩
    intro v6o p6hv p6bhv2
    refine And.intro (zA_63 hS) ⟨_, sn_C_sof.up (by decide), ?_⟩
    refine ⟨k, O, (v6o : Int), v6o.toNat, (oSh O (opa O y_).toNat), rfl, hS, hR, hob, hD, (by omega), (by first | exact (zOB_fr hO (fun c j h => rfl) (fun c j h => rfl)) | (clear hQ; grind [xu])), (by first | exact hG | (clear hQ; grind [xu])), (by omega), (by rw [p6hv]; exact h64 _ (by omega)), ?_⟩
    intro v9o p9hv
    have g9 : -1 ≤ v9o ∧ v9o + 1 ≤ dns d := (by omega)
    refine And.intro (zA_63 hS) ⟨_, sn_C_isd.up (by decide), ?_⟩
    refine ⟨d, ob, (v9o : Int), rfl, hS, hR, (by first | exact (zDA_fr hDA (fun c j h => rfl)) | exact (zDA_fr hDA (fun c j h => rfl)) | (clear hQ; grind [xu])), (by first | exact hJG | (clear hQ; grind [xu])), (by omega), ?_⟩
    intro v15o p15hv p15bhv2
    refine And.intro (by omega) ⟨fun h18 => ?_, fun h18 => ?_⟩
    · refine And.intro (zA_63 hS) (zrdR (v := some k) hob ?_)
      refine And.intro (zDX hD 0 rfl) ⟨_, sn_O_num.up (by decide), ?_⟩
      refine ⟨k, O, (y : Int), y_, (0 : Int), 0, rfl, hS, hR, hD, (by first | exact (zOB_fr hO (fun c j h => rfl) (fun c j h => rfl)) | (clear hQ; grind [xu])), (by first | exact hG | (clear hQ; grind [xu])), (by omega), (by omega), ?_⟩
      intro v28o p28hv p28bhv2
      refine And.intro (zA_63 hS) (zrdR (v := some k) hob ?_)
      refine And.intro (zDX hD 0 rfl) ⟨_, sn_O_num.up (by decide), ?_⟩
      refine ⟨k, O, (j : Int), j_, (0 : Int), 0, rfl, hS, hR, hD, (by first | exact (zOB_fr hO (fun c j h => rfl) (fun c j h => rfl)) | (clear hQ; grind [xu])), (by first | exact hG | (clear hQ; grind [xu])), (by omega), (by omega), ?_⟩
      intro v37o p37hv p37bhv2
      refine And.intro (zA_63 hS) (zrdR (v := some k) hob ?_)
      refine And.intro (zDX hD 0 rfl) ⟨_, sn_O_num.up (by decide), ?_⟩
      refine ⟨k, O, (y : Int), y_, (1 : Int), 1, rfl, hS, hR, hD, (by first | exact (zOB_fr hO (fun c j h => rfl) (fun c j h => rfl)) | (clear hQ; grind [xu])), (by first | exact hG | (clear hQ; grind [xu])), (by omega), (by omega), ?_⟩
      intro v49o p49hv p49bhv2
      refine And.intro (zA_63 hS) (zrdR (v := some k) hob ?_)
      refine And.intro (zDX hD 0 rfl) ⟨_, sn_O_num.up (by decide), ?_⟩
      refine ⟨k, O, (j : Int), j_, (1 : Int), 1, rfl, hS, hR, hD, (by first | exact (zOB_fr hO (fun c j h => rfl) (fun c j h => rfl)) | (clear hQ; grind [xu])), (by first | exact hG | (clear hQ; grind [xu])), (by omega), (by omega), ?_⟩
      intro v58o p58hv p58bhv2
      refine And.intro (by omega) (fun v66 e66 => ?_)
      refine ⟨_, _, ⟨zW6i (by omega), zW6i (zRL rfl)⟩, fun z72 c72 => ?_⟩
      refine And.intro c72.2.2 ⟨fun h73 => ?_, fun h73 => ?_⟩
      · refine ⟨((61 - (0 : Nat)), 0, 0), [some (zvr (63)), some (zvi (j_)), some (zvi (y_)), some (zvi (v9o)), some (zvl ((v28o + v37o))), none, some (zvl ((v49o + v58o))), none, some (zvi ((0 : Int))), some (zvi ((0 : Nat)))], ⟨rfl, (congrArg (fun z => some (zvi z)) (by omega)), (congrArg (fun z => some (zvi z)) (by omega)), rfl, rfl, rfl, rfl, rfl, rfl⟩, 0, v9o, (v28o + v37o), (v49o + v58o), 0, rfl, rfl, rfl, rfl, rfl, rfl, rfl, (by omega), (by rcases p15hv with q | q; exact ⟨by omega, by omega, q.2.2⟩; omega), ⟨by rw [p28hv, p37hv]; unfold oTx; rw [← hy9]; rfl, by rw [p49hv, p58hv]; unfold oTx; rw [← hy9]; rfl⟩, (by clear hQ; grind [xu]), ?_, (by omega)⟩
        · first
          | exact Or.inl ⟨rfl, ⟨⟨by omega, by omega⟩, ⟨by omega, by omega⟩⟩, fun p h => absurd h (Nat.not_lt_zero p)⟩
          | exact Or.inr ⟨rfl, oTm_f (fun w => by have w1 : -1000000000 ≤ v28o + v37o := w.1.1; have w2 : v28o + v37o ≤ 1000000000 := w.1.2; have w3 : -1000000000 ≤ v49o + v58o := w.2.1; have w4 : v49o + v58o ≤ 1000000000 := w.2.2; omega)⟩
      · refine And.intro (by omega) (fun v78 e78 => ?_)
        refine ⟨_, _, ⟨zW6i (by omega), zW6i (zRL rfl)⟩, fun z84 c84 => ?_⟩
        refine And.intro c84.2.2 ⟨fun h85 => ?_, fun h85 => ?_⟩
        · refine ⟨((61 - (0 : Nat)), 0, 0), [some (zvr (63)), some (zvi (j_)), some (zvi (y_)), some (zvi (v9o)), some (zvl ((v28o + v37o))), none, some (zvl ((v49o + v58o))), none, some (zvi ((0 : Int))), some (zvi ((0 : Nat)))], ⟨rfl, (congrArg (fun z => some (zvi z)) (by omega)), (congrArg (fun z => some (zvi z)) (by omega)), rfl, rfl, rfl, rfl, rfl, rfl⟩, 0, v9o, (v28o + v37o), (v49o + v58o), 0, rfl, rfl, rfl, rfl, rfl, rfl, rfl, (by omega), (by rcases p15hv with q | q; exact ⟨by omega, by omega, q.2.2⟩; omega), ⟨by rw [p28hv, p37hv]; unfold oTx; rw [← hy9]; rfl, by rw [p49hv, p58hv]; unfold oTx; rw [← hy9]; rfl⟩, (by clear hQ; grind [xu]), ?_, (by omega)⟩
          · first
            | exact Or.inl ⟨rfl, ⟨⟨by omega, by omega⟩, ⟨by omega, by omega⟩⟩, fun p h => absurd h (Nat.not_lt_zero p)⟩
            | exact Or.inr ⟨rfl, oTm_f (fun w => by have w1 : -1000000000 ≤ v28o + v37o := w.1.1; have w2 : v28o + v37o ≤ 1000000000 := w.1.2; have w3 : -1000000000 ≤ v49o + v58o := w.2.1; have w4 : v49o + v58o ≤ 1000000000 := w.2.2; omega)⟩
        · refine ⟨((61 - (0 : Nat)), 0, 0), [some (zvr (63)), some (zvi (j_)), some (zvi (y_)), some (zvi (v9o)), some (zvl ((v28o + v37o))), none, some (zvl ((v49o + v58o))), none, some (zvi ((1 : Int))), some (zvi ((0 : Nat)))], ⟨rfl, (congrArg (fun z => some (zvi z)) (by omega)), (congrArg (fun z => some (zvi z)) (by omega)), rfl, rfl, rfl, rfl, rfl, rfl⟩, 0, v9o, (v28o + v37o), (v49o + v58o), 1, rfl, rfl, rfl, rfl, rfl, rfl, rfl, (by omega), (by rcases p15hv with q | q; exact ⟨by omega, by omega, q.2.2⟩; omega), ⟨by rw [p28hv, p37hv]; unfold oTx; rw [← hy9]; rfl, by rw [p49hv, p58hv]; unfold oTx; rw [← hy9]; rfl⟩, (by clear hQ; grind [xu]), ?_, (by omega)⟩
          · first
            | exact Or.inl ⟨rfl, ⟨⟨by omega, by omega⟩, ⟨by omega, by omega⟩⟩, fun p h => absurd h (Nat.not_lt_zero p)⟩
            | exact Or.inr ⟨rfl, oTm_f (fun w => by have w1 : -1000000000 ≤ v28o + v37o := w.1.1; have w2 : v28o + v37o ≤ 1000000000 := w.1.2; have w3 : -1000000000 ≤ v49o + v58o := w.2.1; have w4 : v49o + v58o ≤ 1000000000 := w.2.2; omega)⟩
    · refine hQ _ ?_ (fun c j h0 h1 => rfl)
      · first
        | (rcases p15hv with q | q
           · exfalso; omega
           · rw [oPi_n (fun w => by rw [← hy9] at w; exact q.2 (by rw [p9hv]; exact (oDr_i (j := opa O y_) hok.2.1 rfl).mp w))]
             exact hDA)
        | (have hdr : oDr O (opa O (oSy O j_).toNat) := by
             rw [← hy9]
             exact (oDr_i (j := opa O y_) hok.2.1 hs.1).mpr ⟨hs.2.1, hs.2.2⟩
           rw [oPi_y hdr, ← hy9, ← hx.1, ← hx.2, show oSh O (opa O ((y_ : Nat) : Int).toNat).toNat = s from hs.1.symm]
           rcases hf with q | q
           · first
             | (exfalso; omega)
             | (rw [oTm_t q.2.1]
                refine zDA_T hDA (fun p hp w => q.2.2 p (by omega) ⟨w.2.1, w.2.2.1, w.2.2.2⟩) p194bhT2 (fun x j h => p194bbfr x j (by omega) (by omega)))
           · first
             | (exfalso; omega)
             | (rw [q.2]
                exact hDA))
  · rintro nM lsM stM I1 L1 R1 S1 hz1 ⟨t, s, x, z, f, rfl, rfl, rfl, rfl, rfl, rfl, rfl, ht, hs, hx, hxb, hf, hf2⟩
    refine And.intro (zA_63 hS) (zrdR (v := some 76) (zR_63_8 hR) ?_)
    refine And.intro (zA_76 hS) (zrd (v := (dnt d)) t2_ ?_)
    refine And.intro ⟨(by omega), (by omega)⟩ ⟨fun h107 => ?_, fun h107 => ?_⟩
    · refine And.intro (by omega) ⟨fun h178 => ?_, fun h178 => ?_⟩
      · refine hQ _ ?_ (fun c j h0 h1 => rfl)
        · first
          | (rcases p15hv with q | q
             · exfalso; omega
             · rw [oPi_n (fun w => by rw [← hy9] at w; exact q.2 (by rw [p9hv]; exact (oDr_i (j := opa O y_) hok.2.1 rfl).mp w))]
               exact hDA)
          | (have hdr : oDr O (opa O (oSy O j_).toNat) := by
               rw [← hy9]
               exact (oDr_i (j := opa O y_) hok.2.1 hs.1).mpr ⟨hs.2.1, hs.2.2⟩
             rw [oPi_y hdr, ← hy9, ← hx.1, ← hx.2, show oSh O (opa O ((y_ : Nat) : Int).toNat).toNat = s from hs.1.symm]
             rcases hf with q | q
             · first
               | (exfalso; omega)
               | (rw [oTm_t q.2.1]
                  refine zDA_T hDA (fun p hp w => q.2.2 p (by omega) ⟨w.2.1, w.2.2.1, w.2.2.2⟩) p194bhT2 (fun x j h => p194bbfr x j (by omega) (by omega)))
             · first
               | (exfalso; omega)
               | (rw [q.2]
                  exact hDA))
      · have t178 : (-1000000000 ≤ x ∧ x ≤ 1000000000) ∧ -1000000000 ≤ z ∧ z ≤ 1000000000 := (by rcases hf with q | q; exact ⟨q.2.1.1, q.2.1.2⟩; omega)
        refine And.intro (zA_63 hS) (zrdR (v := some 76) (zR_63_8 hR) ?_)
        refine ⟨_, (zWi (by omega)), ?_⟩
        refine ⟨_, (zWi (by omega)), ?_⟩
        refine And.intro (zA_76 hS) ⟨_, sn_A_addG.up (by decide), ?_⟩
        refine ⟨76, 60, (dnt d), (dT d), (s : Int), (x : Int), (z : Int), (y_ : Int), (0 : Int), rfl, hS, hR, (zRw_76 hR hS), (by first | exact (zRT_fr hTR (fun c j h => rfl)) | (clear hQ; grind [xu])), (by omega), ?_⟩
        intro v194o I194o p194hv p194bhT2 p194bbfr
        refine hQ _ ?_ (fun c j h0 h1 => ((p194bbfr c j (by omega) (by omega)).trans rfl))
        · first
          | (rcases p15hv with q | q
             · exfalso; omega
             · rw [oPi_n (fun w => by rw [← hy9] at w; exact q.2 (by rw [p9hv]; exact (oDr_i (j := opa O y_) hok.2.1 rfl).mp w))]
               exact hDA)
          | (have hdr : oDr O (opa O (oSy O j_).toNat) := by
               rw [← hy9]
               exact (oDr_i (j := opa O y_) hok.2.1 hs.1).mpr ⟨hs.2.1, hs.2.2⟩
             rw [oPi_y hdr, ← hy9, ← hx.1, ← hx.2, show oSh O (opa O ((y_ : Nat) : Int).toNat).toNat = s from hs.1.symm]
             rcases hf with q | q
             · first
               | (exfalso; omega)
               | (rw [oTm_t q.2.1]
                  refine zDA_T hDA (fun p hp w => q.2.2 p (by omega) ⟨w.2.1, w.2.2.1, w.2.2.2⟩) p194bhT2 (fun x j h => p194bbfr x j (by omega) (by omega)))
             · first
               | (exfalso; omega)
               | (rw [q.2]
                  exact hDA))
    · refine And.intro (by omega) ⟨fun h112 => ?_, fun h112 => ?_⟩
      · refine And.intro (by omega) ⟨fun h178 => ?_, (fun h178 => False.elim (by omega))⟩
        refine hQ _ ?_ (fun c j h0 h1 => rfl)
        · first
          | (rcases p15hv with q | q
             · exfalso; omega
             · rw [oPi_n (fun w => by rw [← hy9] at w; exact q.2 (by rw [p9hv]; exact (oDr_i (j := opa O y_) hok.2.1 rfl).mp w))]
               exact hDA)
          | (have hdr : oDr O (opa O (oSy O j_).toNat) := by
               rw [← hy9]
               exact (oDr_i (j := opa O y_) hok.2.1 hs.1).mpr ⟨hs.2.1, hs.2.2⟩
             rw [oPi_y hdr, ← hy9, ← hx.1, ← hx.2, show oSh O (opa O ((y_ : Nat) : Int).toNat).toNat = s from hs.1.symm]
             rcases hf with q | q
             · first
               | (exfalso; omega)
               | (rw [oTm_t q.2.1]
                  refine zDA_T hDA (fun p hp w => q.2.2 p (by omega) ⟨w.2.1, w.2.2.1, w.2.2.2⟩) p194bhT2 (fun x j h => p194bbfr x j (by omega) (by omega)))
             · first
               | (exfalso; omega)
               | (rw [q.2]
                  exact hDA))
      · refine And.intro (zA_63 hS) (zrdR (v := some 76) (zR_63_8 hR) ?_)
        refine And.intro (zA_76 hS) ⟨_, sn_A_at.up (by decide), ?_⟩
        refine ⟨76, 60, (dnt d), (dT d), t, 3, (t : Int), (3 : Int), rfl, hS, hR, (zRw_76 hR hS), (by first | exact (zRT_fr hTR (fun c j h => rfl)) | (clear hQ; grind [xu])), (by omega), (by omega), ?_⟩
        intro v122o p122hv p122bhr
        refine And.intro ⟨(by omega), (by omega)⟩ ⟨fun h126 => ?_, fun h126 => ?_⟩
        · refine ⟨((61 - (t + 1)), 0, 0), zlt6 (by omega), [some (zvr (63)), some (zvi (j_)), some (zvi (y_)), some (zvi (s)), some (zvl (x)), none, some (zvl (z)), none, some (zvi ((1 : Int))), some (zvi ((t + 1)))], ⟨rfl, rfl, rfl, rfl, rfl, rfl, rfl, rfl, rfl⟩, (t + 1), s, x, z, 1, rfl, rfl, rfl, rfl, rfl, rfl, rfl, (by omega), hs, hx, (by first | exact hxb | (clear hQ; grind [xu])), ?_, (by omega)⟩
          · rcases hf with q | q
            · first
              | (refine Or.inl ⟨rfl, q.2.1, fun p hp => ?_⟩
                 by_cases e : p = t
                 · rw [e]
                   omega
                 · exact q.2.2 p (by omega))
              | (refine Or.inr ⟨rfl, oTm_s (p := t) hok.2.2 ?_ (by omega) (by omega) (by omega) (by omega)⟩
                 rw [hs.1]
                 rfl)
            · exfalso; omega
        · refine And.intro (zA_63 hS) (zrdR (v := some 76) (zR_63_8 hR) ?_)
          refine And.intro (zA_76 hS) ⟨_, sn_A_at.up (by decide), ?_⟩
          refine ⟨76, 60, (dnt d), (dT d), t, 1, (t : Int), (1 : Int), rfl, hS, hR, (zRw_76 hR hS), (by first | exact (zRT_fr hTR (fun c j h => rfl)) | (clear hQ; grind [xu])), (by omega), (by omega), ?_⟩
          intro v136o p136hv p136bhr
          refine And.intro (by omega) ?_
          refine ⟨_, _, ⟨zW6i (by omega), zW6i (by omega)⟩, fun z142 c142 => ?_⟩
          refine And.intro c142.2.2 ⟨fun h143 => ?_, fun h143 => ?_⟩
          · refine ⟨((61 - (t + 1)), 0, 0), zlt6 (by omega), [some (zvr (63)), some (zvi (j_)), some (zvi (y_)), some (zvi (s)), some (zvl (x)), none, some (zvl (z)), none, some (zvi ((1 : Int))), some (zvi ((t + 1)))], ⟨rfl, rfl, rfl, rfl, rfl, rfl, rfl, rfl, rfl⟩, (t + 1), s, x, z, 1, rfl, rfl, rfl, rfl, rfl, rfl, rfl, (by omega), hs, hx, (by first | exact hxb | (clear hQ; grind [xu])), ?_, (by omega)⟩
            · rcases hf with q | q
              · first
                | (refine Or.inl ⟨rfl, q.2.1, fun p hp => ?_⟩
                   by_cases e : p = t
                   · rw [e]
                     omega
                   · exact q.2.2 p (by omega))
                | (refine Or.inr ⟨rfl, oTm_s (p := t) hok.2.2 ?_ (by omega) (by omega) (by omega) (by omega)⟩
                   rw [hs.1]
                   rfl)
              · exfalso; omega
          · refine And.intro (zA_63 hS) (zrdR (v := some 76) (zR_63_8 hR) ?_)
            refine And.intro (zA_76 hS) ⟨_, sn_A_at.up (by decide), ?_⟩
            refine ⟨76, 60, (dnt d), (dT d), t, 2, (t : Int), (2 : Int), rfl, hS, hR, (zRw_76 hR hS), (by first | exact (zRT_fr hTR (fun c j h => rfl)) | (clear hQ; grind [xu])), (by omega), (by omega), ?_⟩
            intro v153o p153hv p153bhr
            refine And.intro (by omega) ?_
            refine ⟨_, _, ⟨zW6i (by omega), zW6i (by omega)⟩, fun z159 c159 => ?_⟩
            refine And.intro c159.2.2 ⟨fun h160 => ?_, fun h160 => ?_⟩
            · refine ⟨((61 - (t + 1)), 0, 0), zlt6 (by omega), [some (zvr (63)), some (zvi (j_)), some (zvi (y_)), some (zvi (s)), some (zvl (x)), none, some (zvl (z)), none, some (zvi ((0 : Int))), some (zvi ((t + 1)))], ⟨rfl, rfl, rfl, rfl, rfl, rfl, rfl, rfl, rfl⟩, (t + 1), s, x, z, 0, rfl, rfl, rfl, rfl, rfl, rfl, rfl, (by omega), hs, hx, (by first | exact hxb | (clear hQ; grind [xu])), ?_, (by omega)⟩
              · rcases hf with q | q
                · first
                  | (refine Or.inl ⟨rfl, q.2.1, fun p hp => ?_⟩
                     by_cases e : p = t
                     · rw [e]
                       omega
                     · exact q.2.2 p (by omega))
                  | (refine Or.inr ⟨rfl, oTm_s (p := t) hok.2.2 ?_ (by omega) (by omega) (by omega) (by omega)⟩
                     rw [hs.1]
                     rfl)
                · exfalso; omega
            · refine ⟨((61 - (t + 1)), 0, 0), zlt6 (by omega), [some (zvr (63)), some (zvi (j_)), some (zvi (y_)), some (zvi (s)), some (zvl (x)), none, some (zvl (z)), none, some (zvi ((1 : Int))), some (zvi ((t + 1)))], ⟨rfl, rfl, rfl, rfl, rfl, rfl, rfl, rfl, rfl⟩, (t + 1), s, x, z, 1, rfl, rfl, rfl, rfl, rfl, rfl, rfl, (by omega), hs, hx, (by first | exact hxb | (clear hQ; grind [xu])), ?_, (by omega)⟩
              · rcases hf with q | q
                · first
                  | (refine Or.inl ⟨rfl, q.2.1, fun p hp => ?_⟩
                     by_cases e : p = t
                     · rw [e]
                       omega
                     · exact q.2.2 p (by omega))
                  | (refine Or.inr ⟨rfl, oTm_s (p := t) hok.2.2 ?_ (by omega) (by omega) (by omega) (by omega)⟩
                     rw [hs.1]
                     rfl)
                · exfalso; omega)
def T_C_gat : ZT := fun args I L R S Q => ∃ (k : Nat) (O : OoS) (ob : Nat → Int), args = [zvr 63] ∧ (zSh S) ∧ (zRs R) ∧ (R 63 0 = some k) ∧ (zDy zT2 zF2 k R S) ∧ (43 ≤ k ∧ k ≤ 52) ∧ (zOB k O I L) ∧ (oGd O) ∧ (zSA (oDs O) ob I) ∧ (∀ j : Nat, j < ocn O → I 64 j = oSh O j) ∧ (I 68 1 = 100 ∧ I 70 1 = 50 ∧ I 72 1 = 60 ∧ I 74 1 = 30 ∧ I 76 1 = 60) ∧ ∀ (I' : ZI), (zDA (oD O) ob I') → (∀ c j : Nat, ¬ (c = 68 ∧ j = 2) → ¬ c = 69 → ¬ (c = 70 ∧ j = 2) → ¬ c = 71 → ¬ (c = 72 ∧ j = 2) → ¬ c = 73 → ¬ (c = 74 ∧ j = 2) → ¬ c = 75 → ¬ (c = 76 ∧ j = 2) → ¬ c = 77 → I' c j = I c j) → Q none I' L R S
theorem sn_C_gat : ZSnd 6 3 9 T_C_gat := ZSnd.loops (zT3_9 5) (by
  rintro args I L R S Q hz ⟨k, O, ob, rfl, hS, hR, hob, hD, hk, hO, hG, hSA, h64, hrm, hQ⟩
  obtain ⟨o1, o2, o3, o4⟩ := id hO
  obtain ⟨g1, g2, g3, g4, g5⟩ := id hG
  have hk40 := hD.1
  have hk1 := hk.1
  have hk2 := hk.2
  refine ⟨[42], fun nM tM lsM stM I1 L1 R1 S1 => match tM with
      | 42 => ∃ (m : Nat), nM = ((201 - m), 0, 0) ∧ lsM = [some (zvr (63)), some (zvi (m)), none, none] ∧ stM = [] ∧ L1 = L ∧ R1 = R ∧ S1 = S ∧ (m ≤ ocn O) ∧ (zDA (oDt O m) ob I1) ∧ (∀ c j : Nat, ¬ (c = 68 ∧ j = 2) → ¬ c = 69 → ¬ (c = 70 ∧ j = 2) → ¬ c = 71 → ¬ (c = 72 ∧ j = 2) → ¬ c = 73 → ¬ (c = 74 ∧ j = 2) → ¬ c = 75 → ¬ (c = 76 ∧ j = 2) → ¬ c = 77 → I1 c j = I c j)
      | _ => False, rfl, ?_, ⟨?_, True.intro⟩⟩
  · refine And.intro (zA_63 hS) (zrdR (v := some 68) (zR_63_4 hR) ?_)
    refine And.intro (zA_68 hS) ⟨_, (zWi (zRb rfl)), ?_⟩
    refine And.intro (zA_63 hS) (zrdR (v := some 70) (zR_63_5 hR) ?_)
    refine And.intro (zA_70 hS) ⟨_, (zWi (zRb rfl)), ?_⟩
    refine And.intro (zA_63 hS) (zrdR (v := some 72) (zR_63_6 hR) ?_)
    refine And.intro (zA_72 hS) ⟨_, (zWi (zRb rfl)), ?_⟩
    refine And.intro (zA_63 hS) (zrdR (v := some 74) (zR_63_7 hR) ?_)
    refine And.intro (zA_74 hS) ⟨_, (zWi (zRb rfl)), ?_⟩
    refine And.intro (zA_63 hS) (zrdR (v := some 76) (zR_63_8 hR) ?_)
    refine And.intro (zA_76 hS) ⟨_, (zWi (zRb rfl)), ?_⟩
    refine ⟨((201 - (0 : Nat)), 0, 0), [some (zvr (63)), some (zvi ((0 : Nat))), none, none], ⟨rfl, rfl, rfl⟩, 0, rfl, rfl, rfl, rfl, rfl, rfl, (by omega), (zDA_0 hSA ⟨⟨(zxcj (by decide) (zxcj (by decide) (zxcj (by decide) (zxcj (by decide) (zxcj (by decide) hrm.1))))), (zxcj (by decide) (zxcj (by decide) (zxcj (by decide) (zxcj (by decide) (zxcj (by decide) hrm.2.1))))), (zxcj (by decide) (zxcj (by decide) (zxcj (by decide) (zxcj (by decide) (zxcj (by decide) hrm.2.2.1))))), (zxcj (by decide) (zxcj (by decide) (zxcj (by decide) (zxcj (by decide) (zxcj (by decide) hrm.2.2.2.1))))), (zxcj (by decide) (zxcj (by decide) (zxcj (by decide) (zxcj (by decide) (zxcj (by decide) hrm.2.2.2.2)))))⟩, (zxcj (by decide) (zxcj (by decide) (zxcj (by decide) (zxcj (by decide) zxe)))), (zxcj (by decide) (zxcj (by decide) (zxcj (by decide) zxe))), (zxcj (by decide) (zxcj (by decide) zxe)), (zxcj (by decide) zxe), zxe⟩ (fun c j h => (zxu (by omega) (zxu (by omega) (zxu (by omega) (zxu (by omega) (zxu (by omega) rfl))))))), (fun c j h0 h1 h2 h3 h4 h5 h6 h7 h8 h9 => (zxcj h8 (zxcj h6 (zxcj h4 (zxcj h2 (zxcj h0 rfl))))))⟩
  · rintro nM lsM stM I1 L1 R1 S1 hz1 ⟨m, rfl, rfl, rfl, rfl, rfl, rfl, hm, hDA1, fr⟩
    have hok := oDt_k hG hm
    refine And.intro (zA_63 hS) (zrdR (v := some k) hob ?_)
    refine And.intro (zDX hD 0 rfl) (zrd (v := (ocn O)) ((fr k 0 (by omega) (by omega) (by omega) (by omega) (by omega) (by omega) (by omega) (by omega) (by omega) (by omega)).trans o1) ?_)
    refine And.intro ⟨(by omega), (by omega)⟩ ⟨fun h50 => ?_, fun h50 => ?_⟩
    · refine hQ _ ?_ (fun c j h0 h1 h2 h3 h4 h5 h6 h7 h8 h9 => ((fr c j (by omega) (by omega) (by omega) (by omega) (by omega) (by omega) (by omega) (by omega) (by omega) (by omega)).trans rfl))
      · obtain rfl : m = ocn O := (by omega)
        exact hDA1
    · refine And.intro (zA_63 hS) (zrdR (v := some k) hob ?_)
      refine And.intro (zDX hD 0 rfl) ⟨_, sn_O_kind.up (by decide), ?_⟩
      refine ⟨k, O, (m : Int), m, rfl, hS, hR, hD, (by first | exact (zOB_fr hO (fun c j h => ((fr c j (by omega) (by omega) (by omega) (by omega) (by omega) (by omega) (by omega) (by omega) (by omega) (by omega)).trans rfl)) (fun c j h => rfl)) | (clear hQ; grind [xu])), (by first | exact hG | (clear hQ; grind [xu])), (by omega), ?_⟩
      intro v58o p58hv p58bhv2
      refine And.intro (zA_63 hS) (zrdR (v := some k) hob ?_)
      refine And.intro (zDX hD 0 rfl) ⟨_, sn_O_par.up (by decide), ?_⟩
      refine ⟨k, O, (m : Int), m, rfl, hS, hR, hD, (by first | exact (zOB_fr hO (fun c j h => ((fr c j (by omega) (by omega) (by omega) (by omega) (by omega) (by omega) (by omega) (by omega) (by omega) (by omega)).trans rfl)) (fun c j h => rfl)) | (clear hQ; grind [xu])), (by first | exact hG | (clear hQ; grind [xu])), (by omega), ?_⟩
      intro v67o p67hv p67bhv2
      refine And.intro ⟨(by omega), (zRb rfl)⟩ ⟨fun h74 => ?_, fun h74 => ?_⟩
      · refine And.intro ⟨(by omega), (zRb rfl)⟩ ⟨fun h105 => ?_, fun h105 => ?_⟩
        · refine And.intro ⟨(by omega), (zRb rfl)⟩ ⟨fun h135 => ?_, fun h135 => ?_⟩
          · refine ⟨((201 - (m + 1)), 0, 0), zlt6 (by omega), [some (zvr (63)), some (zvi ((m + 1))), none, none], ⟨rfl, rfl, rfl⟩, (m + 1), rfl, rfl, rfl, rfl, rfl, rfl, (by omega), ?_, (fun c j h0 h1 h2 h3 h4 h5 h6 h7 h8 h9 => ((fr c j (by omega) (by omega) (by omega) (by omega) (by omega) (by omega) (by omega) (by omega) (by omega) (by omega)).trans rfl))⟩
            · show zDA (oStp O m (oDt O m)) ob _
              first
              | (rw [oStp_W ⟨by omega, (oDr_i (j := opa O m) (s := v80o) hok.2.1 p80hv).mpr (by rcases p83hv with q | q; exact q.2; omega)⟩]
                 have w := p96hDA2
                 rw [p93hv] at w
                 exact w)
              | (rw [oStp_N ⟨by omega, (oDr_i (j := opa O m) (s := v111o) hok.2.1 p111hv).mpr (by rcases p114hv with q | q; exact q.2; omega)⟩]
                 have w := p127hDA2
                 rw [p124hv] at w
                 exact w)
              | (rw [oStp_T (by omega)]
                 exact p148hDA2)
              | (rw [oStp_n (by omega) (fun w1 w2 => by
                   have w3 := oDr_i (O := O) (d := oDt O m) (j := opa O m) (s := oSh O (opa O m).toNat) hok.2.1 rfl
                   have w4 := w3.mp w2
                   first
                   | omega
                   | (rcases p83hv with q | q
                      · omega
                      · rw [p80hv] at q; exact q.2 w4)
                   | (rcases p114hv with q | q
                      · omega
                      · rw [p111hv] at q; exact q.2 w4))]
                 exact hDA1)
          · have t135 : 0 ≤ opa O m ∧ opa O m + 1 ≤ ocn O := (by have w := (oPar hG (k := m) (by omega) (by omega)).2.1; omega)
            refine And.intro (zA_63 hS) (zrdR (v := some k) hob ?_)
            refine And.intro (zDX hD 0 rfl) ⟨_, sn_O_par.up (by decide), ?_⟩
            refine ⟨k, O, (v67o : Int), v67o.toNat, rfl, hS, hR, hD, (by first | exact (zOB_fr hO (fun c j h => ((fr c j (by omega) (by omega) (by omega) (by omega) (by omega) (by omega) (by omega) (by omega) (by omega) (by omega)).trans rfl)) (fun c j h => rfl)) | (clear hQ; grind [xu])), (by first | exact hG | (clear hQ; grind [xu])), (by omega), ?_⟩
            intro v145o p145hv p145bhv2
            have g145 : 0 ≤ v145o ∧ v145o + 1 ≤ ocn O := (by have w := oSy_b hG (k := m) (by omega) (by omega); rw [p145hv, p67hv]; have w1 := w.1; have e : oSy O m = opa O (opa O m).toNat := rfl; omega)
            refine And.intro (zA_63 hS) ⟨_, sn_C_pin.up (by decide), ?_⟩
            refine ⟨k, O, (oDt O m), ob, (m : Int), m, (v145o : Int), v145o.toNat, rfl, hS, hR, hob, hD, (by omega), (by first | exact (zOB_fr hO (fun c j h => ((fr c j (by omega) (by omega) (by omega) (by omega) (by omega) (by omega) (by omega) (by omega) (by omega) (by omega)).trans rfl)) (fun c j h => rfl)) | (clear hQ; grind [xu])), (by first | exact hG | (clear hQ; grind [xu])), (by first | exact (zDA_fr hDA1 (fun c j h => rfl)) | (clear hQ; grind [xu])), hok.1, hok, (fun j hj => (fr 64 _ (by omega) (by omega) (by omega) (by omega) (by omega) (by omega) (by omega) (by omega) (by omega) (by omega)).trans (h64 j hj)), (by omega), (by omega), (by have e : oSy O m = opa O (opa O m).toNat := rfl; rw [p67hv] at p145hv; omega), (by have w := (oSy_b hG (k := m) (by omega) (by omega)).2; have e : oSy O m = opa O (opa O m).toNat := rfl; rw [p67hv] at p145hv; rw [e, ← p145hv] at w; exact w), ?_⟩
            intro I148o p148hDA2 p148bfr
            refine ⟨((201 - (m + 1)), 0, 0), zlt6 (by omega), [some (zvr (63)), some (zvi ((m + 1))), none, none], ⟨rfl, rfl, rfl⟩, (m + 1), rfl, rfl, rfl, rfl, rfl, rfl, (by omega), ?_, (fun c j h0 h1 h2 h3 h4 h5 h6 h7 h8 h9 => ((p148bfr c j (by omega) (by omega)).trans ((fr c j (by omega) (by omega) (by omega) (by omega) (by omega) (by omega) (by omega) (by omega) (by omega) (by omega)).trans rfl)))⟩
            · show zDA (oStp O m (oDt O m)) ob _
              first
              | (rw [oStp_W ⟨by omega, (oDr_i (j := opa O m) (s := v80o) hok.2.1 p80hv).mpr (by rcases p83hv with q | q; exact q.2; omega)⟩]
                 have w := p96hDA2
                 rw [p93hv] at w
                 exact w)
              | (rw [oStp_N ⟨by omega, (oDr_i (j := opa O m) (s := v111o) hok.2.1 p111hv).mpr (by rcases p114hv with q | q; exact q.2; omega)⟩]
                 have w := p127hDA2
                 rw [p124hv] at w
                 exact w)
              | (rw [oStp_T (by omega)]
                 exact p148hDA2)
              | (rw [oStp_n (by omega) (fun w1 w2 => by
                   have w3 := oDr_i (O := O) (d := oDt O m) (j := opa O m) (s := oSh O (opa O m).toNat) hok.2.1 rfl
                   have w4 := w3.mp w2
                   first
                   | omega
                   | (rcases p83hv with q | q
                      · omega
                      · rw [p80hv] at q; exact q.2 w4)
                   | (rcases p114hv with q | q
                      · omega
                      · rw [p111hv] at q; exact q.2 w4))]
                 exact hDA1)
        · have t105 : 0 ≤ opa O m ∧ opa O m + 1 ≤ ocn O := (by have w := (oPar hG (k := m) (by omega) (by omega)).2.1; omega)
          refine And.intro (zA_63 hS) ⟨_, sn_C_sof.up (by decide), ?_⟩
          refine ⟨k, O, (v67o : Int), v67o.toNat, (oSh O (opa O m).toNat), rfl, hS, hR, hob, hD, (by omega), (by first | exact (zOB_fr hO (fun c j h => ((fr c j (by omega) (by omega) (by omega) (by omega) (by omega) (by omega) (by omega) (by omega) (by omega) (by omega)).trans rfl)) (fun c j h => rfl)) | (clear hQ; grind [xu])), (by first | exact hG | (clear hQ; grind [xu])), (by omega), ((fr 64 _ (by omega) (by omega) (by omega) (by omega) (by omega) (by omega) (by omega) (by omega) (by omega) (by omega)).trans (by rw [p67hv]; exact h64 _ (by omega))), ?_⟩
          intro v111o p111hv
          have g111 : -1 ≤ v111o ∧ v111o + 1 ≤ dns (oDt O m) := (oSh_c hok p111hv (by omega))
          refine And.intro (zA_63 hS) ⟨_, sn_C_isd.up (by decide), ?_⟩
          refine ⟨(oDt O m), ob, (v111o : Int), rfl, hS, hR, (by first | exact (zDA_fr hDA1 (fun c j h => rfl)) | (clear hQ; grind [xu])), hok.1, (by omega), ?_⟩
          intro v114o p114hv p114bhv2
          refine And.intro (by omega) ⟨fun h117 => ?_, fun h117 => ?_⟩
          · refine And.intro ⟨(by omega), (zRb rfl)⟩ ⟨fun h135 => ?_, (fun h135 => False.elim (by omega))⟩
            refine ⟨((201 - (m + 1)), 0, 0), zlt6 (by omega), [some (zvr (63)), some (zvi ((m + 1))), none, none], ⟨rfl, rfl, rfl⟩, (m + 1), rfl, rfl, rfl, rfl, rfl, rfl, (by omega), ?_, (fun c j h0 h1 h2 h3 h4 h5 h6 h7 h8 h9 => ((fr c j (by omega) (by omega) (by omega) (by omega) (by omega) (by omega) (by omega) (by omega) (by omega) (by omega)).trans rfl))⟩
            · show zDA (oStp O m (oDt O m)) ob _
              first
              | (rw [oStp_W ⟨by omega, (oDr_i (j := opa O m) (s := v80o) hok.2.1 p80hv).mpr (by rcases p83hv with q | q; exact q.2; omega)⟩]
                 have w := p96hDA2
                 rw [p93hv] at w
                 exact w)
              | (rw [oStp_N ⟨by omega, (oDr_i (j := opa O m) (s := v111o) hok.2.1 p111hv).mpr (by rcases p114hv with q | q; exact q.2; omega)⟩]
                 have w := p127hDA2
                 rw [p124hv] at w
                 exact w)
              | (rw [oStp_T (by omega)]
                 exact p148hDA2)
              | (rw [oStp_n (by omega) (fun w1 w2 => by
                   have w3 := oDr_i (O := O) (d := oDt O m) (j := opa O m) (s := oSh O (opa O m).toNat) hok.2.1 rfl
                   have w4 := w3.mp w2
                   first
                   | omega
                   | (rcases p83hv with q | q
                      · omega
                      · rw [p80hv] at q; exact q.2 w4)
                   | (rcases p114hv with q | q
                      · omega
                      · rw [p111hv] at q; exact q.2 w4))]
                 exact hDA1)
          · refine And.intro (zA_63 hS) ⟨_, sn_C_sof.up (by decide), ?_⟩
            refine ⟨k, O, (v67o : Int), v67o.toNat, (oSh O (opa O m).toNat), rfl, hS, hR, hob, hD, (by omega), (by first | exact (zOB_fr hO (fun c j h => ((fr c j (by omega) (by omega) (by omega) (by omega) (by omega) (by omega) (by omega) (by omega) (by omega) (by omega)).trans rfl)) (fun c j h => rfl)) | (clear hQ; grind [xu])), (by first | exact hG | (clear hQ; grind [xu])), (by omega), ((fr 64 _ (by omega) (by omega) (by omega) (by omega) (by omega) (by omega) (by omega) (by omega) (by omega) (by omega)).trans (by rw [p67hv]; exact h64 _ (by omega))), ?_⟩
            intro v124o p124hv
            have g124 : 0 ≤ v124o ∧ v124o ≤ 15 := (by have w := hok.1.1.1; rcases p114hv with q | q; (have q1 := q.2.1; omega); omega)
            refine And.intro (zA_63 hS) ⟨_, sn_C_addN.up (by decide), ?_⟩
            refine ⟨k, O, (oDt O m), ob, (m : Int), m, (v124o : Int), rfl, hS, hR, hob, hD, (by omega), (by first | exact (zOB_fr hO (fun c j h => ((fr c j (by omega) (by omega) (by omega) (by omega) (by omega) (by omega) (by omega) (by omega) (by omega) (by omega)).trans rfl)) (fun c j h => rfl)) | (clear hQ; grind [xu])), (by first | exact hG | (clear hQ; grind [xu])), (by first | exact (zDA_fr hDA1 (fun c j h => rfl)) | (clear hQ; grind [xu])), hok.1, (by omega), (by rcases p114hv with q | q; rw [p124hv, ← p111hv]; exact ⟨q.2.1, by omega, q.2.2⟩; omega), ?_⟩
            intro I127o p127hDA2 p127bfr
            refine ⟨((201 - (m + 1)), 0, 0), zlt6 (by omega), [some (zvr (63)), some (zvi ((m + 1))), none, none], ⟨rfl, rfl, rfl⟩, (m + 1), rfl, rfl, rfl, rfl, rfl, rfl, (by omega), ?_, (fun c j h0 h1 h2 h3 h4 h5 h6 h7 h8 h9 => ((p127bfr c j (by omega) (by omega) (by omega) (by omega) (by omega) (by omega)).trans ((fr c j (by omega) (by omega) (by omega) (by omega) (by omega) (by omega) (by omega) (by omega) (by omega) (by omega)).trans rfl)))⟩
            · show zDA (oStp O m (oDt O m)) ob _
              first
              | (rw [oStp_W ⟨by omega, (oDr_i (j := opa O m) (s := v80o) hok.2.1 p80hv).mpr (by rcases p83hv with q | q; exact q.2; omega)⟩]
                 have w := p96hDA2
                 rw [p93hv] at w
                 exact w)
              | (rw [oStp_N ⟨by omega, (oDr_i (j := opa O m) (s := v111o) hok.2.1 p111hv).mpr (by rcases p114hv with q | q; exact q.2; omega)⟩]
                 have w := p127hDA2
                 rw [p124hv] at w
                 exact w)
              | (rw [oStp_T (by omega)]
                 exact p148hDA2)
              | (rw [oStp_n (by omega) (fun w1 w2 => by
                   have w3 := oDr_i (O := O) (d := oDt O m) (j := opa O m) (s := oSh O (opa O m).toNat) hok.2.1 rfl
                   have w4 := w3.mp w2
                   first
                   | omega
                   | (rcases p83hv with q | q
                      · omega
                      · rw [p80hv] at q; exact q.2 w4)
                   | (rcases p114hv with q | q
                      · omega
                      · rw [p111hv] at q; exact q.2 w4))]
                 exact hDA1)
      · have t74 : 0 ≤ opa O m ∧ opa O m + 1 ≤ ocn O := (by have w := (oPar hG (k := m) (by omega) (by omega)).2.1; omega)
        refine And.intro (zA_63 hS) ⟨_, sn_C_sof.up (by decide), ?_⟩
        refine ⟨k, O, (v67o : Int), v67o.toNat, (oSh O (opa O m).toNat), rfl, hS, hR, hob, hD, (by omega), (by first | exact (zOB_fr hO (fun c j h => ((fr c j (by omega) (by omega) (by omega) (by omega) (by omega) (by omega) (by omega) (by omega) (by omega) (by omega)).trans rfl)) (fun c j h => rfl)) | (clear hQ; grind [xu])), (by first | exact hG | (clear hQ; grind [xu])), (by omega), ((fr 64 _ (by omega) (by omega) (by omega) (by omega) (by omega) (by omega) (by omega) (by omega) (by omega) (by omega)).trans (by rw [p67hv]; exact h64 _ (by omega))), ?_⟩
        intro v80o p80hv
        have g80 : -1 ≤ v80o ∧ v80o + 1 ≤ dns (oDt O m) := (oSh_c hok p80hv (by omega))
        refine And.intro (zA_63 hS) ⟨_, sn_C_isd.up (by decide), ?_⟩
        refine ⟨(oDt O m), ob, (v80o : Int), rfl, hS, hR, (by first | exact (zDA_fr hDA1 (fun c j h => rfl)) | (clear hQ; grind [xu])), hok.1, (by omega), ?_⟩
        intro v83o p83hv p83bhv2
        refine And.intro (by omega) ⟨fun h86 => ?_, fun h86 => ?_⟩
        · refine And.intro ⟨(by omega), (zRb rfl)⟩ ⟨fun h105 => ?_, (fun h105 => False.elim (by omega))⟩
          refine And.intro ⟨(by omega), (zRb rfl)⟩ ⟨fun h135 => ?_, (fun h135 => False.elim (by omega))⟩
          refine ⟨((201 - (m + 1)), 0, 0), zlt6 (by omega), [some (zvr (63)), some (zvi ((m + 1))), none, none], ⟨rfl, rfl, rfl⟩, (m + 1), rfl, rfl, rfl, rfl, rfl, rfl, (by omega), ?_, (fun c j h0 h1 h2 h3 h4 h5 h6 h7 h8 h9 => ((fr c j (by omega) (by omega) (by omega) (by omega) (by omega) (by omega) (by omega) (by omega) (by omega) (by omega)).trans rfl))⟩
          · show zDA (oStp O m (oDt O m)) ob _
            first
            | (rw [oStp_W ⟨by omega, (oDr_i (j := opa O m) (s := v80o) hok.2.1 p80hv).mpr (by rcases p83hv with q | q; exact q.2; omega)⟩]
               have w := p96hDA2
               rw [p93hv] at w
               exact w)
            | (rw [oStp_N ⟨by omega, (oDr_i (j := opa O m) (s := v111o) hok.2.1 p111hv).mpr (by rcases p114hv with q | q; exact q.2; omega)⟩]
               have w := p127hDA2
               rw [p124hv] at w
               exact w)
            | (rw [oStp_T (by omega)]
               exact p148hDA2)
            | (rw [oStp_n (by omega) (fun w1 w2 => by
                 have w3 := oDr_i (O := O) (d := oDt O m) (j := opa O m) (s := oSh O (opa O m).toNat) hok.2.1 rfl
                 have w4 := w3.mp w2
                 first
                 | omega
                 | (rcases p83hv with q | q
                    · omega
                    · rw [p80hv] at q; exact q.2 w4)
                 | (rcases p114hv with q | q
                    · omega
                    · rw [p111hv] at q; exact q.2 w4))]
               exact hDA1)
        · refine And.intro (zA_63 hS) ⟨_, sn_C_sof.up (by decide), ?_⟩
          refine ⟨k, O, (v67o : Int), v67o.toNat, (oSh O (opa O m).toNat), rfl, hS, hR, hob, hD, (by omega), (by first | exact (zOB_fr hO (fun c j h => ((fr c j (by omega) (by omega) (by omega) (by omega) (by omega) (by omega) (by omega) (by omega) (by omega) (by omega)).trans rfl)) (fun c j h => rfl)) | (clear hQ; grind [xu])), (by first | exact hG | (clear hQ; grind [xu])), (by omega), ((fr 64 _ (by omega) (by omega) (by omega) (by omega) (by omega) (by omega) (by omega) (by omega) (by omega) (by omega)).trans (by rw [p67hv]; exact h64 _ (by omega))), ?_⟩
          intro v93o p93hv
          have g93 : 0 ≤ v93o ∧ v93o ≤ 15 := (by have w := hok.1.1.1; rcases p83hv with q | q; (have q1 := q.2.1; omega); omega)
          refine And.intro (zA_63 hS) ⟨_, sn_C_addW.up (by decide), ?_⟩
          refine ⟨k, O, (oDt O m), ob, (m : Int), m, (v93o : Int), rfl, hS, hR, hob, hD, (by omega), (by first | exact (zOB_fr hO (fun c j h => ((fr c j (by omega) (by omega) (by omega) (by omega) (by omega) (by omega) (by omega) (by omega) (by omega) (by omega)).trans rfl)) (fun c j h => rfl)) | (clear hQ; grind [xu])), (by first | exact hG | (clear hQ; grind [xu])), (by first | exact (zDA_fr hDA1 (fun c j h => rfl)) | (clear hQ; grind [xu])), hok.1, (by omega), (by omega), ?_⟩
          intro I96o p96hDA2 p96bfr
          refine ⟨((201 - (m + 1)), 0, 0), zlt6 (by omega), [some (zvr (63)), some (zvi ((m + 1))), none, none], ⟨rfl, rfl, rfl⟩, (m + 1), rfl, rfl, rfl, rfl, rfl, rfl, (by omega), ?_, (fun c j h0 h1 h2 h3 h4 h5 h6 h7 h8 h9 => ((p96bfr c j (by omega) (by omega)).trans ((fr c j (by omega) (by omega) (by omega) (by omega) (by omega) (by omega) (by omega) (by omega) (by omega) (by omega)).trans rfl)))⟩
          · show zDA (oStp O m (oDt O m)) ob _
            first
            | (rw [oStp_W ⟨by omega, (oDr_i (j := opa O m) (s := v80o) hok.2.1 p80hv).mpr (by rcases p83hv with q | q; exact q.2; omega)⟩]
               have w := p96hDA2
               rw [p93hv] at w
               exact w)
            | (rw [oStp_N ⟨by omega, (oDr_i (j := opa O m) (s := v111o) hok.2.1 p111hv).mpr (by rcases p114hv with q | q; exact q.2; omega)⟩]
               have w := p127hDA2
               rw [p124hv] at w
               exact w)
            | (rw [oStp_T (by omega)]
               exact p148hDA2)
            | (rw [oStp_n (by omega) (fun w1 w2 => by
                 have w3 := oDr_i (O := O) (d := oDt O m) (j := opa O m) (s := oSh O (opa O m).toNat) hok.2.1 rfl
                 have w4 := w3.mp w2
                 first
                 | omega
                 | (rcases p83hv with q | q
                    · omega
                    · rw [p80hv] at q; exact q.2 w4)
                 | (rcases p114hv with q | q
                    · omega
                    · rw [p111hv] at q; exact q.2 w4))]
               exact hDA1))
def T_C_draw : ZT := fun args I L R S Q => ∃ (k : Nat) (O : OoS) (t : Int), args = [zvr 63, zvr k] ∧ (zSh S) ∧ (zRs R) ∧ (zDy zT2 zF2 k R S) ∧ (43 ≤ k ∧ k ≤ 52) ∧ (zOB k O I L) ∧ (oGd O) ∧ (I 65 1 = 16) ∧ (I 68 1 = 100 ∧ I 70 1 = 50 ∧ I 72 1 = 60 ∧ I 74 1 = 30 ∧ I 76 1 = 60) ∧ (I 63 15 = t) ∧ (0 ≤ t ∧ t ≤ 10) ∧ ∀ (I' : ZI) (R' : ZR), (zDA (oD O) (oSt O (ocn O)).2 I') → (zCf (oD O) I') → (zCw (oD O) I') → (I' 63 15 = t + 1) → (zRs R') → (R' 63 0 = some k) → (∀ c j : Nat, ¬ (c = 63 ∧ j = 13) → ¬ (c = 63 ∧ j = 14) → ¬ (c = 63 ∧ j = 15) → ¬ c = 64 → ¬ (c = 65 ∧ j = 2) → ¬ c = 66 → ¬ c = 67 → ¬ (c = 68 ∧ j = 2) → ¬ c = 69 → ¬ (c = 70 ∧ j = 2) → ¬ c = 71 → ¬ (c = 72 ∧ j = 2) → ¬ c = 73 → ¬ (c = 74 ∧ j = 2) → ¬ c = 75 → ¬ (c = 76 ∧ j = 2) → ¬ c = 77 → ¬ c = 78 → ¬ c = 79 → ¬ c = 80 → ¬ c = 81 → I' c j = I c j) → (∀ c j : Nat, ¬ (c = 63 ∧ j = 0) → R' c j = R c j) → Q none I' L R' S
theorem sn_C_draw : ZSnd 7 3 6 T_C_draw := ZSnd.of (zT3_6 6) (by
  rintro args I L R S Q hz ⟨k, O, t, rfl, hS, hR, hD, hk, hO, hG, hr0, hrm, htd, htb, hQ⟩
  obtain ⟨o1, o2, o3, o4⟩ := id hO
  obtain ⟨g1, g2, g3, g4, g5⟩ := id hG
  have hk40 := hD.1
  have hk1 := hk.1
  have hk2 := hk.2
  have hgd : jGd (oD O) := (oDt_k hG (Nat.le_refl (ocn O))).1
  refine And.intro rfl ?_
  refine And.intro (zA_63 hS) ?_
  have hR2 : zRs (xu R 63 0 (some k)) := zRs_xu hR (by decide +kernel)
  refine And.intro (zA_63 hS) (zrd (v := t) htd ?_)
  refine And.intro (zA_63 hS) ⟨_, (zWi (by omega)), ?_⟩
  refine And.intro (zA_63 hS) ⟨_, sn_C_fsh.up (by decide), ?_⟩
  refine ⟨k, O, rfl, hS, hR2, rfl, (zDy_xu hD (by decide) (by show _ < _ ∨ _ + 9 ≤ _; omega)), (by omega), (by first | exact (zOB_fr hO (fun c j h => (zxcj (by omega) rfl)) (fun c j h => rfl)) | (clear hQ; grind [xu])), (by first | exact hG | (clear hQ; grind [xu])), (zxcj (by decide) hr0), ?_⟩
  intro I16o p16hSA p16bh64 p16bbfr
  refine And.intro (zA_63 hS) ⟨_, sn_C_gat.up (by decide), ?_⟩
  refine ⟨k, O, (oSt O (ocn O)).2, rfl, hS, hR2, rfl, (zDy_xu hD (by decide) (by show _ < _ ∨ _ + 9 ≤ _; omega)), (by omega), (by first | exact (zOB_fr hO (fun c j h => ((p16bbfr c j (by omega) (by omega) (by omega) (by omega)).trans (zxcj (by omega) rfl))) (fun c j h => rfl)) | (clear hQ; grind [xu])), (by first | exact hG | (clear hQ; grind [xu])), p16hSA, p16bh64, ⟨((p16bbfr 68 _ (by omega) (by omega) (by omega) (by omega)).trans (zxcj (by omega) rfl)).trans hrm.1, ((p16bbfr 70 _ (by omega) (by omega) (by omega) (by omega)).trans (zxcj (by omega) rfl)).trans hrm.2.1, ((p16bbfr 72 _ (by omega) (by omega) (by omega) (by omega)).trans (zxcj (by omega) rfl)).trans hrm.2.2.1, ((p16bbfr 74 _ (by omega) (by omega) (by omega) (by omega)).trans (zxcj (by omega) rfl)).trans hrm.2.2.2.1, ((p16bbfr 76 _ (by omega) (by omega) (by omega) (by omega)).trans (zxcj (by omega) rfl)).trans hrm.2.2.2.2⟩, ?_⟩
  intro I20o p20hDA2 p20bfr
  refine And.intro (zA_63 hS) ⟨_, sn_C_all.up (by decide), ?_⟩
  refine ⟨(oD O), (oSt O (ocn O)).2, rfl, hS, hR2, p20hDA2, hgd, ?_⟩
  intro I24o p24hJF2 p24bfr
  refine And.intro (zA_63 hS) ⟨_, sn_C_num.up (by decide), ?_⟩
  refine ⟨(oD O), (oSt O (ocn O)).2, rfl, hS, hR2, (zDA_fr p20hDA2 (fun c j h => p24bfr c j (by omega))), hgd, p24hJF2, ?_⟩
  intro I28o p28hCn2 p28bhJF2 p28bbfr
  refine And.intro (zA_63 hS) ⟨_, sn_C_coll.up (by decide), ?_⟩
  refine ⟨(oD O), (oSt O (ocn O)).2, rfl, hS, hR2, (zDA_fr p20hDA2 (fun c j h => (p28bbfr c j (by omega) (by omega) (by omega) (by omega)).trans (p24bfr c j (by omega)))), hgd, p28bhJF2, p28hCn2, ?_⟩
  intro I32o p32hCf p32bhJF2 p32bbfr
  refine hQ _ _ (zDA_fr p20hDA2 (fun c j h => (p32bbfr c j (by omega) (by omega) (by omega) (by omega)).trans ((p28bbfr c j (by omega) (by omega) (by omega) (by omega)).trans (p24bfr c j (by omega))))) p32hCf (zCw_n p28hCn2 (fun c j h => p32bbfr c j (by omega) (by omega) (by omega) (by omega))) (Eq.trans (b := ((t + 1) : Int)) ((p32bbfr 63 15 (by omega) (by omega) (by omega) (by omega)).trans ((p28bbfr 63 15 (by omega) (by omega) (by omega) (by omega)).trans ((p24bfr 63 15 (by omega)).trans ((p20bfr 63 15 (by omega) (by omega) (by omega) (by omega) (by omega) (by omega) (by omega) (by omega) (by omega) (by omega)).trans ((p16bbfr 63 15 (by omega) (by omega) (by omega) (by omega)).trans rfl))))) (by omega)) hR2 rfl (fun c j h0 h1 h2 h3 h4 h5 h6 h7 h8 h9 h10 h11 h12 h13 h14 h15 h16 h17 h18 h19 h20 => ((p32bbfr c j (by omega) (by omega) (by omega) (by omega)).trans ((p28bbfr c j (by omega) (by omega) (by omega) (by omega)).trans ((p24bfr c j (by omega)).trans ((p20bfr c j (by omega) (by omega) (by omega) (by omega) (by omega) (by omega) (by omega) (by omega) (by omega) (by omega)).trans ((p16bbfr c j (by omega) (by omega) (by omega) (by omega)).trans (zxcj h2 rfl))))))) (fun c j h0 => (zxcj h0 rfl)))
def T_C_netO2 : ZT := fun args I L R S Q => ∃ (d : JdS) (ob : Nat → Int) (x : Int) (y : Int), args = [zvr 63, zvi x, zvi y] ∧ (zSh S) ∧ (zRs R) ∧ (zDA d ob I) ∧ (jGd d) ∧ (zCw d I) ∧ (r32 x ∧ r32 y) ∧ ∀ (v : Int), (v = jOf d x y) → Q (some (zvi (v))) I L R S
theorem sn_C_netO2 : ZSnd 3 3 31 T_C_netO2 := ZSnd.of (zT3_31 2) (by
  rintro args I L R S Q hz ⟨d, ob, x, y, rfl, hS, hR, hDA, hJG, hCn, hr, hQ⟩
  obtain ⟨hSR, hCS, hWR, hJR, hLR, hPR, hTR⟩ := id hDA
  obtain ⟨⟨g1, g2, g3, g4, g5, g6⟩, gs, gw, gj, gl, gp, gt⟩ := id hJG
  obtain ⟨c1_, c2_, c3_, c4_⟩ := id hSR
  obtain ⟨w1_, w2_, w3_, w4_⟩ := id hWR
  obtain ⟨j1_, j2_, j3_, j4_⟩ := id hJR
  obtain ⟨l1_, l2_, l3_, l4_⟩ := id hLR
  obtain ⟨p1_, p2_, p3_, p4_⟩ := id hPR
  obtain ⟨t1_, t2_, t3_, t4_⟩ := id hTR
  refine And.intro rfl ?_
  refine And.intro (by omega) ⟨fun h1 => ?_, fun h1 => ?_⟩
  · refine And.intro (zRb rfl) (zbt rfl ?_)
    refine hQ _ ?_
    · unfold jOf
      first
      | (rw [if_neg (by omega)])
      | (have hle := jNc_le (dbs d) (dT d x.toNat 0) (dns d)
         rw [if_pos ⟨by omega, by omega, by omega⟩]
         have hV : jV d (16 * x.toNat + y.toNat) := by
           have e1 : (16 * x.toNat + y.toNat) / 16 = x.toNat := (by omega)
           have e2 : (16 * x.toNat + y.toNat) % 16 = y.toNat := (by omega)
           unfold jV
           rw [e1, e2]
           exact ⟨by omega, by omega⟩
         exact e56.trans ((congrArg (I 79) (by omega)).trans (hCn.2 (16 * x.toNat + y.toNat) (by omega) hV)))
  · refine And.intro (zA_63 hS) (zrdR (v := some 76) (zR_63_8 hR) ?_)
    refine And.intro (zA_76 hS) (zrd (v := (dnt d)) t2_ ?_)
    refine And.intro ⟨(by omega), (by omega)⟩ ⟨fun h12 => ?_, fun h12 => ?_⟩
    · refine And.intro (zRb rfl) (zbt rfl ?_)
      refine hQ _ ?_
      · unfold jOf
        first
        | (rw [if_neg (by omega)])
        | (have hle := jNc_le (dbs d) (dT d x.toNat 0) (dns d)
           rw [if_pos ⟨by omega, by omega, by omega⟩]
           have hV : jV d (16 * x.toNat + y.toNat) := by
             have e1 : (16 * x.toNat + y.toNat) / 16 = x.toNat := (by omega)
             have e2 : (16 * x.toNat + y.toNat) % 16 = y.toNat := (by omega)
             unfold jV
             rw [e1, e2]
             exact ⟨by omega, by omega⟩
           exact e56.trans ((congrArg (I 79) (by omega)).trans (hCn.2 (16 * x.toNat + y.toNat) (by omega) hV)))
    · refine And.intro (zRb rfl) (zbf rfl ?_)
      refine And.intro (by omega) ⟨fun h26 => ?_, fun h26 => ?_⟩
      · refine hQ _ ?_
        · unfold jOf
          first
          | (rw [if_neg (by omega)])
          | (have hle := jNc_le (dbs d) (dT d x.toNat 0) (dns d)
             rw [if_pos ⟨by omega, by omega, by omega⟩]
             have hV : jV d (16 * x.toNat + y.toNat) := by
               have e1 : (16 * x.toNat + y.toNat) / 16 = x.toNat := (by omega)
               have e2 : (16 * x.toNat + y.toNat) % 16 = y.toNat := (by omega)
               unfold jV
               rw [e1, e2]
               exact ⟨by omega, by omega⟩
             exact e56.trans ((congrArg (I 79) (by omega)).trans (hCn.2 (16 * x.toNat + y.toNat) (by omega) hV)))
      · refine And.intro (zA_63 hS) (zrdR (v := some 76) (zR_63_8 hR) ?_)
        refine And.intro (zA_76 hS) ⟨_, sn_A_at.up (by decide), ?_⟩
        refine ⟨_, _, _, (dT d), x.toNat, 0, (x : Int), (0 : Int), rfl, hS, hR, (zRw_76 hR hS), (by first | exact (zRT_fr hTR (fun c j h => rfl)) | (clear hQ; grind [xu])), (by omega), (by omega), ?_⟩
        intro v37o p37hv p37bhr
        have g37 : 0 ≤ v37o ∧ v37o + 1 ≤ dns d := (by have := (gt x.toNat (by omega)).1; omega)
        refine And.intro (zA_63 hS) (Exists.intro _ (And.intro (zinl_ok (zT3_5 1)) (And.intro rfl ?_)))
        refine And.intro (zA_63 hS) (zrdR (v := some 65) (zR_63_2 hR) ?_)
        refine And.intro (zA_65 hS) ⟨_, sn_A_at.up (by decide), ?_⟩
        refine ⟨_, _, _, (cSR d ob), (dT d x.toNat 0).toNat, 4, (v37o : Int), (4 : Int), rfl, hS, hR, (zRw_65 hR hS), (by first | exact (zRT_fr hSR (fun c j h => rfl)) | (clear hQ; grind [xu])), (by omega), (by omega), ?_⟩
        intro v6_40o p6_40hv p6_40bhr
        have g6_40 : v6_40o = jNc (dbs d) (dT d x.toNat 0) (dns d) := (p6_40hv.trans (by have q := (gt x.toNat (by omega)).1; show cSR d ob (dT d x.toNat 0).toNat 4 = _; unfold cSR; rw [if_neg (by decide), if_neg (by decide), if_neg (by decide), if_neg (by decide), if_pos rfl, if_pos (by omega), show (((dT d x.toNat 0).toNat : Nat) : Int) = dT d x.toNat 0 by omega]))
        have g6_40b : 0 ≤ v6_40o ∧ v6_40o ≤ 16 := (by have hle := jNc_le (dbs d) (dT d x.toNat 0) (dns d); omega)
        refine And.intro ⟨(by omega), (by omega)⟩ ⟨fun h43 => ?_, fun h43 => ?_⟩
        · refine hQ _ ?_
          · unfold jOf
            first
            | (rw [if_neg (by omega)])
            | (have hle := jNc_le (dbs d) (dT d x.toNat 0) (dns d)
               rw [if_pos ⟨by omega, by omega, by omega⟩]
               have hV : jV d (16 * x.toNat + y.toNat) := by
                 have e1 : (16 * x.toNat + y.toNat) / 16 = x.toNat := (by omega)
                 have e2 : (16 * x.toNat + y.toNat) % 16 = y.toNat := (by omega)
                 unfold jV
                 rw [e1, e2]
                 exact ⟨by omega, by omega⟩
               exact e56.trans ((congrArg (I 79) (by omega)).trans (hCn.2 (16 * x.toNat + y.toNat) (by omega) hV)))
        · refine And.intro (zA_63 hS) (zrdR (v := some 79) (zR_63_10 hR) ?_)
          refine And.intro (zP_79 hS (by omega) (by omega)) (fun v56 e56 r56 => ?_)
          refine hQ _ ?_
          · unfold jOf
            first
            | (rw [if_neg (by omega)])
            | (have hle := jNc_le (dbs d) (dT d x.toNat 0) (dns d)
               rw [if_pos ⟨by omega, by omega, by omega⟩]
               have hV : jV d (16 * x.toNat + y.toNat) := by
                 have e1 : (16 * x.toNat + y.toNat) / 16 = x.toNat := (by omega)
                 have e2 : (16 * x.toNat + y.toNat) % 16 = y.toNat := (by omega)
                 unfold jV
                 rw [e1, e2]
                 exact ⟨by omega, by omega⟩
               exact e56.trans ((congrArg (I 79) (by omega)).trans (hCn.2 (16 * x.toNat + y.toNat) (by omega) hV))))
