/-! sp -/
def T_A_toll : ZT := fun args I L R S Q => ∃ (b : Nat) (s : BdS) (a : Int) (c : Nat) (n : Int) (rr : Int) (hb_ : Nat), args = [zvr 98, zvi a, zvi n, zvi rr] ∧ (zSh S) ∧ (zRs R) ∧ (zBA b s I L) ∧ (bGz s) ∧ (a = c) ∧ (c < bW s * bH s * bD s) ∧ (r32 n) ∧ (rr = 0 ∨ rr = 1) ∧ (bhi s c ≤ hb_ ∧ hb_ ≤ 1000000) ∧ ∀ (v : Int), (v = bTl s n rr c) → (-1 ≤ v ∧ v ≤ hb_ + 300) → Q (some (zvi (v))) I L R S
theorem sn_A_toll : ZSnd 3 6 17 T_A_toll := ZSnd.of (zT6_17 2) (by
  rintro args I L R S Q hz ⟨b, s, a, c, n, rr, hb_, rfl, hS, hR, hBA, hGz, ha, hc, hr, hrr, hbh9, hQ⟩
  obtain ⟨⟨hb0, hbw, hbh, hbd, hbs⟩, hnb, hcl, hPT, hNT, hwy, hco, hnd⟩ := id hBA
  obtain ⟨hP1, hP2, hP3, hP4⟩ := id hPT
  obtain ⟨hN1, hN2, hN3, hN4⟩ := id hNT
  obtain ⟨⟨⟨gW1, gW2⟩, ⟨gH1, gH2⟩, ⟨gD1, gD2⟩, gB9⟩, ⟨gnp, gnn⟩, gco⟩ := id hGz
  have h1024 : c < 1024 := Nat.lt_of_lt_of_le hc gB9
  refine And.intro rfl ?_
  refine And.intro (zA_98 hS) (zrdR (v := some 82) (zR_98_0 hR) ?_)
  refine And.intro (zA_82 hS) ⟨_, sn_A_hby.up (by decide), ?_⟩
  refine ⟨(a : Int), (n : Int), c, (bho s c), rfl, hS, hR, (by omega), ((hcl c h1024).2.2.1), (by omega), ?_⟩
  intro v6o p6hv
  refine And.intro (zA_98 hS) (zrdR (v := some 82) (zR_98_0 hR) ?_)
  refine And.intro (zA_82 hS) (zrdR (v := some 84) (zR_82_6 hR) ?_)
  refine And.intro (Or.inr (zP_84 hS (by omega) (by omega))) (fun v19 e19 r19 => ?_)
  have f19 : v19 = bba s c := (e19.trans ((congrArg (I 84) (by omega)).trans (hcl c h1024).1))
  refine And.intro r19 ⟨fun h20 => ?_, fun h20 => ?_⟩
  · refine hQ _ ?_ (by omega)
    · unfold bTl
      rcases p6hv with w9 | w9
      · have hH : bHl s n c := And.intro (by omega) (by omega)
        first
        | (exfalso; omega)
        | rw [zite_t (Or.inl (by omega))]
        | rw [zite_t (Or.inr (And.intro hH (by omega)))]
        | (rw [zite_f (fun q => by
             rcases q with q | q
             · omega
             · have q1 := q.2
               omega), zite_t hH]
           omega)
      · have hH : ¬ bHl s n c := fun q => by
          have q1 := q.1
          have q2 := q.2
          omega
        first
        | (exfalso; omega)
        | rw [zite_t (Or.inl (by omega))]
        | (rw [zite_f (fun q => by
             rcases q with q | q
             · omega
             · exact absurd q.1 hH), zite_f hH]
           omega)
  · refine And.intro (by omega) ⟨fun h25 => ?_, fun h25 => ?_⟩
    · refine And.intro (zA_98 hS) (zrdR (v := some 82) (zR_98_0 hR) ?_)
      refine And.intro (zA_82 hS) ⟨_, sn_A_ent.up (by decide), ?_⟩
      refine ⟨b, s, (a : Int), c, (n : Int), hb_, rfl, hS, hR, (by first | exact (zBA_fr hBA (fun c j h => rfl) (fun c j h => rfl)) | (clear hQ; grind [xu])), (by first | exact hGz | (clear hQ; grind [xu])), (by omega), (by omega), (by omega), hbh9, ?_⟩
      intro v53o p53hv p53bhv2
      refine And.intro (by omega) ⟨fun h58 => ?_, (fun h58 => False.elim (by omega))⟩
      refine hQ _ ?_ (by omega)
      · unfold bTl
        rcases p6hv with w9 | w9
        · have hH : bHl s n c := And.intro (by omega) (by omega)
          first
          | (exfalso; omega)
          | rw [zite_t (Or.inl (by omega))]
          | rw [zite_t (Or.inr (And.intro hH (by omega)))]
          | (rw [zite_f (fun q => by
               rcases q with q | q
               · omega
               · have q1 := q.2
                 omega), zite_t hH]
             omega)
        · have hH : ¬ bHl s n c := fun q => by
            have q1 := q.1
            have q2 := q.2
            omega
          first
          | (exfalso; omega)
          | rw [zite_t (Or.inl (by omega))]
          | (rw [zite_f (fun q => by
               rcases q with q | q
               · omega
               · exact absurd q.1 hH), zite_f hH]
             omega)
    · refine And.intro (by omega) ⟨fun h29 => ?_, fun h29 => ?_⟩
      · refine hQ _ ?_ (by omega)
        · unfold bTl
          rcases p6hv with w9 | w9
          · have hH : bHl s n c := And.intro (by omega) (by omega)
            first
            | (exfalso; omega)
            | rw [zite_t (Or.inl (by omega))]
            | rw [zite_t (Or.inr (And.intro hH (by omega)))]
            | (rw [zite_f (fun q => by
                 rcases q with q | q
                 · omega
                 · have q1 := q.2
                   omega), zite_t hH]
               omega)
          · have hH : ¬ bHl s n c := fun q => by
              have q1 := q.1
              have q2 := q.2
              omega
            first
            | (exfalso; omega)
            | rw [zite_t (Or.inl (by omega))]
            | (rw [zite_f (fun q => by
                 rcases q with q | q
                 · omega
                 · exact absurd q.1 hH), zite_f hH]
               omega)
      · refine And.intro (zA_98 hS) (zrdR (v := some 82) (zR_98_0 hR) ?_)
        refine And.intro (zA_82 hS) (zrdR (v := some 87) (zR_82_9 hR) ?_)
        refine And.intro (zP_87 hS (by omega) (by omega)) (fun v40 e40 r40 => ?_)
        have f40 : v40 = bpa s c := (e40.trans ((congrArg (I 87) (by omega)).trans (hcl c h1024).2.2.2))
        refine And.intro ⟨r40, (zRb rfl)⟩ ⟨fun h42 => ?_, fun h42 => ?_⟩
        · refine And.intro (zA_98 hS) (zrdR (v := some 82) (zR_98_0 hR) ?_)
          refine And.intro (zA_82 hS) ⟨_, sn_A_ent.up (by decide), ?_⟩
          refine ⟨b, s, (a : Int), c, (n : Int), hb_, rfl, hS, hR, (by first | exact (zBA_fr hBA (fun c j h => rfl) (fun c j h => rfl)) | (clear hQ; grind [xu])), (by first | exact hGz | (clear hQ; grind [xu])), (by omega), (by omega), (by omega), hbh9, ?_⟩
          intro v53o p53hv p53bhv2
          refine And.intro (by omega) ⟨(fun h58 => False.elim (by omega)), fun h58 => ?_⟩
          refine hQ _ ?_ (by omega)
          · unfold bTl
            rcases p6hv with w9 | w9
            · have hH : bHl s n c := And.intro (by omega) (by omega)
              first
              | (exfalso; omega)
              | rw [zite_t (Or.inl (by omega))]
              | rw [zite_t (Or.inr (And.intro hH (by omega)))]
              | (rw [zite_f (fun q => by
                   rcases q with q | q
                   · omega
                   · have q1 := q.2
                     omega), zite_t hH]
                 omega)
            · have hH : ¬ bHl s n c := fun q => by
                have q1 := q.1
                have q2 := q.2
                omega
              first
              | (exfalso; omega)
              | rw [zite_t (Or.inl (by omega))]
              | (rw [zite_f (fun q => by
                   rcases q with q | q
                   · omega
                   · exact absurd q.1 hH), zite_f hH]
                 omega)
        · refine hQ _ ?_ (by omega)
          · unfold bTl
            rcases p6hv with w9 | w9
            · have hH : bHl s n c := And.intro (by omega) (by omega)
              first
              | (exfalso; omega)
              | rw [zite_t (Or.inl (by omega))]
              | rw [zite_t (Or.inr (And.intro hH (by omega)))]
              | (rw [zite_f (fun q => by
                   rcases q with q | q
                   · omega
                   · have q1 := q.2
                     omega), zite_t hH]
                 omega)
            · have hH : ¬ bHl s n c := fun q => by
                have q1 := q.1
                have q2 := q.2
                omega
              first
              | (exfalso; omega)
              | rw [zite_t (Or.inl (by omega))]
              | (rw [zite_f (fun q => by
                   rcases q with q | q
                   · omega
                   · exact absurd q.1 hH), zite_f hH]
                 omega))
def T_A_spr : ZT := fun args I L R S Q => ∃ (b : Nat) (s : BdS) (n : Int) (rr : Int) (T : Nat → Prop) (U : Int) (z : Nat) (sp : Nat → Prop) (lv : Int) (a : Int) (c : Nat), args = [zvr 98, zvi a] ∧ (zSh S) ∧ (zRs R) ∧ (zBA b s I L) ∧ (bGz s) ∧ (a = c) ∧ (sp c) ∧ (lv = bDi s n rr T c * 1024 + c) ∧ (I 98 5 = z) ∧ (z + 6 ≤ 7168) ∧ (bSx s n rr T U (I 99) (L 102) z sp lv c 0) ∧ (hpO (L 102) z) ∧ (hpI (L 102) z) ∧ (∀ d : Nat, d < bK s → I 100 d = bTl s n rr d) ∧ ((∀ d : Nat, d < bK s → bDi s n rr T c + 52 + bTl s n rr d ≤ U) ∧ U ≤ 2147483647) ∧ ∀ (I' : ZI) (L' : ZI), (0 ≤ I' 98 5 ∧ I' 98 5 ≤ z + 6) → (bSx s n rr T U (I' 99) (L' 102) (I' 98 5).toNat sp lv c 6) → (hpO (L' 102) (I' 98 5).toNat) → (hpI (L' 102) (I' 98 5).toNat) → (∀ c j : Nat, ¬ c = 99 → ¬ (c = 98 ∧ j = 5) → I' c j = I c j) → (∀ c j : Nat, ¬ c = 102 → L' c j = L c j) → Q none I' L' R S
theorem sn_A_spr : ZSnd 3 6 15 T_A_spr := ZSnd.loops (zT6_15 2) (by
  rintro args I L R S Q hz ⟨b, s, n, rr, T, U, z, sp, lv, a, c, rfl, hS, hR, hBA, hGz, ha, hsp, hlv, hz, hz7, hx, hO, hI, htl, hU, hQ⟩
  obtain ⟨⟨hb0, hbw, hbh, hbd, hbs⟩, hnb, hcl, hPT, hNT, hwy, hco, hnd⟩ := id hBA
  obtain ⟨hP1, hP2, hP3, hP4⟩ := id hPT
  obtain ⟨hN1, hN2, hN3, hN4⟩ := id hNT
  obtain ⟨⟨⟨gW1, gW2⟩, ⟨gH1, gH2⟩, ⟨gD1, gD2⟩, gB9⟩, ⟨gnp, gnn⟩, gco⟩ := id hGz
  have hc : c < bK s := (hx.2.1 c hsp).1
  have h1024 : c < 1024 := Nat.lt_of_lt_of_le hc gB9
  have hKe : bK s = bW s * bH s * bD s := rfl
  refine ⟨[2], fun nM tM lsM stM I1 L1 R1 S1 => match tM with
      | 2 => ∃ (x : Nat), nM = ((6 - x), 0, 0) ∧ lsM = [some (zvr (98)), some (zvi (c)), some (zvi (x)), none] ∧ stM = [] ∧ R1 = R ∧ S1 = S ∧ (x ≤ 6) ∧ (0 ≤ I1 98 5 ∧ I1 98 5 ≤ z + x) ∧ (bSx s n rr T U (I1 99) (L1 102) (I1 98 5).toNat sp lv c x) ∧ (hpO (L1 102) (I1 98 5).toNat) ∧ (hpI (L1 102) (I1 98 5).toNat) ∧ (∀ c j : Nat, ¬ c = 99 → ¬ (c = 98 ∧ j = 5) → I1 c j = I c j) ∧ (∀ c j : Nat, ¬ c = 102 → L1 c j = L c j)
      | _ => False, rfl, ?_, ⟨?_, True.intro⟩⟩
  · refine ⟨((6 - (0 : Nat)), 0, 0), [some (zvr (98)), some (zvi (c)), some (zvi ((0 : Nat))), none], ⟨rfl, (congrArg (fun z => some (zvi z)) (by omega)), rfl, rfl⟩, 0, rfl, rfl, rfl, rfl, rfl, (by omega), (by clear hQ; grind [xu]), (by clear hQ; grind [xu]), (by clear hQ; grind [xu]), (by clear hQ; grind [xu]), (fun c j h0 h1 => rfl), (fun c j h0 => rfl)⟩
  · rintro nM lsM stM I1 L1 R1 S1 hz1 ⟨x, rfl, rfl, rfl, rfl, rfl, hx6, hz5, hx1, hO1, hI1, fr, frL⟩
    have hcc := hx1.2.1 c hsp
    refine And.intro ⟨(by omega), (zRb rfl)⟩ ⟨fun h5 => ?_, fun h5 => ?_⟩
    · refine hQ _ _ (by omega) (by rw [show (6 : Nat) = x by omega]; exact hx1) hO1 hI1 (fun c j h0 h1 => ((fr c j (by omega) (by omega)).trans rfl)) (fun c j h0 => ((frL c j (by omega)).trans rfl))
    · refine And.intro (zA_98 hS) (zrdR (v := some 82) (zR_98_0 hR) ?_)
      refine And.intro (zA_82 hS) ⟨_, sn_A_nb.up (by decide), ?_⟩
      refine ⟨(bW s), (bH s), (bD s), (c : Int), c, (x : Int), x, rfl, hS, hR, (by omega), hc, gB9, (by omega), (by clear hQ; grind [xu]), ?_⟩
      intro v14o p14hv p14bhv2
      refine And.intro ⟨(by omega), (zRb rfl)⟩ ⟨fun h20 => ?_, fun h20 => ?_⟩
      · refine ⟨((6 - (x + 1)), 0, 0), zlt6 (by omega), [some (zvr (98)), some (zvi (c)), some (zvi ((x + 1))), none], ⟨rfl, rfl, rfl, rfl⟩, (x + 1), rfl, rfl, rfl, rfl, rfl, (by omega), (by first | omega | (have w := bSx_step gB9 hx1 hI1 (by omega) hsp hlv (p14hv.symm.trans (by omega : v14o = ((v14o.toNat : Nat) : Int))) (by omega) (by omega) (by omega) p58hz2 p58bhdd2 p58bbhO2 p58bbbhA2 p58bbbbhI2; omega)), ?_, (by first | exact hO1 | exact (bSx_step gB9 hx1 hI1 (by omega) hsp hlv (p14hv.symm.trans (by omega : v14o = ((v14o.toNat : Nat) : Int))) (by omega) (by omega) (by omega) p58hz2 p58bhdd2 p58bbhO2 p58bbbhA2 p58bbbbhI2).2.1), (by first | exact hI1 | exact (bSx_step gB9 hx1 hI1 (by omega) hsp hlv (p14hv.symm.trans (by omega : v14o = ((v14o.toNat : Nat) : Int))) (by omega) (by omega) (by omega) p58hz2 p58bhdd2 p58bbhO2 p58bbbhA2 p58bbbbhI2).2.2.1), (fun c j h0 h1 => ((fr c j (by omega) (by omega)).trans rfl)), (fun c j h0 => ((frL c j (by omega)).trans rfl))⟩
        · first
          | exact bSx_nx hx1 (fun e he => by have he2 : v14o = (e : Int) := p14hv.trans he; exfalso; omega)
          | exact bSx_nx hx1 (fun e he => Or.inl (by have he2 : v14o = (e : Int) := p14hv.trans he; rw [show e = v14o.toNat by omega]; omega))
          | exact (bSx_step gB9 hx1 hI1 (by omega) hsp hlv (p14hv.symm.trans (by omega : v14o = ((v14o.toNat : Nat) : Int))) (by omega) (by omega) (by omega) p58hz2 p58bhdd2 p58bbhO2 p58bbbhA2 p58bbbbhI2).1
      · refine And.intro (zA_98 hS) (zrdR (v := some 100) (zR_98_2 hR) ?_)
        refine And.intro (zP_100 hS (by omega) (by omega)) (fun v28 e28 r28 => ?_)
        have f28 : v28 = bTl s n rr v14o.toNat := (e28.trans ((congrArg (I1 100) (by omega)).trans ((fr 100 v14o.toNat (by omega) (by omega)).trans (htl v14o.toNat (by omega)))))
        refine And.intro ⟨r28, (zRb rfl)⟩ ⟨fun h30 => ?_, fun h30 => ?_⟩
        · refine ⟨((6 - (x + 1)), 0, 0), zlt6 (by omega), [some (zvr (98)), some (zvi (c)), some (zvi ((x + 1))), none], ⟨rfl, rfl, rfl, rfl⟩, (x + 1), rfl, rfl, rfl, rfl, rfl, (by omega), (by first | omega | (have w := bSx_step gB9 hx1 hI1 (by omega) hsp hlv (p14hv.symm.trans (by omega : v14o = ((v14o.toNat : Nat) : Int))) (by omega) (by omega) (by omega) p58hz2 p58bhdd2 p58bbhO2 p58bbbhA2 p58bbbbhI2; omega)), ?_, (by first | exact hO1 | exact (bSx_step gB9 hx1 hI1 (by omega) hsp hlv (p14hv.symm.trans (by omega : v14o = ((v14o.toNat : Nat) : Int))) (by omega) (by omega) (by omega) p58hz2 p58bhdd2 p58bbhO2 p58bbbhA2 p58bbbbhI2).2.1), (by first | exact hI1 | exact (bSx_step gB9 hx1 hI1 (by omega) hsp hlv (p14hv.symm.trans (by omega : v14o = ((v14o.toNat : Nat) : Int))) (by omega) (by omega) (by omega) p58hz2 p58bhdd2 p58bbhO2 p58bbbhA2 p58bbbbhI2).2.2.1), (fun c j h0 h1 => ((fr c j (by omega) (by omega)).trans rfl)), (fun c j h0 => ((frL c j (by omega)).trans rfl))⟩
          · first
            | exact bSx_nx hx1 (fun e he => by have he2 : v14o = (e : Int) := p14hv.trans he; exfalso; omega)
            | exact bSx_nx hx1 (fun e he => Or.inl (by have he2 : v14o = (e : Int) := p14hv.trans he; rw [show e = v14o.toNat by omega]; omega))
            | exact (bSx_step gB9 hx1 hI1 (by omega) hsp hlv (p14hv.symm.trans (by omega : v14o = ((v14o.toNat : Nat) : Int))) (by omega) (by omega) (by omega) p58hz2 p58bhdd2 p58bbhO2 p58bbbhA2 p58bbbbhI2).1
        · have t30 : 0 ≤ bTl s n rr v14o.toNat := (by rcases bTl_ge s n rr v14o.toNat with q | q; exfalso; omega; exact q)
          have t30b : bDi s n rr T c + 52 + bTl s n rr v14o.toNat ≤ U := (hU.1 v14o.toNat (by omega))
          have t30bb : U ≤ 2147483647 := hU.2
          refine And.intro (zA_98 hS) (zrdR (v := some 99) (zR_98_1 hR) ?_)
          refine And.intro (zP_99 hS (by omega) (by omega)) (fun v40 e40 r40 => ?_)
          have f40 : v40 = bDi s n rr T c := (e40.trans ((congrArg (I1 99) (by omega)).trans hcc.2.1))
          have f40b : 0 ≤ v40 := (by rw [f40, ← hcc.2.1]; exact hcc.2.2.1)
          refine And.intro (zA_98 hS) (zrdR (v := some 82) (zR_98_0 hR) ?_)
          refine And.intro (zA_82 hS) ⟨_, sn_A_stp.up (by decide), ?_⟩
          refine ⟨b, s, (c : Int), c, (x : Int), x, rfl, hS, hR, (by first | exact (zBA_fr hBA (fun c j h => ((fr c j (by omega) (by omega)).trans rfl)) (fun c j h => ((frL c j (by omega)).trans rfl))) | (clear hQ; grind [xu])), (by first | exact hGz | (clear hQ; grind [xu])), (by omega), hc, (by omega), ?_⟩
          intro v47o p47hv p47bhv2
          refine And.intro (zA_98 hS) (zrdR (v := some 100) (zR_98_2 hR) ?_)
          refine And.intro (zP_100 hS (by omega) (by omega)) (fun v56 e56 r56 => ?_)
          have f56 : v56 = bTl s n rr v14o.toNat := (e56.trans ((congrArg (I1 100) (by omega)).trans ((fr 100 v14o.toNat (by omega) (by omega)).trans (htl v14o.toNat (by omega)))))
          refine And.intro (zA_98 hS) ⟨_, sn_A_reach.up (by decide), ?_⟩
          refine ⟨(v14o : Int), (v14o).toNat, (((v40 + v47o) + v56) : Int), (I1 98 5).toNat, (I1 99), (L1 102), rfl, hS, hR, (by omega), (by omega), (Int.toNat_of_nonneg hz5.1).symm, (by omega), (fun _ _ => rfl), (fun _ _ => rfl), hO1, ?_⟩
          intro I58o L58o p58hz2 p58bhdd2 p58bbhO2 p58bbbhA2 p58bbbbhI2 p58bbbbbfr p58bbbbbbfrL
          refine ⟨((6 - (x + 1)), 0, 0), zlt6 (by omega), [some (zvr (98)), some (zvi (c)), some (zvi ((x + 1))), none], ⟨rfl, rfl, rfl, rfl⟩, (x + 1), rfl, rfl, rfl, rfl, rfl, (by omega), (by first | omega | (have w := bSx_step gB9 hx1 hI1 (by omega) hsp hlv (p14hv.symm.trans (by omega : v14o = ((v14o.toNat : Nat) : Int))) (by omega) (by omega) (by omega) p58hz2 p58bhdd2 p58bbhO2 p58bbbhA2 p58bbbbhI2; omega)), ?_, (by first | exact hO1 | exact (bSx_step gB9 hx1 hI1 (by omega) hsp hlv (p14hv.symm.trans (by omega : v14o = ((v14o.toNat : Nat) : Int))) (by omega) (by omega) (by omega) p58hz2 p58bhdd2 p58bbhO2 p58bbbhA2 p58bbbbhI2).2.1), (by first | exact hI1 | exact (bSx_step gB9 hx1 hI1 (by omega) hsp hlv (p14hv.symm.trans (by omega : v14o = ((v14o.toNat : Nat) : Int))) (by omega) (by omega) (by omega) p58hz2 p58bhdd2 p58bbhO2 p58bbbhA2 p58bbbbhI2).2.2.1), (fun c j h0 h1 => ((p58bbbbbfr c j (by omega) (by omega)).trans ((fr c j (by omega) (by omega)).trans rfl))), (fun c j h0 => ((p58bbbbbbfrL c j (by omega)).trans ((frL c j (by omega)).trans rfl)))⟩
          · first
            | exact bSx_nx hx1 (fun e he => by have he2 : v14o = (e : Int) := p14hv.trans he; exfalso; omega)
            | exact bSx_nx hx1 (fun e he => Or.inl (by have he2 : v14o = (e : Int) := p14hv.trans he; rw [show e = v14o.toNat by omega]; omega))
            | exact (bSx_step gB9 hx1 hI1 (by omega) hsp hlv (p14hv.symm.trans (by omega : v14o = ((v14o.toNat : Nat) : Int))) (by omega) (by omega) (by omega) p58hz2 p58bhdd2 p58bbhO2 p58bbbhA2 p58bbbbhI2).1)
