/-! tg -/
def T_E_at1 : ZT := fun args I L R S Q => ∃ (k : Nat) (n : Nat) (e : Nat → Int) (p : Nat) (z : Int) (E : EvE), args = [zvr 138, zvi 2] ∧ (zSh S) ∧ (zRs R) ∧ (zDy zT8 zF8 k R S) ∧ (k = 130 ∨ k = 134) ∧ (zEt k n e I) ∧ (R 138 0 = some k) ∧ (I 138 16 = p) ∧ (I 138 17 = z) ∧ (zEv E I L) ∧ (p ≤ n) ∧ ((exAt e 1 p).1 = 1) ∧ ∀ (v : Int) (pz : Int) (I' : ZI), (zEo E (exAt e 1 p).2.2 z v pz) → (r64 v) → (I' 138 16 = ((exAt e 1 p).2.1 : Nat)) → (I' 138 17 = pz) → (∀ c j : Nat, ¬ (c = 138 ∧ j = 16) → ¬ (c = 138 ∧ j = 17) → I' c j = I c j) → Q (some (zvl (v))) I' L R S
theorem sn_E_at1 : ZSnd 11 4 4 T_E_at1 := ZSnd.of (zT4_4 10) (by
  rintro args I L R S Q hz ⟨k, n, e, p, z, E, rfl, hS, hR, hD, hk, hE, hsc, h16, h17, hV, hp, hg, hQ⟩
  have hk130 : 130 ≤ k := by omega
  have hk134 : k ≤ 134 := by omega
  obtain ⟨hE1, hE2, hE3⟩ := id hE
  have hn4 := hE2.1
  obtain ⟨hV1, ⟨hV2, hV2b⟩, hV3, ⟨hV4, hV4b⟩, hV5⟩ := id hV
  have hb9 := hE2.2.2 p
  refine And.intro rfl ?_
  refine And.intro (zA_138 hS) (zrdR (v := some k) hsc ?_)
  refine And.intro (zA_138 hS) (zrd (v := p) h16 ?_)
  refine And.intro (zDX hD 0 rfl) ⟨_, sn_S_let.up (by decide), ?_⟩
  refine ⟨_, n, e, (p : Int), p, rfl, hS, hR, hD, (by first | exact hk | (clear hQ; grind [xu])), (by first | exact (zEt_fr hE (fun c j h => rfl)) | (clear hQ; grind [xu])), (by omega), ?_⟩
  intro v8o p8hv p8bhv2
  refine Exists.intro _ (And.intro (zinl_ok (zT8_6 9)) (And.intro rfl ?_))
  refine And.intro ⟨(by omega), (zRb rfl)⟩ ⟨fun h3_13 => ?_, fun h3_13 => ?_⟩
  · refine And.intro (Or.inl rfl) ?_
    refine And.intro (zRb rfl) (zbt rfl ?_)
    refine And.intro (zA_138 hS) (zrd (v := p) h16 ?_)
    refine And.intro (zA_138 hS) ⟨_, (zWi (by omega)), ?_⟩
    refine Exists.intro _ (And.intro (zinl_ok (zT8_9 9)) (And.intro rfl ?_))
    refine And.intro ⟨(by omega), (zRb rfl)⟩ ⟨fun h3_35 => ?_, (fun h3_35 => False.elim (by omega))⟩
    refine And.intro (Or.inl rfl) ?_
    refine And.intro (zRb rfl) (zbt rfl ?_)
    refine And.intro ⟨(by omega), (zRb rfl)⟩ ⟨fun h54 => ?_, fun h54 => ?_⟩
    · have t54 : e p = 40 ∨ e p = 45 ∨ e p = 39 ∨ e p = 64 := (exAt_4 hg (by omega) (by omega) (by omega)).2
      refine And.intro ⟨(zRb rfl), (zRb rfl)⟩ (zbf rfl ?_)
      refine And.intro (zA_138 hS) ⟨_, sn_E_da1.up (by decide), ?_⟩
      refine ⟨_, n, e, p, (z : Int), E, (v8o : Int), rfl, hS, hR, hD, (by first | exact hk | (clear hQ; grind [xu])), (by first | exact (zEt_fr hE (fun c j h => (zxcj (by omega) rfl))) | (clear hQ; grind [xu])), hsc, (Eq.trans (b := ((p + 1) : Int)) rfl (by omega)), h17, (by first | exact (zEv_fr hV (fun c j h => (zxcj (by omega) rfl)) (fun c j h => rfl)) | (clear hQ; grind [xu])), (eTx_lt hE2 (p := p) (by omega)), (by omega), (by omega), hg, ?_⟩
      intro v73o pz73o I73o p73hO p73bhv2 p73bbh16 p73bbbh17 p73bbbbfr
      refine hQ _ (pz73o : Int) _ ?_ (by omega) ?_ p73bbbh17 (fun c j h0 h1 => ((p73bbbbfr c j h0 h1).trans (zxcj h0 rfl)))
      · first
        | exact p73hO
        | (rw [exAt_B (by omega), exB_d (by omega)]
           exact zEo_1 (Or.inl rfl) (p20hv.trans (if_pos rfl).symm))
        | (rw [exAt_B (by omega), exB_v (by omega), ← p8hv]
           exact zEo_1 (Or.inr (Or.inl rfl)) (f49.trans (by rw [if_neg (by decide), if_pos rfl])))
        | (rw [exAt_B (by omega), exB_h (by omega)]
           exact zEo_1 (Or.inr (Or.inr rfl)) (by rw [if_neg (by decide), if_neg (by decide)]))
      · first
        | exact p73bbh16
        | (rw [exAt_B (by omega), exB_d (by omega)]
           exact p20bbh16.trans (show _ = ((p + dgN e 4 p : Nat) : Int) from by omega))
        | (rw [exAt_B (by omega), exB_v (by omega)]
           exact zxe.trans (show _ = ((p + 1 : Nat) : Int) from by omega))
        | (rw [exAt_B (by omega), exB_h (by omega)]
           exact zxe.trans (show _ = ((p + 1 : Nat) : Int) from by omega))
    · refine And.intro (zA_138 hS) (zrd (v := (E.2.1)) hV2 ?_)
      refine And.intro (by omega) ?_
      refine hQ _ (z : Int) _ ?_ (by omega) ?_ h17 (fun c j h0 h1 => (zxcj h0 rfl))
      · first
        | exact p73hO
        | (rw [exAt_B (by omega), exB_d (by omega)]
           exact zEo_1 (Or.inl rfl) (p20hv.trans (if_pos rfl).symm))
        | (rw [exAt_B (by omega), exB_v (by omega), ← p8hv]
           exact zEo_1 (Or.inr (Or.inl rfl)) (f49.trans (by rw [if_neg (by decide), if_pos rfl])))
        | (rw [exAt_B (by omega), exB_h (by omega)]
           exact zEo_1 (Or.inr (Or.inr rfl)) (by rw [if_neg (by decide), if_neg (by decide)]))
      · first
        | exact p73bbh16
        | (rw [exAt_B (by omega), exB_d (by omega)]
           exact p20bbh16.trans (show _ = ((p + dgN e 4 p : Nat) : Int) from by omega))
        | (rw [exAt_B (by omega), exB_v (by omega)]
           exact zxe.trans (show _ = ((p + 1 : Nat) : Int) from by omega))
        | (rw [exAt_B (by omega), exB_h (by omega)]
           exact zxe.trans (show _ = ((p + 1 : Nat) : Int) from by omega))
  · refine And.intro ⟨(by omega), (zRb rfl)⟩ ⟨fun h9_13 => ?_, fun h9_13 => ?_⟩
    · refine And.intro (Or.inl rfl) ?_
      refine And.intro (zRb rfl) (zbt rfl ?_)
      refine And.intro (zA_138 hS) (zrd (v := p) h16 ?_)
      refine And.intro (zA_138 hS) ⟨_, (zWi (by omega)), ?_⟩
      refine Exists.intro _ (And.intro (zinl_ok (zT8_9 9)) (And.intro rfl ?_))
      refine And.intro ⟨(by omega), (zRb rfl)⟩ ⟨fun h3_35 => ?_, fun h3_35 => ?_⟩
      · refine And.intro (Or.inl rfl) ?_
        refine And.intro (zRb rfl) (zbt rfl ?_)
        refine And.intro ⟨(by omega), (zRb rfl)⟩ ⟨fun h54 => ?_, (fun h54 => False.elim (by omega))⟩
        have t54 : e p = 40 ∨ e p = 45 ∨ e p = 39 ∨ e p = 64 := (exAt_4 hg (by omega) (by omega) (by omega)).2
        refine And.intro ⟨(zRb rfl), (zRb rfl)⟩ (zbf rfl ?_)
        refine And.intro (zA_138 hS) ⟨_, sn_E_da1.up (by decide), ?_⟩
        refine ⟨_, n, e, p, (z : Int), E, (v8o : Int), rfl, hS, hR, hD, (by first | exact hk | (clear hQ; grind [xu])), (by first | exact (zEt_fr hE (fun c j h => (zxcj (by omega) rfl))) | (clear hQ; grind [xu])), hsc, (Eq.trans (b := ((p + 1) : Int)) rfl (by omega)), h17, (by first | exact (zEv_fr hV (fun c j h => (zxcj (by omega) rfl)) (fun c j h => rfl)) | (clear hQ; grind [xu])), (eTx_lt hE2 (p := p) (by omega)), (by omega), (by omega), hg, ?_⟩
        intro v73o pz73o I73o p73hO p73bhv2 p73bbh16 p73bbbh17 p73bbbbfr
        refine hQ _ (pz73o : Int) _ ?_ (by omega) ?_ p73bbbh17 (fun c j h0 h1 => ((p73bbbbfr c j h0 h1).trans (zxcj h0 rfl)))
        · first
          | exact p73hO
          | (rw [exAt_B (by omega), exB_d (by omega)]
             exact zEo_1 (Or.inl rfl) (p20hv.trans (if_pos rfl).symm))
          | (rw [exAt_B (by omega), exB_v (by omega), ← p8hv]
             exact zEo_1 (Or.inr (Or.inl rfl)) (f49.trans (by rw [if_neg (by decide), if_pos rfl])))
          | (rw [exAt_B (by omega), exB_h (by omega)]
             exact zEo_1 (Or.inr (Or.inr rfl)) (by rw [if_neg (by decide), if_neg (by decide)]))
        · first
          | exact p73bbh16
          | (rw [exAt_B (by omega), exB_d (by omega)]
             exact p20bbh16.trans (show _ = ((p + dgN e 4 p : Nat) : Int) from by omega))
          | (rw [exAt_B (by omega), exB_v (by omega)]
             exact zxe.trans (show _ = ((p + 1 : Nat) : Int) from by omega))
          | (rw [exAt_B (by omega), exB_h (by omega)]
             exact zxe.trans (show _ = ((p + 1 : Nat) : Int) from by omega))
      · refine And.intro ⟨(by omega), (zRb rfl)⟩ ⟨fun h9_35 => ?_, fun h9_35 => ?_⟩
        · refine And.intro (Or.inl rfl) ?_
          refine And.intro (zRb rfl) (zbt rfl ?_)
          refine And.intro ⟨(by omega), (zRb rfl)⟩ ⟨fun h54 => ?_, (fun h54 => False.elim (by omega))⟩
          have t54 : e p = 40 ∨ e p = 45 ∨ e p = 39 ∨ e p = 64 := (exAt_4 hg (by omega) (by omega) (by omega)).2
          refine And.intro ⟨(zRb rfl), (zRb rfl)⟩ (zbf rfl ?_)
          refine And.intro (zA_138 hS) ⟨_, sn_E_da1.up (by decide), ?_⟩
          refine ⟨_, n, e, p, (z : Int), E, (v8o : Int), rfl, hS, hR, hD, (by first | exact hk | (clear hQ; grind [xu])), (by first | exact (zEt_fr hE (fun c j h => (zxcj (by omega) rfl))) | (clear hQ; grind [xu])), hsc, (Eq.trans (b := ((p + 1) : Int)) rfl (by omega)), h17, (by first | exact (zEv_fr hV (fun c j h => (zxcj (by omega) rfl)) (fun c j h => rfl)) | (clear hQ; grind [xu])), (eTx_lt hE2 (p := p) (by omega)), (by omega), (by omega), hg, ?_⟩
          intro v73o pz73o I73o p73hO p73bhv2 p73bbh16 p73bbbh17 p73bbbbfr
          refine hQ _ (pz73o : Int) _ ?_ (by omega) ?_ p73bbbh17 (fun c j h0 h1 => ((p73bbbbfr c j h0 h1).trans (zxcj h0 rfl)))
          · first
            | exact p73hO
            | (rw [exAt_B (by omega), exB_d (by omega)]
               exact zEo_1 (Or.inl rfl) (p20hv.trans (if_pos rfl).symm))
            | (rw [exAt_B (by omega), exB_v (by omega), ← p8hv]
               exact zEo_1 (Or.inr (Or.inl rfl)) (f49.trans (by rw [if_neg (by decide), if_pos rfl])))
            | (rw [exAt_B (by omega), exB_h (by omega)]
               exact zEo_1 (Or.inr (Or.inr rfl)) (by rw [if_neg (by decide), if_neg (by decide)]))
          · first
            | exact p73bbh16
            | (rw [exAt_B (by omega), exB_d (by omega)]
               exact p20bbh16.trans (show _ = ((p + dgN e 4 p : Nat) : Int) from by omega))
            | (rw [exAt_B (by omega), exB_v (by omega)]
               exact zxe.trans (show _ = ((p + 1 : Nat) : Int) from by omega))
            | (rw [exAt_B (by omega), exB_h (by omega)]
               exact zxe.trans (show _ = ((p + 1 : Nat) : Int) from by omega))
        · refine And.intro (Or.inr rfl) ?_
          refine And.intro (zRb rfl) (zbf rfl ?_)
          refine And.intro (zA_138 hS) (zrdR (v := some 139) (zR_138_1 hR) ?_)
          refine And.intro (zP_139 hS (by omega) (by omega)) (fun v49 e49 r49 => ?_)
          have f49 : v49 = E.1 (v8o - 97).toNat := (e49.trans ((congrArg (L 139) (show _ = (v8o - 97).toNat by omega)).trans (hV1 (v8o - 97).toNat (by omega))))
          refine hQ _ (z : Int) _ ?_ (by omega) ?_ h17 (fun c j h0 h1 => (zxcj h0 rfl))
          · first
            | exact p73hO
            | (rw [exAt_B (by omega), exB_d (by omega)]
               exact zEo_1 (Or.inl rfl) (p20hv.trans (if_pos rfl).symm))
            | (rw [exAt_B (by omega), exB_v (by omega), ← p8hv]
               exact zEo_1 (Or.inr (Or.inl rfl)) (f49.trans (by rw [if_neg (by decide), if_pos rfl])))
            | (rw [exAt_B (by omega), exB_h (by omega)]
               exact zEo_1 (Or.inr (Or.inr rfl)) (by rw [if_neg (by decide), if_neg (by decide)]))
          · first
            | exact p73bbh16
            | (rw [exAt_B (by omega), exB_d (by omega)]
               exact p20bbh16.trans (show _ = ((p + dgN e 4 p : Nat) : Int) from by omega))
            | (rw [exAt_B (by omega), exB_v (by omega)]
               exact zxe.trans (show _ = ((p + 1 : Nat) : Int) from by omega))
            | (rw [exAt_B (by omega), exB_h (by omega)]
               exact zxe.trans (show _ = ((p + 1 : Nat) : Int) from by omega))
    · refine And.intro (Or.inr rfl) ?_
      refine And.intro (zRb rfl) (zbf rfl ?_)
      refine And.intro (zA_138 hS) ⟨_, sn_E_dig.up (by decide), ?_⟩
      refine ⟨_, n, e, p, rfl, hS, hR, hD, (by first | exact hk | (clear hQ; grind [xu])), hE, hsc, h16, (by omega), (by omega), ?_⟩
      intro v20o I20o p20hv p20bhv2 p20bbh16 p20bbbfr
      refine hQ _ (z : Int) _ ?_ (by omega) ?_ ((p20bbbfr 138 17 (by omega)).trans h17) (fun c j h0 h1 => ((p20bbbfr c j h0).trans rfl))
      · first
        | exact p73hO
        | (rw [exAt_B (by omega), exB_d (by omega)]
           exact zEo_1 (Or.inl rfl) (p20hv.trans (if_pos rfl).symm))
        | (rw [exAt_B (by omega), exB_v (by omega), ← p8hv]
           exact zEo_1 (Or.inr (Or.inl rfl)) (f49.trans (by rw [if_neg (by decide), if_pos rfl])))
        | (rw [exAt_B (by omega), exB_h (by omega)]
           exact zEo_1 (Or.inr (Or.inr rfl)) (by rw [if_neg (by decide), if_neg (by decide)]))
      · first
        | exact p73bbh16
        | (rw [exAt_B (by omega), exB_d (by omega)]
           exact p20bbh16.trans (show _ = ((p + dgN e 4 p : Nat) : Int) from by omega))
        | (rw [exAt_B (by omega), exB_v (by omega)]
           exact zxe.trans (show _ = ((p + 1 : Nat) : Int) from by omega))
        | (rw [exAt_B (by omega), exB_h (by omega)]
           exact zxe.trans (show _ = ((p + 1 : Nat) : Int) from by omega)))
def T_E_pr1 : ZT := fun args I L R S Q => ∃ (k : Nat) (n : Nat) (e : Nat → Int) (p : Nat) (z : Int) (E : EvE), args = [zvr 138, zvi 2] ∧ (zSh S) ∧ (zRs R) ∧ (zDy zT8 zF8 k R S) ∧ (k = 130 ∨ k = 134) ∧ (zEt k n e I) ∧ (R 138 0 = some k) ∧ (I 138 16 = p) ∧ (I 138 17 = z) ∧ (zEv E I L) ∧ (p ≤ n) ∧ ((exPr e (exAt e 1) p).1 = 1) ∧ ∀ (v : Int) (pz : Int) (I' : ZI), (zEo E (exPr e (exAt e 1) p).2.2 z v pz) → (r64 v) → (I' 138 16 = ((exPr e (exAt e 1) p).2.1 : Nat)) → (I' 138 17 = pz) → (∀ c j : Nat, ¬ (c = 138 ∧ j = 16) → ¬ (c = 138 ∧ j = 17) → I' c j = I c j) → Q (some (zvl (v))) I' L R S
theorem sn_E_pr1 : ZSnd 12 4 18 T_E_pr1 := ZSnd.w (ZSnd.loopsw (zT4_18 11) (by
  rintro args I L R S Q' hz ⟨Q, rfl, k, n, e, p, z, E, rfl, hS, hR, hD, hk, hE, hsc, h16, h17, hV, hp, hg, hQ⟩
  have hk130 : 130 ≤ k := by omega
  have hk134 : k ≤ 134 := by omega
  obtain ⟨hE1, hE2, hE3⟩ := id hE
  have hn4 := hE2.1
  obtain ⟨hV1, ⟨hV2, hV2b⟩, hV3, ⟨hV4, hV4b⟩, hV5⟩ := id hV
  have hg1 : ((exAt e 1) p).1 = 1 := exLp_x hg
  refine ⟨[22], fun nM tM lsM stM I1 L1 R1 S1 => match tM with
      | 22 => ∃ (m : Nat) (y : ExR) (vv : Int) (zz : Int), nM = ((401 - m), 0, 0) ∧ lsM = [some (zvr (138)), some (zvi (2)), some (zvl (vv)), none, some (zvi (e y.2.1)), some (zvi (m)), none, none] ∧ stM = [] ∧ L1 = L ∧ R1 = R ∧ S1 = S ∧ (m ≤ 400) ∧ (y.1 = 1) ∧ (exOk n p y) ∧ (exLp e 42 47 37 (exAt e 1) (400 - m) y = (exPr e (exAt e 1) p)) ∧ (I1 138 16 = y.2.1) ∧ (I1 138 17 = zz) ∧ (zEo E y.2.2 z vv zz) ∧ (r64 vv) ∧ (evT E y.2.2) ∧ (∀ c j : Nat, ¬ (c = 138 ∧ j = 16) → ¬ (c = 138 ∧ j = 17) → I1 c j = I c j)
      | _ => False, rfl, ?_, ⟨?_, True.intro⟩⟩
  · refine And.intro (zA_138 hS) ⟨_, sn_E_at1.up (by decide), ?_⟩
    refine ⟨_, n, e, p, (z : Int), E, rfl, hS, hR, hD, (by first | exact hk | (clear hQ; grind [xu])), hE, hsc, h16, h17, hV, (by omega), hg1, ?_⟩
    intro v2o pz2o I2o p2hO p2bhv2 p2bbh16 p2bbbh17 p2bbbbfr
    have g2 : p < ((exAt e 1) p).2.1 ∧ ((exAt e 1) p).2.1 ≤ n := (by have z9 := exAt_ok (c := e) (r := 1) hE2 hp; unfold exOk at z9; omega)
    refine And.intro (zA_138 hS) (zrdR (v := some k) hsc ?_)
    refine And.intro (zA_138 hS) (zrd (v := (((exAt e 1 p).2.1 : Nat))) p2bbh16 ?_)
    refine And.intro (zDX hD 0 rfl) ⟨_, sn_S_let.up (by decide), ?_⟩
    refine ⟨_, n, e, ((((exAt e 1 p).2.1 : Nat)) : Int), ((exAt e 1) p).2.1, rfl, hS, hR, hD, (by first | exact hk | (clear hQ; grind [xu])), (zEt_fr hE (fun c j h => p2bbbbfr c j (by omega) (by omega))), (by omega), ?_⟩
    intro v14o p14hv p14bhv2
    refine ⟨((401 - (0 : Nat)), 0, 0), [some (zvr (138)), some (zvi (2)), some (zvl (v2o)), none, some (zvi (e ((exAt e 1) p).2.1)), some (zvi ((0 : Nat))), none, none], ⟨rfl, rfl, rfl, (congrArg (fun z => zden (zvi z)) (by omega)), rfl, rfl⟩, 0, ((exAt e 1) p), v2o, pz2o, rfl, rfl, rfl, rfl, rfl, rfl, (by omega), hg1, (exAt_ok (c := e) (r := 1) hE2 hp), rfl, p2bbh16, p2bbbh17, p2hO, p2bhv2, (exAt_H (E := E) 1 (p) hg1), (fun c j h0 h1 => ((p2bbbbfr c j h0 h1).trans rfl))⟩
  · rintro nM lsM stM I1 L1 R1 S1 hz1 ⟨m, y, vv, zz, rfl, rfl, rfl, rfl, rfl, rfl, hm, hy1, hyok, hrest, h161, h171, hO, hvr, hT, fr⟩
    have hE_1 : zEt k n e I1 := (zEt_fr hE (fun c j h => fr c j (by omega) (by omega)))
    have hV_1 : zEv E I1 L1 := zEv_fr hV (fun c j h => fr c j (by omega) (by omega)) (fun c j h => rfl)
    have hb8 := hE2.2.2 y.2.1
    have hyo : p < y.2.1 ∧ y.2.1 ≤ n := (by unfold exOk at hyok; omega)
    refine And.intro ⟨(by omega), (zRb rfl)⟩ ⟨fun h27 => ?_, fun h27 => ?_⟩
    · refine Qw_l rfl (hQ _ (zz : Int) _ (by rw [← lp_end (y := y) hrest (by omega)]; exact hO) hvr (by rw [← lp_end (y := y) hrest (by omega)]; exact h161) h171 (fun c j h0 h1 => ((fr c j h0 h1).trans rfl)))
    · refine And.intro ⟨(by omega), (zRb rfl)⟩ ⟨fun h34 => ?_, fun h34 => ?_⟩
      · refine And.intro (zA_138 hS) (zrd (v := (y.2.1)) h161 ?_)
        refine And.intro (zA_138 hS) ⟨_, (zWi (by omega)), ?_⟩
        refine And.intro (zA_138 hS) ⟨_, sn_E_at1.up (by decide), ?_⟩
        refine ⟨_, n, e, (y.2.1 + 1), (zz : Int), E, rfl, hS, hR, hD, (by first | exact hk | (clear hQ; grind [xu])), (zEt_fr hE_1 (fun c j h => zxcj (by omega) rfl)), hsc, (Eq.trans (b := (((y.2.1) + 1) : Int)) rfl (by omega)), h171, (zEv_fr hV_1 (fun c j h => zxcj (by omega) rfl) (fun c j h => rfl)), (eTx_lt hE2 (by omega)), (lp_go hrest hg (by omega) ⟨hy1, by omega⟩).1, ?_⟩
        intro v63o pz63o I63o p63hO p63bhv2 p63bbh16 p63bbbh17 p63bbbbfr
        have g63 : ((exAt e 1) (y.2.1 + 1)).1 = 1 := (lp_go hrest hg (by omega) ⟨hy1, by omega⟩).1
        have g63b : evT E ((exAt e 1) (y.2.1 + 1)).2.2 := (exAt_H (E := E) 1 (y.2.1 + 1) g63)
        have g63bb : y.2.1 + 1 < ((exAt e 1) (y.2.1 + 1)).2.1 ∧ ((exAt e 1) (y.2.1 + 1)).2.1 ≤ n := (by have z9 := exAt_ok (c := e) (r := 1) hE2 (p := y.2.1 + 1) (eTx_lt hE2 (p := y.2.1) (by omega)); unfold exOk at z9; omega)
        refine And.intro ⟨(by omega), (zRb rfl)⟩ ⟨(fun h72 => False.elim (by omega)), fun h72 => ?_⟩
        refine And.intro (zA_138 hS) (zrdR (v := some k) hsc ?_)
        refine And.intro (zA_138 hS) (zrd (v := (((exAt e 1 (y.2.1 + 1)).2.1 : Nat))) p63bbh16 ?_)
        refine And.intro (zDX hD 0 rfl) ⟨_, sn_S_let.up (by decide), ?_⟩
        refine ⟨_, n, e, ((((exAt e 1 (y.2.1 + 1)).2.1 : Nat)) : Int), ((exAt e 1) (y.2.1 + 1)).2.1, rfl, hS, hR, hD, (by first | exact hk | (clear hQ; grind [xu])), (zEt_fr hE_1 (fun c j h => ((p63bbbbfr c j (by omega) (by omega)).trans (zxcj (by omega) rfl)))), (by omega), ?_⟩
        intro v110o p110hv p110bhv2
        refine ⟨((401 - (m + 1)), 0, 0), zlt6 (by omega), [some (zvr (138)), some (zvi (2)), some (zvl ((zn6 (vv * v63o)))), none, some (zvi (e (exO e y ((exAt e 1) (y.2.1 + 1))).2.1)), some (zvi ((m + 1))), none, none], ⟨rfl, rfl, (by first | exact zdn_l | rfl), (congrArg (fun z => zden (zvi z)) (by rw [exO_e g63]; exact p110hv)), rfl, rfl⟩, (m + 1), (exO e y ((exAt e 1) (y.2.1 + 1))), (zn6 (vv * v63o)), pz63o, rfl, rfl, rfl, rfl, rfl, rfl, (by omega), (by rw [exO_e g63]), (exO_ok hyok hy1 (exAt_ok (c := e) (r := 1) hE2 (eTx_lt hE2 (by omega)))), (lp_go hrest hg (by omega) ⟨hy1, by omega⟩).2, (by rw [exO_e g63]; exact (by first | exact p63bbh16 | exact (p98bbbfr 138 16 (by omega)).trans p63bbh16)), p63bbbh17, ?_, (by first | exact zn6_r _ | exact p98bbhv2), (by rw [exO_e g63]; exact evT_b hT g63b (by unfold isB; omega)), (fun c j h0 h1 => ((p63bbbbfr c j h0 h1).trans (zxcj h0 ((fr c j h0 h1).trans rfl))))⟩
        · rw [exO_e g63]
          first
          | exact zEo_d hT g63b (by first | exact Or.inl ⟨by omega, rfl⟩ | exact Or.inr ⟨by omega, rfl⟩) hO p63hO p98bhd
          | exact zEo_o hT g63b (by omega) hO p63hO (by rw [show e y.2.1 = 42 by omega]; exact evB_m.symm)
      · refine And.intro ⟨(by omega), (zRb rfl)⟩ ⟨fun h41 => ?_, fun h41 => ?_⟩
        · refine And.intro (zA_138 hS) (zrd (v := (y.2.1)) h161 ?_)
          refine And.intro (zA_138 hS) ⟨_, (zWi (by omega)), ?_⟩
          refine And.intro (zA_138 hS) ⟨_, sn_E_at1.up (by decide), ?_⟩
          refine ⟨_, n, e, (y.2.1 + 1), (zz : Int), E, rfl, hS, hR, hD, (by first | exact hk | (clear hQ; grind [xu])), (zEt_fr hE_1 (fun c j h => zxcj (by omega) rfl)), hsc, (Eq.trans (b := (((y.2.1) + 1) : Int)) rfl (by omega)), h171, (zEv_fr hV_1 (fun c j h => zxcj (by omega) rfl) (fun c j h => rfl)), (eTx_lt hE2 (by omega)), (lp_go hrest hg (by omega) ⟨hy1, by omega⟩).1, ?_⟩
          intro v63o pz63o I63o p63hO p63bhv2 p63bbh16 p63bbbh17 p63bbbbfr
          have g63 : ((exAt e 1) (y.2.1 + 1)).1 = 1 := (lp_go hrest hg (by omega) ⟨hy1, by omega⟩).1
          have g63b : evT E ((exAt e 1) (y.2.1 + 1)).2.2 := (exAt_H (E := E) 1 (y.2.1 + 1) g63)
          have g63bb : y.2.1 + 1 < ((exAt e 1) (y.2.1 + 1)).2.1 ∧ ((exAt e 1) (y.2.1 + 1)).2.1 ≤ n := (by have z9 := exAt_ok (c := e) (r := 1) hE2 (p := y.2.1 + 1) (eTx_lt hE2 (p := y.2.1) (by omega)); unfold exOk at z9; omega)
          refine And.intro ⟨(by omega), (zRb rfl)⟩ ⟨fun h72 => ?_, (fun h72 => False.elim (by omega))⟩
          refine And.intro ⟨(by omega), (zRb rfl)⟩ ⟨(fun h90 => False.elim (by omega)), fun h90 => ?_⟩
          refine And.intro (zA_138 hS) ⟨_, sn_E_div.up (by decide), ?_⟩
          refine ⟨(vv : Int), (v63o : Int), (1 : Int), (pz63o : Int), rfl, hS, hR, p63bbbh17, (by clear hQ; grind [xu]), (by clear hQ; grind [xu]), (by clear hQ; grind [xu]), ?_⟩
          intro v98o pz98o I98o p98h17 p98bhd p98bbhv2 p98bbbfr
          refine And.intro (zA_138 hS) (zrdR (v := some k) hsc ?_)
          refine And.intro (zA_138 hS) (zrd (v := (((exAt e 1 (y.2.1 + 1)).2.1 : Nat))) ((p98bbbfr 138 16 (by omega)).trans p63bbh16) ?_)
          refine And.intro (zDX hD 0 rfl) ⟨_, sn_S_let.up (by decide), ?_⟩
          refine ⟨_, n, e, ((((exAt e 1 (y.2.1 + 1)).2.1 : Nat)) : Int), ((exAt e 1) (y.2.1 + 1)).2.1, rfl, hS, hR, hD, (by first | exact hk | (clear hQ; grind [xu])), (zEt_fr hE_1 (fun c j h => ((p98bbbfr c j (by omega)).trans ((p63bbbbfr c j (by omega) (by omega)).trans (zxcj (by omega) rfl))))), (by omega), ?_⟩
          intro v110o p110hv p110bhv2
          refine ⟨((401 - (m + 1)), 0, 0), zlt6 (by omega), [some (zvr (138)), some (zvi (2)), some (zvl (v98o)), none, some (zvi (e (exO e y ((exAt e 1) (y.2.1 + 1))).2.1)), some (zvi ((m + 1))), none, none], ⟨rfl, rfl, (by first | exact zdn_l | rfl), (congrArg (fun z => zden (zvi z)) (by rw [exO_e g63]; exact p110hv)), rfl, rfl⟩, (m + 1), (exO e y ((exAt e 1) (y.2.1 + 1))), v98o, pz98o, rfl, rfl, rfl, rfl, rfl, rfl, (by omega), (by rw [exO_e g63]), (exO_ok hyok hy1 (exAt_ok (c := e) (r := 1) hE2 (eTx_lt hE2 (by omega)))), (lp_go hrest hg (by omega) ⟨hy1, by omega⟩).2, (by rw [exO_e g63]; exact (by first | exact p63bbh16 | exact (p98bbbfr 138 16 (by omega)).trans p63bbh16)), p98h17, ?_, (by first | exact zn6_r _ | exact p98bbhv2), (by rw [exO_e g63]; exact evT_b hT g63b (by unfold isB; omega)), (fun c j h0 h1 => ((p98bbbfr c j h1).trans ((p63bbbbfr c j h0 h1).trans (zxcj h0 ((fr c j h0 h1).trans rfl)))))⟩
          · rw [exO_e g63]
            first
            | exact zEo_d hT g63b (by first | exact Or.inl ⟨by omega, rfl⟩ | exact Or.inr ⟨by omega, rfl⟩) hO p63hO p98bhd
            | exact zEo_o hT g63b (by omega) hO p63hO (by rw [show e y.2.1 = 42 by omega]; exact evB_m.symm)
        · refine And.intro ⟨(by omega), (zRb rfl)⟩ ⟨fun h48 => ?_, fun h48 => ?_⟩
          · refine Qw_l rfl (hQ _ (zz : Int) _ (by rw [← lp_end (y := y) hrest (by omega)]; exact hO) hvr (by rw [← lp_end (y := y) hrest (by omega)]; exact h161) h171 (fun c j h0 h1 => ((fr c j h0 h1).trans rfl)))
          · refine And.intro (zA_138 hS) (zrd (v := (y.2.1)) h161 ?_)
            refine And.intro (zA_138 hS) ⟨_, (zWi (by omega)), ?_⟩
            refine And.intro (zA_138 hS) ⟨_, sn_E_at1.up (by decide), ?_⟩
            refine ⟨_, n, e, (y.2.1 + 1), (zz : Int), E, rfl, hS, hR, hD, (by first | exact hk | (clear hQ; grind [xu])), (zEt_fr hE_1 (fun c j h => zxcj (by omega) rfl)), hsc, (Eq.trans (b := (((y.2.1) + 1) : Int)) rfl (by omega)), h171, (zEv_fr hV_1 (fun c j h => zxcj (by omega) rfl) (fun c j h => rfl)), (eTx_lt hE2 (by omega)), (lp_go hrest hg (by omega) ⟨hy1, by omega⟩).1, ?_⟩
            intro v63o pz63o I63o p63hO p63bhv2 p63bbh16 p63bbbh17 p63bbbbfr
            have g63 : ((exAt e 1) (y.2.1 + 1)).1 = 1 := (lp_go hrest hg (by omega) ⟨hy1, by omega⟩).1
            have g63b : evT E ((exAt e 1) (y.2.1 + 1)).2.2 := (exAt_H (E := E) 1 (y.2.1 + 1) g63)
            have g63bb : y.2.1 + 1 < ((exAt e 1) (y.2.1 + 1)).2.1 ∧ ((exAt e 1) (y.2.1 + 1)).2.1 ≤ n := (by have z9 := exAt_ok (c := e) (r := 1) hE2 (p := y.2.1 + 1) (eTx_lt hE2 (p := y.2.1) (by omega)); unfold exOk at z9; omega)
            refine And.intro ⟨(by omega), (zRb rfl)⟩ ⟨fun h72 => ?_, (fun h72 => False.elim (by omega))⟩
            refine And.intro ⟨(by omega), (zRb rfl)⟩ ⟨fun h90 => ?_, (fun h90 => False.elim (by omega))⟩
            refine And.intro (zA_138 hS) ⟨_, sn_E_div.up (by decide), ?_⟩
            refine ⟨(vv : Int), (v63o : Int), (0 : Int), (pz63o : Int), rfl, hS, hR, p63bbbh17, (by clear hQ; grind [xu]), (by clear hQ; grind [xu]), (by clear hQ; grind [xu]), ?_⟩
            intro v98o pz98o I98o p98h17 p98bhd p98bbhv2 p98bbbfr
            refine And.intro (zA_138 hS) (zrdR (v := some k) hsc ?_)
            refine And.intro (zA_138 hS) (zrd (v := (((exAt e 1 (y.2.1 + 1)).2.1 : Nat))) ((p98bbbfr 138 16 (by omega)).trans p63bbh16) ?_)
            refine And.intro (zDX hD 0 rfl) ⟨_, sn_S_let.up (by decide), ?_⟩
            refine ⟨_, n, e, ((((exAt e 1 (y.2.1 + 1)).2.1 : Nat)) : Int), ((exAt e 1) (y.2.1 + 1)).2.1, rfl, hS, hR, hD, (by first | exact hk | (clear hQ; grind [xu])), (zEt_fr hE_1 (fun c j h => ((p98bbbfr c j (by omega)).trans ((p63bbbbfr c j (by omega) (by omega)).trans (zxcj (by omega) rfl))))), (by omega), ?_⟩
            intro v110o p110hv p110bhv2
            refine ⟨((401 - (m + 1)), 0, 0), zlt6 (by omega), [some (zvr (138)), some (zvi (2)), some (zvl (v98o)), none, some (zvi (e (exO e y ((exAt e 1) (y.2.1 + 1))).2.1)), some (zvi ((m + 1))), none, none], ⟨rfl, rfl, (by first | exact zdn_l | rfl), (congrArg (fun z => zden (zvi z)) (by rw [exO_e g63]; exact p110hv)), rfl, rfl⟩, (m + 1), (exO e y ((exAt e 1) (y.2.1 + 1))), v98o, pz98o, rfl, rfl, rfl, rfl, rfl, rfl, (by omega), (by rw [exO_e g63]), (exO_ok hyok hy1 (exAt_ok (c := e) (r := 1) hE2 (eTx_lt hE2 (by omega)))), (lp_go hrest hg (by omega) ⟨hy1, by omega⟩).2, (by rw [exO_e g63]; exact (by first | exact p63bbh16 | exact (p98bbbfr 138 16 (by omega)).trans p63bbh16)), p98h17, ?_, (by first | exact zn6_r _ | exact p98bbhv2), (by rw [exO_e g63]; exact evT_b hT g63b (by unfold isB; omega)), (fun c j h0 h1 => ((p98bbbfr c j h1).trans ((p63bbbbfr c j h0 h1).trans (zxcj h0 ((fr c j h0 h1).trans rfl)))))⟩
            · rw [exO_e g63]
              first
              | exact zEo_d hT g63b (by first | exact Or.inl ⟨by omega, rfl⟩ | exact Or.inr ⟨by omega, rfl⟩) hO p63hO p98bhd
              | exact zEo_o hT g63b (by omega) hO p63hO (by rw [show e y.2.1 = 42 by omega]; exact evB_m.symm)))
def T_E_sm1 : ZT := fun args I L R S Q => ∃ (k : Nat) (n : Nat) (e : Nat → Int) (p : Nat) (z : Int) (E : EvE), args = [zvr 138, zvi 2] ∧ (zSh S) ∧ (zRs R) ∧ (zDy zT8 zF8 k R S) ∧ (k = 130 ∨ k = 134) ∧ (zEt k n e I) ∧ (R 138 0 = some k) ∧ (I 138 16 = p) ∧ (I 138 17 = z) ∧ (zEv E I L) ∧ (p ≤ n) ∧ ((exSm e (exAt e 1) p).1 = 1) ∧ ∀ (v : Int) (pz : Int) (I' : ZI), (zEo E (exSm e (exAt e 1) p).2.2 z v pz) → (r64 v) → (I' 138 16 = ((exSm e (exAt e 1) p).2.1 : Nat)) → (I' 138 17 = pz) → (∀ c j : Nat, ¬ (c = 138 ∧ j = 16) → ¬ (c = 138 ∧ j = 17) → I' c j = I c j) → Q (some (zvl (v))) I' L R S
theorem sn_E_sm1 : ZSnd 13 4 26 T_E_sm1 := ZSnd.w (ZSnd.loopsw (zT4_26 12) (by
  rintro args I L R S Q' hz ⟨Q, rfl, k, n, e, p, z, E, rfl, hS, hR, hD, hk, hE, hsc, h16, h17, hV, hp, hg, hQ⟩
  have hk130 : 130 ≤ k := by omega
  have hk134 : k ≤ 134 := by omega
  obtain ⟨hE1, hE2, hE3⟩ := id hE
  have hn4 := hE2.1
  obtain ⟨hV1, ⟨hV2, hV2b⟩, hV3, ⟨hV4, hV4b⟩, hV5⟩ := id hV
  have hg1 : ((exPr e (exAt e 1)) p).1 = 1 := exLp_x hg
  refine ⟨[22], fun nM tM lsM stM I1 L1 R1 S1 => match tM with
      | 22 => ∃ (m : Nat) (y : ExR) (vv : Int) (zz : Int), nM = ((401 - m), 0, 0) ∧ lsM = [some (zvr (138)), some (zvi (2)), some (zvl (vv)), none, some (zvi (e y.2.1)), some (zvi (m)), none, none] ∧ stM = [] ∧ L1 = L ∧ R1 = R ∧ S1 = S ∧ (m ≤ 400) ∧ (y.1 = 1) ∧ (exOk n p y) ∧ (exLp e 43 45 45 (exPr e (exAt e 1)) (400 - m) y = (exSm e (exAt e 1) p)) ∧ (I1 138 16 = y.2.1) ∧ (I1 138 17 = zz) ∧ (zEo E y.2.2 z vv zz) ∧ (r64 vv) ∧ (evT E y.2.2) ∧ (∀ c j : Nat, ¬ (c = 138 ∧ j = 16) → ¬ (c = 138 ∧ j = 17) → I1 c j = I c j)
      | _ => False, rfl, ?_, ⟨?_, True.intro⟩⟩
  · refine And.intro (zA_138 hS) ⟨_, sn_E_pr1.up (by decide), ?_⟩
    refine ⟨_, n, e, p, (z : Int), E, rfl, hS, hR, hD, (by first | exact hk | (clear hQ; grind [xu])), hE, hsc, h16, h17, hV, (by omega), hg1, ?_⟩
    intro v2o pz2o I2o p2hO p2bhv2 p2bbh16 p2bbbh17 p2bbbbfr
    have g2 : p < ((exPr e (exAt e 1)) p).2.1 ∧ ((exPr e (exAt e 1)) p).2.1 ≤ n := (by have z9 := exPrA_ok (c := e) (r := 1) hE2 hp; unfold exOk at z9; omega)
    refine And.intro (zA_138 hS) (zrdR (v := some k) hsc ?_)
    refine And.intro (zA_138 hS) (zrd (v := (((exPr e (exAt e 1) p).2.1 : Nat))) p2bbh16 ?_)
    refine And.intro (zDX hD 0 rfl) ⟨_, sn_S_let.up (by decide), ?_⟩
    refine ⟨_, n, e, ((((exPr e (exAt e 1) p).2.1 : Nat)) : Int), ((exPr e (exAt e 1)) p).2.1, rfl, hS, hR, hD, (by first | exact hk | (clear hQ; grind [xu])), (zEt_fr hE (fun c j h => p2bbbbfr c j (by omega) (by omega))), (by omega), ?_⟩
    intro v14o p14hv p14bhv2
    refine ⟨((401 - (0 : Nat)), 0, 0), [some (zvr (138)), some (zvi (2)), some (zvl (v2o)), none, some (zvi (e ((exPr e (exAt e 1)) p).2.1)), some (zvi ((0 : Nat))), none, none], ⟨rfl, rfl, rfl, (congrArg (fun z => zden (zvi z)) (by omega)), rfl, rfl⟩, 0, ((exPr e (exAt e 1)) p), v2o, pz2o, rfl, rfl, rfl, rfl, rfl, rfl, (by omega), hg1, (exPrA_ok (c := e) (r := 1) hE2 hp), rfl, p2bbh16, p2bbbh17, p2hO, p2bhv2, (exPr_H (E := E) (exAt_H 1) (p) hg1), (fun c j h0 h1 => ((p2bbbbfr c j h0 h1).trans rfl))⟩
  · rintro nM lsM stM I1 L1 R1 S1 hz1 ⟨m, y, vv, zz, rfl, rfl, rfl, rfl, rfl, rfl, hm, hy1, hyok, hrest, h161, h171, hO, hvr, hT, fr⟩
    have hE_1 : zEt k n e I1 := (zEt_fr hE (fun c j h => fr c j (by omega) (by omega)))
    have hV_1 : zEv E I1 L1 := zEv_fr hV (fun c j h => fr c j (by omega) (by omega)) (fun c j h => rfl)
    have hb8 := hE2.2.2 y.2.1
    have hyo : p < y.2.1 ∧ y.2.1 ≤ n := (by unfold exOk at hyok; omega)
    refine And.intro ⟨(by omega), (zRb rfl)⟩ ⟨fun h27 => ?_, fun h27 => ?_⟩
    · refine Qw_l rfl (hQ _ (zz : Int) _ (by rw [← lp_end (y := y) hrest (by omega)]; exact hO) hvr (by rw [← lp_end (y := y) hrest (by omega)]; exact h161) h171 (fun c j h0 h1 => ((fr c j h0 h1).trans rfl)))
    · refine And.intro ⟨(by omega), (zRb rfl)⟩ ⟨fun h34 => ?_, fun h34 => ?_⟩
      · refine And.intro (zA_138 hS) (zrd (v := (y.2.1)) h161 ?_)
        refine And.intro (zA_138 hS) ⟨_, (zWi (by omega)), ?_⟩
        refine And.intro (zA_138 hS) ⟨_, sn_E_pr1.up (by decide), ?_⟩
        refine ⟨_, n, e, (y.2.1 + 1), (zz : Int), E, rfl, hS, hR, hD, (by first | exact hk | (clear hQ; grind [xu])), (zEt_fr hE_1 (fun c j h => zxcj (by omega) rfl)), hsc, (Eq.trans (b := (((y.2.1) + 1) : Int)) rfl (by omega)), h171, (zEv_fr hV_1 (fun c j h => zxcj (by omega) rfl) (fun c j h => rfl)), (eTx_lt hE2 (by omega)), (lp_go hrest hg (by omega) ⟨hy1, by omega⟩).1, ?_⟩
        intro v56o pz56o I56o p56hO p56bhv2 p56bbh16 p56bbbh17 p56bbbbfr
        have g56 : ((exPr e (exAt e 1)) (y.2.1 + 1)).1 = 1 := (lp_go hrest hg (by omega) ⟨hy1, by omega⟩).1
        have g56b : evT E ((exPr e (exAt e 1)) (y.2.1 + 1)).2.2 := (exPr_H (E := E) (exAt_H 1) (y.2.1 + 1) g56)
        have g56bb : y.2.1 + 1 < ((exPr e (exAt e 1)) (y.2.1 + 1)).2.1 ∧ ((exPr e (exAt e 1)) (y.2.1 + 1)).2.1 ≤ n := (by have z9 := exPrA_ok (c := e) (r := 1) hE2 (p := y.2.1 + 1) (eTx_lt hE2 (p := y.2.1) (by omega)); unfold exOk at z9; omega)
        refine And.intro ⟨(by omega), (zRb rfl)⟩ ⟨(fun h65 => False.elim (by omega)), fun h65 => ?_⟩
        refine And.intro (zA_138 hS) (zrdR (v := some k) hsc ?_)
        refine And.intro (zA_138 hS) (zrd (v := (((exPr e (exAt e 1) (y.2.1 + 1)).2.1 : Nat))) p56bbh16 ?_)
        refine And.intro (zDX hD 0 rfl) ⟨_, sn_S_let.up (by decide), ?_⟩
        refine ⟨_, n, e, ((((exPr e (exAt e 1) (y.2.1 + 1)).2.1 : Nat)) : Int), ((exPr e (exAt e 1)) (y.2.1 + 1)).2.1, rfl, hS, hR, hD, (by first | exact hk | (clear hQ; grind [xu])), (zEt_fr hE_1 (fun c j h => ((p56bbbbfr c j (by omega) (by omega)).trans (zxcj (by omega) rfl)))), (by omega), ?_⟩
        intro v88o p88hv p88bhv2
        refine ⟨((401 - (m + 1)), 0, 0), zlt6 (by omega), [some (zvr (138)), some (zvi (2)), some (zvl ((zn6 (vv + v56o)))), none, some (zvi (e (exO e y ((exPr e (exAt e 1)) (y.2.1 + 1))).2.1)), some (zvi ((m + 1))), none, none], ⟨rfl, rfl, (by first | exact zdn_l | rfl), (congrArg (fun z => zden (zvi z)) (by rw [exO_e g56]; exact p88hv)), rfl, rfl⟩, (m + 1), (exO e y ((exPr e (exAt e 1)) (y.2.1 + 1))), (zn6 (vv + v56o)), pz56o, rfl, rfl, rfl, rfl, rfl, rfl, (by omega), (by rw [exO_e g56]), (exO_ok hyok hy1 (exPrA_ok (c := e) (r := 1) hE2 (eTx_lt hE2 (by omega)))), (lp_go hrest hg (by omega) ⟨hy1, by omega⟩).2, (by rw [exO_e g56]; exact p56bbh16), p56bbbh17, ?_, (by first | exact zn6_r _ | exact p98bbhv2), (by rw [exO_e g56]; exact evT_b hT g56b (by unfold isB; omega)), (fun c j h0 h1 => ((p56bbbbfr c j h0 h1).trans (zxcj h0 ((fr c j h0 h1).trans rfl))))⟩
        · rw [exO_e g56]
          first
          | exact zEo_o hT g56b (by omega) hO p56hO (by rw [show e y.2.1 = 43 by omega]; exact evB_a.symm)
          | exact zEo_o hT g56b (by omega) hO p56hO (by rw [show e y.2.1 = 45 by omega]; exact evB_s.symm)
      · refine And.intro ⟨(by omega), (zRb rfl)⟩ ⟨fun h41 => ?_, fun h41 => ?_⟩
        · refine Qw_l rfl (hQ _ (zz : Int) _ (by rw [← lp_end (y := y) hrest (by omega)]; exact hO) hvr (by rw [← lp_end (y := y) hrest (by omega)]; exact h161) h171 (fun c j h0 h1 => ((fr c j h0 h1).trans rfl)))
        · refine And.intro (zA_138 hS) (zrd (v := (y.2.1)) h161 ?_)
          refine And.intro (zA_138 hS) ⟨_, (zWi (by omega)), ?_⟩
          refine And.intro (zA_138 hS) ⟨_, sn_E_pr1.up (by decide), ?_⟩
          refine ⟨_, n, e, (y.2.1 + 1), (zz : Int), E, rfl, hS, hR, hD, (by first | exact hk | (clear hQ; grind [xu])), (zEt_fr hE_1 (fun c j h => zxcj (by omega) rfl)), hsc, (Eq.trans (b := (((y.2.1) + 1) : Int)) rfl (by omega)), h171, (zEv_fr hV_1 (fun c j h => zxcj (by omega) rfl) (fun c j h => rfl)), (eTx_lt hE2 (by omega)), (lp_go hrest hg (by omega) ⟨hy1, by omega⟩).1, ?_⟩
          intro v56o pz56o I56o p56hO p56bhv2 p56bbh16 p56bbbh17 p56bbbbfr
          have g56 : ((exPr e (exAt e 1)) (y.2.1 + 1)).1 = 1 := (lp_go hrest hg (by omega) ⟨hy1, by omega⟩).1
          have g56b : evT E ((exPr e (exAt e 1)) (y.2.1 + 1)).2.2 := (exPr_H (E := E) (exAt_H 1) (y.2.1 + 1) g56)
          have g56bb : y.2.1 + 1 < ((exPr e (exAt e 1)) (y.2.1 + 1)).2.1 ∧ ((exPr e (exAt e 1)) (y.2.1 + 1)).2.1 ≤ n := (by have z9 := exPrA_ok (c := e) (r := 1) hE2 (p := y.2.1 + 1) (eTx_lt hE2 (p := y.2.1) (by omega)); unfold exOk at z9; omega)
          refine And.intro ⟨(by omega), (zRb rfl)⟩ ⟨fun h65 => ?_, (fun h65 => False.elim (by omega))⟩
          have t65 : True := trivial
          refine And.intro (zA_138 hS) (zrdR (v := some k) hsc ?_)
          refine And.intro (zA_138 hS) (zrd (v := (((exPr e (exAt e 1) (y.2.1 + 1)).2.1 : Nat))) p56bbh16 ?_)
          refine And.intro (zDX hD 0 rfl) ⟨_, sn_S_let.up (by decide), ?_⟩
          refine ⟨_, n, e, ((((exPr e (exAt e 1) (y.2.1 + 1)).2.1 : Nat)) : Int), ((exPr e (exAt e 1)) (y.2.1 + 1)).2.1, rfl, hS, hR, hD, (by first | exact hk | (clear hQ; grind [xu])), (zEt_fr hE_1 (fun c j h => ((p56bbbbfr c j (by omega) (by omega)).trans (zxcj (by omega) rfl)))), (by omega), ?_⟩
          intro v88o p88hv p88bhv2
          refine ⟨((401 - (m + 1)), 0, 0), zlt6 (by omega), [some (zvr (138)), some (zvi (2)), some (zvl ((zn6 (vv - v56o)))), none, some (zvi (e (exO e y ((exPr e (exAt e 1)) (y.2.1 + 1))).2.1)), some (zvi ((m + 1))), none, none], ⟨rfl, rfl, (by first | exact zdn_l | rfl), (congrArg (fun z => zden (zvi z)) (by rw [exO_e g56]; exact p88hv)), rfl, rfl⟩, (m + 1), (exO e y ((exPr e (exAt e 1)) (y.2.1 + 1))), (zn6 (vv - v56o)), pz56o, rfl, rfl, rfl, rfl, rfl, rfl, (by omega), (by rw [exO_e g56]), (exO_ok hyok hy1 (exPrA_ok (c := e) (r := 1) hE2 (eTx_lt hE2 (by omega)))), (lp_go hrest hg (by omega) ⟨hy1, by omega⟩).2, (by rw [exO_e g56]; exact p56bbh16), p56bbbh17, ?_, (by first | exact zn6_r _ | exact p98bbhv2), (by rw [exO_e g56]; exact evT_b hT g56b (by unfold isB; omega)), (fun c j h0 h1 => ((p56bbbbfr c j h0 h1).trans (zxcj h0 ((fr c j h0 h1).trans rfl))))⟩
          · rw [exO_e g56]
            first
            | exact zEo_o hT g56b (by omega) hO p56hO (by rw [show e y.2.1 = 43 by omega]; exact evB_a.symm)
            | exact zEo_o hT g56b (by omega) hO p56hO (by rw [show e y.2.1 = 45 by omega]; exact evB_s.symm)))
def T_E_ex1 : ZT := fun args I L R S Q => ∃ (k : Nat) (n : Nat) (e : Nat → Int) (p : Nat) (z : Int) (E : EvE), args = [zvr 138, zvi 2] ∧ (zSh S) ∧ (zRs R) ∧ (zDy zT8 zF8 k R S) ∧ (k = 130 ∨ k = 134) ∧ (zEt k n e I) ∧ (R 138 0 = some k) ∧ (I 138 16 = p) ∧ (I 138 17 = z) ∧ (zEv E I L) ∧ (p ≤ n) ∧ ((exEx e 1 p).1 = 1) ∧ ∀ (v : Int) (pz : Int) (I' : ZI), (zEo E (exEx e 1 p).2.2 z v pz) → (r64 v) → (I' 138 16 = ((exEx e 1 p).2.1 : Nat)) → (I' 138 17 = pz) → (∀ c j : Nat, ¬ (c = 138 ∧ j = 16) → ¬ (c = 138 ∧ j = 17) → I' c j = I c j) → Q (some (zvl (v))) I' L R S
theorem sn_E_ex1 : ZSnd 14 4 10 T_E_ex1 := ZSnd.of (zT4_10 13) (by
  rintro args I L R S Q hz ⟨k, n, e, p, z, E, rfl, hS, hR, hD, hk, hE, hsc, h16, h17, hV, hp, hg, hQ⟩
  have hk130 : 130 ≤ k := by omega
  have hk134 : k ≤ 134 := by omega
  obtain ⟨hE1, hE2, hE3⟩ := id hE
  have hn4 := hE2.1
  obtain ⟨hV1, ⟨hV2, hV2b⟩, hV3, ⟨hV4, hV4b⟩, hV5⟩ := id hV
  have hg1 : (exSm e (exAt e 1) p).1 = 1 := exEx_1 hg
  have hb8 := hE2.2.2 (exSm e (exAt e 1) p).2.1
  refine And.intro rfl ?_
  refine And.intro (zA_138 hS) ⟨_, sn_E_sm1.up (by decide), ?_⟩
  refine ⟨_, n, e, p, (z : Int), E, rfl, hS, hR, hD, (by first | exact hk | (clear hQ; grind [xu])), hE, hsc, h16, h17, hV, (by omega), hg1, ?_⟩
  intro v2o pz2o I2o p2hO p2bhv2 p2bbh16 p2bbbh17 p2bbbbfr
  have g2 : p < (exSm e (exAt e 1) p).2.1 ∧ (exSm e (exAt e 1) p).2.1 ≤ n := (by have z9 := exSm_ok hE2 (fun _ hq => exAt_ok (r := 1) hE2 hq) hp; unfold exOk at z9; omega)
  refine And.intro (zA_138 hS) (zrdR (v := some k) hsc ?_)
  refine And.intro (zA_138 hS) (zrd (v := (((exSm e (exAt e 1) p).2.1 : Nat))) p2bbh16 ?_)
  refine And.intro (zDX hD 0 rfl) ⟨_, sn_S_let.up (by decide), ?_⟩
  refine ⟨_, n, e, ((((exSm e (exAt e 1) p).2.1 : Nat)) : Int), (exSm e (exAt e 1) p).2.1, rfl, hS, hR, hD, (by first | exact hk | (clear hQ; grind [xu])), (zEt_fr hE (fun c j h => p2bbbbfr c j (by omega) (by omega))), (by omega), ?_⟩
  intro v14o p14hv p14bhv2
  refine And.intro ⟨(by omega), (zRb rfl)⟩ ⟨fun h23 => ?_, fun h23 => ?_⟩
  · refine And.intro (zA_138 hS) (zrd (v := (((exSm e (exAt e 1) p).2.1 : Nat))) p2bbh16 ?_)
    refine And.intro (zA_138 hS) ⟨_, (zWi (by omega)), ?_⟩
    refine And.intro (zA_138 hS) ⟨_, sn_E_sm1.up (by decide), ?_⟩
    refine ⟨_, n, e, ((exSm e (exAt e 1) p).2.1 + 1), (pz2o : Int), E, rfl, hS, hR, hD, (by first | exact hk | (clear hQ; grind [xu])), (zEt_fr hE (fun c j h => zxcj (by omega) (p2bbbbfr c j (by omega) (by omega)))), hsc, rfl, p2bbbh17, (zEv_fr hV (fun c j h => zxcj (by omega) (p2bbbbfr c j (by omega) (by omega))) (fun c j h => rfl)), (eTx_lt hE2 (by omega)), (exEx_y hg (by omega)).1, ?_⟩
    intro v47o pz47o I47o p47hO p47bhv2 p47bbh16 p47bbbh17 p47bbbbfr
    refine And.intro ⟨(by omega), (zRb rfl)⟩ ⟨(fun h56 => False.elim (by omega)), fun h56 => ?_⟩
    refine ⟨_, _, ⟨zW6i (by omega), zW6i (by omega)⟩, fun z62 c62 => ?_⟩
    refine And.intro c62.2.2 ⟨fun h63 => ?_, fun h63 => ?_⟩
    · have k63 : v2o ≥ v47o := by omega
      clear h63 c62
      refine And.intro (zRb rfl) (zbt rfl ?_)
      refine hQ _ (pz47o : Int) _ ?_ (by omega) ?_ p47bbbh17 (fun c j h0 h1 => ((p47bbbbfr c j h0 h1).trans (zxcj h0 ((p2bbbbfr c j h0 h1).trans rfl))))
      · first
        | (rw [exEx_n (by omega)]; exact p2hO)
        | (rw [(exEx_y hg (by omega)).2]
           refine zEo_o (evT_sm hg1) (evT_sm (exEx_y hg (by omega)).1) (by omega) p2hO p47hO ?_
           first
           | (rw [show e (exSm e (exAt e 1) p).2.1 = 60 by omega, evB_l]
              first
              | (rw [if_pos (by omega)])
              | (rw [if_neg (by omega)]))
           | (rw [show e (exSm e (exAt e 1) p).2.1 = 61 by omega, evB_q]
              first
              | (rw [if_pos (by omega)])
              | (rw [if_neg (by omega)])))
      · first
        | (rw [exEx_n (by omega)]; exact p2bbh16)
        | (rw [(exEx_y hg (by omega)).2]; exact p47bbh16)
    · have k63b : v2o < v47o := by omega
      clear h63 c62
      refine And.intro (zRb rfl) (zbf rfl ?_)
      refine hQ _ (pz47o : Int) _ ?_ (by omega) ?_ p47bbbh17 (fun c j h0 h1 => ((p47bbbbfr c j h0 h1).trans (zxcj h0 ((p2bbbbfr c j h0 h1).trans rfl))))
      · first
        | (rw [exEx_n (by omega)]; exact p2hO)
        | (rw [(exEx_y hg (by omega)).2]
           refine zEo_o (evT_sm hg1) (evT_sm (exEx_y hg (by omega)).1) (by omega) p2hO p47hO ?_
           first
           | (rw [show e (exSm e (exAt e 1) p).2.1 = 60 by omega, evB_l]
              first
              | (rw [if_pos (by omega)])
              | (rw [if_neg (by omega)]))
           | (rw [show e (exSm e (exAt e 1) p).2.1 = 61 by omega, evB_q]
              first
              | (rw [if_pos (by omega)])
              | (rw [if_neg (by omega)])))
      · first
        | (rw [exEx_n (by omega)]; exact p2bbh16)
        | (rw [(exEx_y hg (by omega)).2]; exact p47bbh16)
  · refine And.intro ⟨(by omega), (zRb rfl)⟩ ⟨fun h30 => ?_, fun h30 => ?_⟩
    · refine And.intro (zA_138 hS) (zrd (v := (((exSm e (exAt e 1) p).2.1 : Nat))) p2bbh16 ?_)
      refine And.intro (zA_138 hS) ⟨_, (zWi (by omega)), ?_⟩
      refine And.intro (zA_138 hS) ⟨_, sn_E_sm1.up (by decide), ?_⟩
      refine ⟨_, n, e, ((exSm e (exAt e 1) p).2.1 + 1), (pz2o : Int), E, rfl, hS, hR, hD, (by first | exact hk | (clear hQ; grind [xu])), (zEt_fr hE (fun c j h => zxcj (by omega) (p2bbbbfr c j (by omega) (by omega)))), hsc, rfl, p2bbbh17, (zEv_fr hV (fun c j h => zxcj (by omega) (p2bbbbfr c j (by omega) (by omega))) (fun c j h => rfl)), (eTx_lt hE2 (by omega)), (exEx_y hg (by omega)).1, ?_⟩
      intro v47o pz47o I47o p47hO p47bhv2 p47bbh16 p47bbbh17 p47bbbbfr
      refine And.intro ⟨(by omega), (zRb rfl)⟩ ⟨fun h56 => ?_, (fun h56 => False.elim (by omega))⟩
      refine ⟨_, _, ⟨zW6i (by omega), zW6i (by omega)⟩, fun z77 c77 => ?_⟩
      refine And.intro c77.2.2 ⟨fun h78 => ?_, fun h78 => ?_⟩
      · have k78 : v2o ≠ v47o := by omega
        clear h78 c77
        refine And.intro (zRb rfl) (zbt rfl ?_)
        refine hQ _ (pz47o : Int) _ ?_ (by omega) ?_ p47bbbh17 (fun c j h0 h1 => ((p47bbbbfr c j h0 h1).trans (zxcj h0 ((p2bbbbfr c j h0 h1).trans rfl))))
        · first
          | (rw [exEx_n (by omega)]; exact p2hO)
          | (rw [(exEx_y hg (by omega)).2]
             refine zEo_o (evT_sm hg1) (evT_sm (exEx_y hg (by omega)).1) (by omega) p2hO p47hO ?_
             first
             | (rw [show e (exSm e (exAt e 1) p).2.1 = 60 by omega, evB_l]
                first
                | (rw [if_pos (by omega)])
                | (rw [if_neg (by omega)]))
             | (rw [show e (exSm e (exAt e 1) p).2.1 = 61 by omega, evB_q]
                first
                | (rw [if_pos (by omega)])
                | (rw [if_neg (by omega)])))
        · first
          | (rw [exEx_n (by omega)]; exact p2bbh16)
          | (rw [(exEx_y hg (by omega)).2]; exact p47bbh16)
      · have k78b : v2o = v47o := by omega
        clear h78 c77
        refine And.intro (zRb rfl) (zbf rfl ?_)
        refine hQ _ (pz47o : Int) _ ?_ (by omega) ?_ p47bbbh17 (fun c j h0 h1 => ((p47bbbbfr c j h0 h1).trans (zxcj h0 ((p2bbbbfr c j h0 h1).trans rfl))))
        · first
          | (rw [exEx_n (by omega)]; exact p2hO)
          | (rw [(exEx_y hg (by omega)).2]
             refine zEo_o (evT_sm hg1) (evT_sm (exEx_y hg (by omega)).1) (by omega) p2hO p47hO ?_
             first
             | (rw [show e (exSm e (exAt e 1) p).2.1 = 60 by omega, evB_l]
                first
                | (rw [if_pos (by omega)])
                | (rw [if_neg (by omega)]))
             | (rw [show e (exSm e (exAt e 1) p).2.1 = 61 by omega, evB_q]
                first
                | (rw [if_pos (by omega)])
                | (rw [if_neg (by omega)])))
        · first
          | (rw [exEx_n (by omega)]; exact p2bbh16)
          | (rw [(exEx_y hg (by omega)).2]; exact p47bbh16)
    · refine hQ _ (pz2o : Int) _ ?_ (by omega) ?_ p2bbbh17 (fun c j h0 h1 => ((p2bbbbfr c j h0 h1).trans rfl))
      · first
        | (rw [exEx_n (by omega)]; exact p2hO)
        | (rw [(exEx_y hg (by omega)).2]
           refine zEo_o (evT_sm hg1) (evT_sm (exEx_y hg (by omega)).1) (by omega) p2hO p47hO ?_
           first
           | (rw [show e (exSm e (exAt e 1) p).2.1 = 60 by omega, evB_l]
              first
              | (rw [if_pos (by omega)])
              | (rw [if_neg (by omega)]))
           | (rw [show e (exSm e (exAt e 1) p).2.1 = 61 by omega, evB_q]
              first
              | (rw [if_pos (by omega)])
              | (rw [if_neg (by omega)])))
      · first
        | (rw [exEx_n (by omega)]; exact p2bbh16)
        | (rw [(exEx_y hg (by omega)).2]; exact p47bbh16))
def T_E_da2 : ZT := fun args I L R S Q => ∃ (k : Nat) (n : Nat) (e : Nat → Int) (p : Nat) (z : Int) (E : EvE) (u : Int), args = [zvr 138, zvi u, zvi 2] ∧ (zSh S) ∧ (zRs R) ∧ (zDy zT8 zF8 k R S) ∧ (k = 130 ∨ k = 134) ∧ (zEt k n e I) ∧ (R 138 0 = some k) ∧ (I 138 16 = p + 1) ∧ (I 138 17 = z) ∧ (zEv E I L) ∧ (p + 1 ≤ n) ∧ (u = e p) ∧ (u = 40 ∨ u = 45 ∨ u = 39 ∨ u = 64) ∧ ((exAt e 2 p).1 = 1) ∧ ∀ (v : Int) (pz : Int) (I' : ZI), (zEo E (exAt e 2 p).2.2 z v pz) → (r64 v) → (I' 138 16 = ((exAt e 2 p).2.1 : Nat)) → (I' 138 17 = pz) → (∀ c j : Nat, ¬ (c = 138 ∧ j = 16) → ¬ (c = 138 ∧ j = 17) → I' c j = I c j) → Q (some (zvl (v))) I' L R S
theorem sn_E_da2 : ZSnd 16 4 6 T_E_da2 := ZSnd.w (ZSnd.of (zT4_6 15) (by
  rintro args I L R S Q' hz ⟨Q, rfl, k, n, e, p, z, E, u, rfl, hS, hR, hD, hk, hE, hsc, h16, h17, hV, hp, hu, hu4, hg, hQ⟩
  have hk130 : 130 ≤ k := by omega
  have hk134 : k ≤ 134 := by omega
  obtain ⟨hE1, hE2, hE3⟩ := id hE
  have hn4 := hE2.1
  obtain ⟨hV1, ⟨hV2, hV2b⟩, hV3, ⟨hV4, hV4b⟩, hV5⟩ := id hV
  refine And.intro rfl ?_
  refine And.intro ⟨(by omega), (zRb rfl)⟩ ⟨fun h3 => ?_, fun h3 => ?_⟩
  · have t3 : (exAt e 1 (p + 1)).1 = 1 := (by rcases hu4 with q | q | q | q; (exfalso; omega); (rw [exAt_m (by omega)] at hg; exact (exUn_1 hg).1); (rw [exAt_q (by omega)] at hg; exact (exUn_1 hg).1); (rw [exAt_a (by omega)] at hg; exact (exFd_1 hg).1))
    refine And.intro (zA_138 hS) ⟨_, sn_E_at1.up (by decide), ?_⟩
    refine ⟨_, n, e, (p + 1), (z : Int), E, rfl, hS, hR, hD, (by first | exact hk | (clear hQ; grind [xu])), hE, hsc, h16, h17, hV, (by omega), t3, ?_⟩
    intro v26o pz26o I26o p26hO p26bhv2 p26bbh16 p26bbbh17 p26bbbbfr
    have g26 : (exAt e 1 (p + 1)).2.1 ≤ n := (by have z9 := exAt_ok hE2 (r := 1) hp; unfold exOk at z9; omega)
    refine And.intro ⟨(by omega), (zRb rfl)⟩ ⟨fun h33 => ?_, fun h33 => ?_⟩
    · refine And.intro ⟨(by omega), (zRb rfl)⟩ ⟨fun h42 => ?_, fun h42 => ?_⟩
      · refine And.intro (zA_138 hS) ⟨_, sn_E_li.up (by decide), ?_⟩
        refine ⟨(pz26o : Int), (v26o : Int), E.2.2.2.1, rfl, hS, hR, p26bbbh17, ((p26bbbbfr 138 6 (by omega) (by omega)).trans hV4), (by omega), p26bhv2, ?_⟩
        intro v55o pz55o I55o p55h17 p55bhd p55bbfr
        refine And.intro ⟨(by omega), (zRb rfl)⟩ ⟨fun h63 => ?_, fun h63 => ?_⟩
        · refine And.intro ⟨(by omega), (zRb rfl)⟩ ⟨fun h71 => ?_, (fun h71 => False.elim (by omega))⟩
          refine And.intro (zA_138 hS) (zrdR (v := some 142) (zR_138_5 hR) ?_)
          refine And.intro (zP_142 hS (by omega) (by omega)) (fun v90 e90 r90 => ?_)
          have f90 : v90 = E.2.2.2.2 (v55o).toNat := (e90.trans (hV5 _ (by omega)))
          refine Qw_l rfl (hQ _ (pz55o : Int) _ ?_ (by first | exact zn6_r _ | omega) ?_ p55h17 (fun c j h0 h1 => ((p55bbfr c j h1).trans ((p26bbbbfr c j h0 h1).trans rfl))))
          · first
            | (rw [t3.2.2]; exact p8hO)
            | (rw [exAt_m (by omega), (exUn_1 (by rw [exAt_m (by omega)] at hg; exact hg)).2]
               exact zEo_m (evT_at t3) p26hO)
            | (rw [t42.2.2.2]
               first
               | (refine zEo_r (u := 2) (v := v26o) (z1 := pz26o) (evT_at t3) (Or.inl rfl) p26hO (fun _ => ?_) (by omega)
                  rw [evU_b (by omega)])
               | (refine zEo_r (u := 0) (v := v26o) (z1 := pz26o) (evT_at t3) (Or.inl rfl) p26hO (fun _ => ?_) (by omega)
                  rw [evU_a (by omega), f80]
                  exact congrArg (fun q => ((0 : Nat), E.2.2.1 q)) (by omega)))
            | (rw [exAt_q (by omega), (exUn_1 (by rw [exAt_q (by omega)] at hg; exact hg)).2]
               first
               | (refine zEo_r (u := 2) (v := v26o) (z1 := pz26o) (evT_at t3) (Or.inr rfl) p26hO (fun _ => ?_) (by omega)
                  rw [evU_d (by omega)])
               | (refine zEo_r (u := 0) (v := v26o) (z1 := pz26o) (evT_at t3) (Or.inr rfl) p26hO (fun _ => ?_) (by omega)
                  rw [evU_c (by omega), f90]
                  exact congrArg (fun q => ((0 : Nat), E.2.2.2.2 q)) (by omega)))
          · first
            | (rw [t3.2.2]; exact zxe.trans (by show _ = (((exEx e 1 (p + 1)).2.1 + 1 : Nat) : Int); omega))
            | (rw [exAt_m (by omega), (exUn_1 (by rw [exAt_m (by omega)] at hg; exact hg)).2]; exact p26bbh16)
            | (rw [t42.2.2.2]; exact p47h16.trans (by show _ = (((exAt e 1 (p + 1)).2.1 + 2 : Nat) : Int); omega))
            | (rw [exAt_q (by omega), (exUn_1 (by rw [exAt_q (by omega)] at hg; exact hg)).2]; exact (p55bbfr 138 16 (by omega)).trans p26bbh16)
        · refine Qw_l rfl (hQ _ (pz55o : Int) _ ?_ (by first | exact zn6_r _ | omega) ?_ p55h17 (fun c j h0 h1 => ((p55bbfr c j h1).trans ((p26bbbbfr c j h0 h1).trans rfl))))
          · first
            | (rw [t3.2.2]; exact p8hO)
            | (rw [exAt_m (by omega), (exUn_1 (by rw [exAt_m (by omega)] at hg; exact hg)).2]
               exact zEo_m (evT_at t3) p26hO)
            | (rw [t42.2.2.2]
               first
               | (refine zEo_r (u := 2) (v := v26o) (z1 := pz26o) (evT_at t3) (Or.inl rfl) p26hO (fun _ => ?_) (by omega)
                  rw [evU_b (by omega)])
               | (refine zEo_r (u := 0) (v := v26o) (z1 := pz26o) (evT_at t3) (Or.inl rfl) p26hO (fun _ => ?_) (by omega)
                  rw [evU_a (by omega), f80]
                  exact congrArg (fun q => ((0 : Nat), E.2.2.1 q)) (by omega)))
            | (rw [exAt_q (by omega), (exUn_1 (by rw [exAt_q (by omega)] at hg; exact hg)).2]
               first
               | (refine zEo_r (u := 2) (v := v26o) (z1 := pz26o) (evT_at t3) (Or.inr rfl) p26hO (fun _ => ?_) (by omega)
                  rw [evU_d (by omega)])
               | (refine zEo_r (u := 0) (v := v26o) (z1 := pz26o) (evT_at t3) (Or.inr rfl) p26hO (fun _ => ?_) (by omega)
                  rw [evU_c (by omega), f90]
                  exact congrArg (fun q => ((0 : Nat), E.2.2.2.2 q)) (by omega)))
          · first
            | (rw [t3.2.2]; exact zxe.trans (by show _ = (((exEx e 1 (p + 1)).2.1 + 1 : Nat) : Int); omega))
            | (rw [exAt_m (by omega), (exUn_1 (by rw [exAt_m (by omega)] at hg; exact hg)).2]; exact p26bbh16)
            | (rw [t42.2.2.2]; exact p47h16.trans (by show _ = (((exAt e 1 (p + 1)).2.1 + 2 : Nat) : Int); omega))
            | (rw [exAt_q (by omega), (exUn_1 (by rw [exAt_q (by omega)] at hg; exact hg)).2]; exact (p55bbfr 138 16 (by omega)).trans p26bbh16)
      · have t42 : (exAt e 1 (p + 1)).1 = 1 ∧ e (exAt e 1 (p + 1)).2.1 = 58 ∧ (48 ≤ e ((exAt e 1 (p + 1)).2.1 + 1) ∧ e ((exAt e 1 (p + 1)).2.1 + 1) ≤ 53) ∧ (exAt e 2 p) = (1, (exAt e 1 (p + 1)).2.1 + 2, (exAt e 1 (p + 1)).2.2 ++ [(64, e ((exAt e 1 (p + 1)).2.1 + 1) - 48)]) := (by have z9 := exAt_a (c := e) (r := 1) (p := p) (by omega); rw [z9] at hg ⊢; exact exFd_1 hg)
        have t42b : (exAt e 1 (p + 1)).2.1 + 1 ≤ n := (eTx_lt hE2 (by have z9 := t42.2.1; omega))
        refine And.intro (zA_138 hS) ⟨_, sn_E_fi.up (by decide), ?_⟩
        refine ⟨_, n, e, (exAt e 1 (p + 1)).2.1, (pz26o : Int), (v26o : Int), E.2.1, rfl, hS, hR, hD, (by first | exact hk | (clear hQ; grind [xu])), (zEt_fr hE (fun c j h => p26bbbbfr c j (by omega) (by omega))), hsc, p26bbh16, p26bbbh17, ((p26bbbbfr 138 3 (by omega) (by omega)).trans hV2), (by omega), (by omega), t42.2.2.1, p26bhv2, ?_⟩
        intro v47o pz47o I47o p47h16 p47bh17 p47bbhd p47bbbfr
        refine And.intro ⟨(by omega), (zRb rfl)⟩ ⟨fun h63 => ?_, fun h63 => ?_⟩
        · refine And.intro ⟨(by omega), (zRb rfl)⟩ ⟨(fun h71 => False.elim (by omega)), fun h71 => ?_⟩
          refine And.intro (zA_138 hS) (zrdR (v := some 140) (zR_138_2 hR) ?_)
          refine And.intro (zP_140 hS (by omega) (by omega)) (fun v80 e80 r80 => ?_)
          have f80 : v80 = E.2.2.1 (v47o).toNat := (e80.trans (hV3 _ (by omega)))
          refine Qw_l rfl (hQ _ (pz47o : Int) _ ?_ (by first | exact zn6_r _ | omega) ?_ p47bh17 (fun c j h0 h1 => ((p47bbbfr c j h0 h1).trans ((p26bbbbfr c j h0 h1).trans rfl))))
          · first
            | (rw [t3.2.2]; exact p8hO)
            | (rw [exAt_m (by omega), (exUn_1 (by rw [exAt_m (by omega)] at hg; exact hg)).2]
               exact zEo_m (evT_at t3) p26hO)
            | (rw [t42.2.2.2]
               first
               | (refine zEo_r (u := 2) (v := v26o) (z1 := pz26o) (evT_at t3) (Or.inl rfl) p26hO (fun _ => ?_) (by omega)
                  rw [evU_b (by omega)])
               | (refine zEo_r (u := 0) (v := v26o) (z1 := pz26o) (evT_at t3) (Or.inl rfl) p26hO (fun _ => ?_) (by omega)
                  rw [evU_a (by omega), f80]
                  exact congrArg (fun q => ((0 : Nat), E.2.2.1 q)) (by omega)))
            | (rw [exAt_q (by omega), (exUn_1 (by rw [exAt_q (by omega)] at hg; exact hg)).2]
               first
               | (refine zEo_r (u := 2) (v := v26o) (z1 := pz26o) (evT_at t3) (Or.inr rfl) p26hO (fun _ => ?_) (by omega)
                  rw [evU_d (by omega)])
               | (refine zEo_r (u := 0) (v := v26o) (z1 := pz26o) (evT_at t3) (Or.inr rfl) p26hO (fun _ => ?_) (by omega)
                  rw [evU_c (by omega), f90]
                  exact congrArg (fun q => ((0 : Nat), E.2.2.2.2 q)) (by omega)))
          · first
            | (rw [t3.2.2]; exact zxe.trans (by show _ = (((exEx e 1 (p + 1)).2.1 + 1 : Nat) : Int); omega))
            | (rw [exAt_m (by omega), (exUn_1 (by rw [exAt_m (by omega)] at hg; exact hg)).2]; exact p26bbh16)
            | (rw [t42.2.2.2]; exact p47h16.trans (by show _ = (((exAt e 1 (p + 1)).2.1 + 2 : Nat) : Int); omega))
            | (rw [exAt_q (by omega), (exUn_1 (by rw [exAt_q (by omega)] at hg; exact hg)).2]; exact (p55bbfr 138 16 (by omega)).trans p26bbh16)
        · refine Qw_l rfl (hQ _ (pz47o : Int) _ ?_ (by first | exact zn6_r _ | omega) ?_ p47bh17 (fun c j h0 h1 => ((p47bbbfr c j h0 h1).trans ((p26bbbbfr c j h0 h1).trans rfl))))
          · first
            | (rw [t3.2.2]; exact p8hO)
            | (rw [exAt_m (by omega), (exUn_1 (by rw [exAt_m (by omega)] at hg; exact hg)).2]
               exact zEo_m (evT_at t3) p26hO)
            | (rw [t42.2.2.2]
               first
               | (refine zEo_r (u := 2) (v := v26o) (z1 := pz26o) (evT_at t3) (Or.inl rfl) p26hO (fun _ => ?_) (by omega)
                  rw [evU_b (by omega)])
               | (refine zEo_r (u := 0) (v := v26o) (z1 := pz26o) (evT_at t3) (Or.inl rfl) p26hO (fun _ => ?_) (by omega)
                  rw [evU_a (by omega), f80]
                  exact congrArg (fun q => ((0 : Nat), E.2.2.1 q)) (by omega)))
            | (rw [exAt_q (by omega), (exUn_1 (by rw [exAt_q (by omega)] at hg; exact hg)).2]
               first
               | (refine zEo_r (u := 2) (v := v26o) (z1 := pz26o) (evT_at t3) (Or.inr rfl) p26hO (fun _ => ?_) (by omega)
                  rw [evU_d (by omega)])
               | (refine zEo_r (u := 0) (v := v26o) (z1 := pz26o) (evT_at t3) (Or.inr rfl) p26hO (fun _ => ?_) (by omega)
                  rw [evU_c (by omega), f90]
                  exact congrArg (fun q => ((0 : Nat), E.2.2.2.2 q)) (by omega)))
          · first
            | (rw [t3.2.2]; exact zxe.trans (by show _ = (((exEx e 1 (p + 1)).2.1 + 1 : Nat) : Int); omega))
            | (rw [exAt_m (by omega), (exUn_1 (by rw [exAt_m (by omega)] at hg; exact hg)).2]; exact p26bbh16)
            | (rw [t42.2.2.2]; exact p47h16.trans (by show _ = (((exAt e 1 (p + 1)).2.1 + 2 : Nat) : Int); omega))
            | (rw [exAt_q (by omega), (exUn_1 (by rw [exAt_q (by omega)] at hg; exact hg)).2]; exact (p55bbfr 138 16 (by omega)).trans p26bbh16)
    · refine Qw_l (zn6_of _).symm (hQ _ (pz26o : Int) _ ?_ (by first | exact zn6_r _ | omega) ?_ p26bbbh17 (fun c j h0 h1 => ((p26bbbbfr c j h0 h1).trans rfl)))
      · first
        | (rw [t3.2.2]; exact p8hO)
        | (rw [exAt_m (by omega), (exUn_1 (by rw [exAt_m (by omega)] at hg; exact hg)).2]
           exact zEo_m (evT_at t3) p26hO)
        | (rw [t42.2.2.2]
           first
           | (refine zEo_r (u := 2) (v := v26o) (z1 := pz26o) (evT_at t3) (Or.inl rfl) p26hO (fun _ => ?_) (by omega)
              rw [evU_b (by omega)])
           | (refine zEo_r (u := 0) (v := v26o) (z1 := pz26o) (evT_at t3) (Or.inl rfl) p26hO (fun _ => ?_) (by omega)
              rw [evU_a (by omega), f80]
              exact congrArg (fun q => ((0 : Nat), E.2.2.1 q)) (by omega)))
        | (rw [exAt_q (by omega), (exUn_1 (by rw [exAt_q (by omega)] at hg; exact hg)).2]
           first
           | (refine zEo_r (u := 2) (v := v26o) (z1 := pz26o) (evT_at t3) (Or.inr rfl) p26hO (fun _ => ?_) (by omega)
              rw [evU_d (by omega)])
           | (refine zEo_r (u := 0) (v := v26o) (z1 := pz26o) (evT_at t3) (Or.inr rfl) p26hO (fun _ => ?_) (by omega)
              rw [evU_c (by omega), f90]
              exact congrArg (fun q => ((0 : Nat), E.2.2.2.2 q)) (by omega)))
      · first
        | (rw [t3.2.2]; exact zxe.trans (by show _ = (((exEx e 1 (p + 1)).2.1 + 1 : Nat) : Int); omega))
        | (rw [exAt_m (by omega), (exUn_1 (by rw [exAt_m (by omega)] at hg; exact hg)).2]; exact p26bbh16)
        | (rw [t42.2.2.2]; exact p47h16.trans (by show _ = (((exAt e 1 (p + 1)).2.1 + 2 : Nat) : Int); omega))
        | (rw [exAt_q (by omega), (exUn_1 (by rw [exAt_q (by omega)] at hg; exact hg)).2]; exact (p55bbfr 138 16 (by omega)).trans p26bbh16)
  · have t3 : (exEx e 1 (p + 1)).1 = 1 ∧ e (exEx e 1 (p + 1)).2.1 = 41 ∧ (exAt e 2 p) = (1, (exEx e 1 (p + 1)).2.1 + 1, (exEx e 1 (p + 1)).2.2) := (by have z9 := exAt_p (c := e) (r := 1) (p := p) (by omega); rw [z9] at hg ⊢; exact exPa_1 hg)
    refine And.intro (zA_138 hS) ⟨_, sn_E_ex1.up (by decide), ?_⟩
    refine ⟨_, n, e, (p + 1), (z : Int), E, rfl, hS, hR, hD, (by first | exact hk | (clear hQ; grind [xu])), hE, hsc, h16, h17, hV, (by omega), t3.1, ?_⟩
    intro v8o pz8o I8o p8hO p8bhv2 p8bbh16 p8bbbh17 p8bbbbfr
    have g8 : (exEx e 1 (p + 1)).2.1 ≤ n := (by have z9 := exEx_ok hE2 (r := 1) hp; unfold exOk at z9; omega)
    refine And.intro (zA_138 hS) (zrd (v := (((exEx e 1 (p + 1)).2.1 : Nat))) p8bbh16 ?_)
    refine And.intro (zA_138 hS) ⟨_, (zWi (by omega)), ?_⟩
    refine Qw_l rfl (hQ _ (pz8o : Int) _ ?_ (by first | exact zn6_r _ | omega) ?_ p8bbbh17 (fun c j h0 h1 => (zxcj h0 ((p8bbbbfr c j h0 h1).trans rfl))))
    · first
      | (rw [t3.2.2]; exact p8hO)
      | (rw [exAt_m (by omega), (exUn_1 (by rw [exAt_m (by omega)] at hg; exact hg)).2]
         exact zEo_m (evT_at t3) p26hO)
      | (rw [t42.2.2.2]
         first
         | (refine zEo_r (u := 2) (v := v26o) (z1 := pz26o) (evT_at t3) (Or.inl rfl) p26hO (fun _ => ?_) (by omega)
            rw [evU_b (by omega)])
         | (refine zEo_r (u := 0) (v := v26o) (z1 := pz26o) (evT_at t3) (Or.inl rfl) p26hO (fun _ => ?_) (by omega)
            rw [evU_a (by omega), f80]
            exact congrArg (fun q => ((0 : Nat), E.2.2.1 q)) (by omega)))
      | (rw [exAt_q (by omega), (exUn_1 (by rw [exAt_q (by omega)] at hg; exact hg)).2]
         first
         | (refine zEo_r (u := 2) (v := v26o) (z1 := pz26o) (evT_at t3) (Or.inr rfl) p26hO (fun _ => ?_) (by omega)
            rw [evU_d (by omega)])
         | (refine zEo_r (u := 0) (v := v26o) (z1 := pz26o) (evT_at t3) (Or.inr rfl) p26hO (fun _ => ?_) (by omega)
            rw [evU_c (by omega), f90]
            exact congrArg (fun q => ((0 : Nat), E.2.2.2.2 q)) (by omega)))
    · first
      | (rw [t3.2.2]; exact zxe.trans (by show _ = (((exEx e 1 (p + 1)).2.1 + 1 : Nat) : Int); omega))
      | (rw [exAt_m (by omega), (exUn_1 (by rw [exAt_m (by omega)] at hg; exact hg)).2]; exact p26bbh16)
      | (rw [t42.2.2.2]; exact p47h16.trans (by show _ = (((exAt e 1 (p + 1)).2.1 + 2 : Nat) : Int); omega))
      | (rw [exAt_q (by omega), (exUn_1 (by rw [exAt_q (by omega)] at hg; exact hg)).2]; exact (p55bbfr 138 16 (by omega)).trans p26bbh16)))
