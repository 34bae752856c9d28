/-! te -/
def T_E_rs : ZT := fun args I L R S Q => ∃ (z : Int) (u : Int), args = [zvr 138, zvi u] ∧ (zSh S) ∧ (zRs R) ∧ (I 138 17 = z) ∧ (r32 u) ∧ ∀ (pz : Int) (I' : ZI), (I' 138 17 = pz) → ((z = 0 ∧ pz = u) ∨ (¬ z = 0 ∧ pz = z)) → (∀ c j : Nat, ¬ (c = 138 ∧ j = 17) → I' c j = I c j) → Q none I' L R S
theorem sn_E_rs : ZSnd 1 4 21 T_E_rs := ZSnd.of (zT4_21 0) (by
  rintro args I L R S Q hz ⟨z, u, rfl, hS, hR, h17, hu, hQ⟩
  have hzr : r32 z := by rw [← h17]; exact hz.1 138 17
  refine And.intro rfl ?_
  refine And.intro (zA_138 hS) (zrd (v := z) h17 ?_)
  refine And.intro (by omega) ⟨fun h4 => ?_, fun h4 => ?_⟩
  · refine hQ (z : Int) _ h17 (by omega) (fun c j h0 => rfl)
  · refine And.intro (zA_138 hS) ⟨_, (zWi (by omega)), ?_⟩
    refine hQ (u : Int) _ rfl (by omega) (fun c j h0 => (zxcj h0 rfl)))
def T_E_dig : ZT := fun args I L R S Q => ∃ (k : Nat) (n : Nat) (e : Nat → Int) (p : Nat), args = [zvr 138] ∧ (zSh S) ∧ (zRs R) ∧ (zDy zT8 zF8 k R S) ∧ (k = 130 ∨ k = 134) ∧ (zEt k n e I) ∧ (R 138 0 = some k) ∧ (I 138 16 = p) ∧ (p ≤ n) ∧ (48 ≤ e p ∧ e p ≤ 57) ∧ ∀ (v : Int) (I' : ZI), (v = dgV e (dgN e 4 p) p 0) → (0 ≤ v ∧ v ≤ 9999) → (I' 138 16 = p + (dgN e 4 p : Nat)) → (∀ c j : Nat, ¬ (c = 138 ∧ j = 16) → I' c j = I c j) → Q (some (zvl (v))) I' L R S
theorem sn_E_dig : ZSnd 2 4 7 T_E_dig := ZSnd.loops (zT4_7 1) (by
  rintro args I L R S Q hz ⟨k, n, e, p, rfl, hS, hR, hD, hk, hE, hsc, h16, hp, hdg, hQ⟩
  have hk130 : 130 ≤ k := by omega
  have hk134 : k ≤ 134 := by omega
  obtain ⟨hE1, hE2, hE3⟩ := id hE
  have hn4 := hE2.1
  have hdN := dgN_b hE2 (k := 4) hp
  refine ⟨[4], fun nM tM lsM stM I1 L1 R1 S1 => match tM with
      | 4 => ∃ (j : Nat) (vv : Int), nM = ((5 - j), 0, 0) ∧ lsM = [some (zvr (138)), some (zvl (vv)), none, some (zvi (j))] ∧ stM = [] ∧ L1 = L ∧ R1 = R ∧ S1 = S ∧ (j ≤ 4 ∧ j ≤ dgN e 4 p) ∧ (p + j ≤ n) ∧ (I1 138 16 = p + j) ∧ (0 ≤ vv ∧ ((j = 0 ∧ vv = 0) ∨ (j = 1 ∧ vv ≤ 9) ∨ (j = 2 ∧ vv ≤ 99) ∨ (j = 3 ∧ vv ≤ 999) ∨ (j = 4 ∧ vv ≤ 9999))) ∧ (dgV e (dgN e 4 p - j) (p + j) vv = dgV e (dgN e 4 p) p 0) ∧ (∀ c j : Nat, ¬ (c = 138 ∧ j = 16) → I1 c j = I c j)
      | _ => False, rfl, ?_, ⟨?_, True.intro⟩⟩
  · refine ⟨((5 - (0 : Nat)), 0, 0), [some (zvr (138)), some (zvl ((0 : Int))), none, some (zvi ((0 : Nat)))], ⟨rfl, rfl, rfl, rfl⟩, 0, 0, rfl, rfl, rfl, rfl, rfl, rfl, (by omega), (by omega), (Eq.trans (b := (p : Int)) h16 (by omega)), (by omega), rfl, (fun c j h0 => rfl)⟩
  · rintro nM lsM stM I1 L1 R1 S1 hz1 ⟨j, vv, rfl, rfl, rfl, rfl, rfl, rfl, hj, hjn, h161, hv9, hvv, fr⟩
    have hE_1 : zEt k n e I1 := zEt_fr hE (fun c j h => fr c j (by omega))
    have hb7 := hE2.2.2 (p + j)
    refine And.intro ⟨(by omega), (zRb rfl)⟩ ⟨fun h6 => ?_, fun h6 => ?_⟩
    · refine hQ _ _ ?_ (by omega) (h161.trans (by have e9 := dg_end (c := e) (p := p) (j := j) (by omega) hj.2 dgN_4; omega)) (fun c j h0 => ((fr c j h0).trans rfl))
      · have e9 := dg_end (c := e) (p := p) (j := j) (by omega) hj.2 dgN_4
        rw [← e9] at hvv ⊢
        rw [Nat.sub_self] at hvv
        exact hvv
    · refine And.intro (zA_138 hS) (zrdR (v := some k) hsc ?_)
      refine And.intro (zA_138 hS) (zrd (v := (p + j)) h161 ?_)
      refine And.intro (zDX hD 0 rfl) ⟨_, sn_S_let.up (by decide), ?_⟩
      refine ⟨_, n, e, ((p + j) : Int), (p + j), rfl, hS, hR, hD, (by first | exact hk | (clear hQ; grind [xu])), hE_1, (by omega), ?_⟩
      intro v17o p17hv p17bhv2
      have f17 : v17o = e (p + j) := p17hv
      refine Exists.intro _ (And.intro (zinl_ok (zT8_6 0)) (And.intro rfl ?_))
      refine And.intro ⟨(by omega), (zRb rfl)⟩ ⟨fun h3_20 => ?_, fun h3_20 => ?_⟩
      · refine And.intro (Or.inl rfl) ?_
        refine And.intro (zRb rfl) (zbt rfl ?_)
        refine hQ _ _ ?_ (by omega) (h161.trans (by have e9 := dg_end (c := e) (p := p) (j := j) (by omega) hj.2 dgN_4; omega)) (fun c j h0 => ((fr c j h0).trans rfl))
        · have e9 := dg_end (c := e) (p := p) (j := j) (by omega) hj.2 dgN_4
          rw [← e9] at hvv ⊢
          rw [Nat.sub_self] at hvv
          exact hvv
      · refine And.intro ⟨(by omega), (zRb rfl)⟩ ⟨fun h9_20 => ?_, fun h9_20 => ?_⟩
        · refine And.intro (Or.inl rfl) ?_
          refine And.intro (zRb rfl) (zbt rfl ?_)
          refine hQ _ _ ?_ (by omega) (h161.trans (by have e9 := dg_end (c := e) (p := p) (j := j) (by omega) hj.2 dgN_4; omega)) (fun c j h0 => ((fr c j h0).trans rfl))
          · have e9 := dg_end (c := e) (p := p) (j := j) (by omega) hj.2 dgN_4
            rw [← e9] at hvv ⊢
            rw [Nat.sub_self] at hvv
            exact hvv
        · refine And.intro (Or.inr rfl) ?_
          refine And.intro (zRb rfl) (zbf rfl ?_)
          refine And.intro (zA_138 hS) (zrdR (v := some k) hsc ?_)
          refine And.intro (zA_138 hS) (zrd (v := (p + j)) h161 ?_)
          refine And.intro (zDX hD 0 rfl) ⟨_, sn_S_let.up (by decide), ?_⟩
          refine ⟨_, n, e, ((p + j) : Int), (p + j), rfl, hS, hR, hD, (by first | exact hk | (clear hQ; grind [xu])), hE_1, (by omega), ?_⟩
          intro v39o p39hv p39bhv2
          refine And.intro (by omega) ?_
          refine And.intro (zA_138 hS) (zrd (v := (p + j)) h161 ?_)
          refine And.intro (zA_138 hS) ⟨_, (zWi (by omega)), ?_⟩
          refine ⟨((5 - (j + 1)), 0, 0), zlt6 (by omega), [some (zvr (138)), some (zvl ((((vv * 10) + v39o) - 48))), none, some (zvi ((j + 1)))], ⟨rfl, rfl, rfl, rfl⟩, (j + 1), (((vv * 10) + v39o) - 48), rfl, rfl, rfl, rfl, rfl, rfl, (by have z1 := dg_go (c := e) (p := p) (j := j) (by omega) (by omega) hj.2; omega), (eTx_lt hE2 (p := p + j) (by omega)), (zxe.trans (by omega)), (by omega), (by have z2 := dg_st (c := e) (by have z1 := dg_go (c := e) (p := p) (j := j) (by omega) (by omega) hj.2; omega) hvv; rw [← (show v39o = e (p + j) from p39hv)] at z2; rw [show vv * 10 + v39o - 48 = 10 * vv + v39o - 48 by omega]; exact z2), (fun c j h0 => (zxcj h0 ((fr c j h0).trans rfl)))⟩)
def T_E_div : ZT := fun args I L R S Q => ∃ (a : Int) (b : Int) (o : Int) (z : Int), args = [zvr 138, zvl a, zvl b, zvi o] ∧ (zSh S) ∧ (zRs R) ∧ (I 138 17 = z) ∧ (r64 a) ∧ (r64 b) ∧ (o = 0 ∨ o = 1) ∧ ∀ (v : Int) (pz : Int) (I' : ZI), (I' 138 17 = pz) → ((b = 0 ∧ ((z = 0 ∧ pz = 1) ∨ (¬ z = 0 ∧ pz = z))) ∨ (¬ b = 0 ∧ pz = z ∧ ((o = 1 ∧ v = zn6 (a.tdiv b)) ∨ (o = 0 ∧ v = a.tmod b)))) → (r64 v) → (∀ c j : Nat, ¬ (c = 138 ∧ j = 17) → I' c j = I c j) → Q (some (zvl (v))) I' L R S
theorem sn_E_div : ZSnd 2 4 8 T_E_div := ZSnd.w (ZSnd.of (zT4_8 1) (by
  rintro args I L R S Q' hz ⟨Q, rfl, a, b, o, z, rfl, hS, hR, h17, ha, hb, ho, hQ⟩
  refine And.intro rfl ?_
  refine ⟨_, _, ⟨zW6i (by omega), zW6i (zRL rfl)⟩, fun z2 c2 => ?_⟩
  refine And.intro c2.2.2 ⟨fun h3 => ?_, fun h3 => ?_⟩
  · have k3 : b ≠ 0 := by omega
    clear h3 c2
    refine And.intro (by omega) ⟨fun h15 => ?_, fun h15 => ?_⟩
    · refine ⟨_, _, ⟨(zW6i (by omega)), (zW6i (by omega)), (by omega)⟩, (fun q26 e26 e26' => ?_)⟩
      refine Qw_l rfl (hQ _ (z : Int) _ h17 ?_ (by first | omega | exact zn6_r _ | exact tmod_r ha e26) (fun c j h0 => rfl))
      · first
        | (refine Or.inl ⟨by omega, ?_⟩; omega)
        | (refine Or.inr ⟨by omega, by first | rfl | omega, ?_⟩
           first
           | exact Or.inl ⟨by omega, by rw [← e20]⟩
           | exact Or.inr ⟨by omega, e26⟩)
    · refine ⟨_, _, ⟨(zW6i (by omega)), (zW6i (by omega)), (by omega)⟩, (fun q20 e20 e20' => ?_)⟩
      refine Qw_l (zn6_of q20).symm (hQ _ (z : Int) _ h17 ?_ (by first | omega | exact zn6_r _ | exact tmod_r ha e26) (fun c j h0 => rfl))
      · first
        | (refine Or.inl ⟨by omega, ?_⟩; omega)
        | (refine Or.inr ⟨by omega, by first | rfl | omega, ?_⟩
           first
           | exact Or.inl ⟨by omega, by rw [← e20]⟩
           | exact Or.inr ⟨by omega, e26⟩)
  · have k3b : b = 0 := by omega
    clear h3 c2
    refine And.intro (zA_138 hS) ⟨_, sn_E_rs.up (by decide), ?_⟩
    refine ⟨(z : Int), (1 : Int), rfl, hS, hR, h17, (by omega), ?_⟩
    intro pz8o I8o p8h17 p8bhz p8bbfr
    refine Qw_l rfl (hQ _ (pz8o : Int) _ p8h17 ?_ (by first | omega | exact zn6_r _ | exact tmod_r ha e26) (fun c j h0 => ((p8bbfr c j h0).trans rfl)))
    · first
      | (refine Or.inl ⟨by omega, ?_⟩; omega)
      | (refine Or.inr ⟨by omega, by first | rfl | omega, ?_⟩
         first
         | exact Or.inl ⟨by omega, by rw [← e20]⟩
         | exact Or.inr ⟨by omega, e26⟩)))
def T_E_at0 : ZT := fun args I L R S Q => ∃ (k : Nat) (n : Nat) (e : Nat → Int) (p : Nat) (z : Int) (E : EvE), args = [zvr 138, zvi 3] ∧ (zSh S) ∧ (zRs R) ∧ (zDy zT8 zF8 k R S) ∧ (k = 130 ∨ k = 134) ∧ (zEt k n e I) ∧ (R 138 0 = some k) ∧ (I 138 16 = p) ∧ (I 138 17 = z) ∧ (zEv E I L) ∧ (p ≤ n) ∧ ((exAt e 0 p).1 = 1) ∧ ∀ (v : Int) (pz : Int) (I' : ZI), (zEo E (exAt e 0 p).2.2 z v pz) → (r64 v) → (I' 138 16 = ((exAt e 0 p).2.1 : Nat)) → (I' 138 17 = pz) → (∀ c j : Nat, ¬ (c = 138 ∧ j = 16) → ¬ (c = 138 ∧ j = 17) → I' c j = I c j) → Q (some (zvl (v))) I' L R S
theorem sn_E_at0 : ZSnd 5 4 4 T_E_at0 := ZSnd.of (zT4_4 4) (by
  rintro args I L R S Q hz ⟨k, n, e, p, z, E, rfl, hS, hR, hD, hk, hE, hsc, h16, h17, hV, hp, hg, hQ⟩
  have hk130 : 130 ≤ k := by omega
  have hk134 : k ≤ 134 := by omega
  obtain ⟨hE1, hE2, hE3⟩ := id hE
  have hn4 := hE2.1
  obtain ⟨hV1, ⟨hV2, hV2b⟩, hV3, ⟨hV4, hV4b⟩, hV5⟩ := id hV
  have hb9 := hE2.2.2 p
  refine And.intro rfl ?_
  refine And.intro (zA_138 hS) (zrdR (v := some k) hsc ?_)
  refine And.intro (zA_138 hS) (zrd (v := p) h16 ?_)
  refine And.intro (zDX hD 0 rfl) ⟨_, sn_S_let.up (by decide), ?_⟩
  refine ⟨_, n, e, (p : Int), p, rfl, hS, hR, hD, (by first | exact hk | (clear hQ; grind [xu])), (by first | exact (zEt_fr hE (fun c j h => rfl)) | (clear hQ; grind [xu])), (by omega), ?_⟩
  intro v8o p8hv p8bhv2
  refine Exists.intro _ (And.intro (zinl_ok (zT8_6 3)) (And.intro rfl ?_))
  refine And.intro ⟨(by omega), (zRb rfl)⟩ ⟨fun h3_13 => ?_, fun h3_13 => ?_⟩
  · refine And.intro (Or.inl rfl) ?_
    refine And.intro (zRb rfl) (zbt rfl ?_)
    refine And.intro (zA_138 hS) (zrd (v := p) h16 ?_)
    refine And.intro (zA_138 hS) ⟨_, (zWi (by omega)), ?_⟩
    refine Exists.intro _ (And.intro (zinl_ok (zT8_9 3)) (And.intro rfl ?_))
    refine And.intro ⟨(by omega), (zRb rfl)⟩ ⟨fun h3_35 => ?_, (fun h3_35 => False.elim (by omega))⟩
    refine And.intro (Or.inl rfl) ?_
    refine And.intro (zRb rfl) (zbt rfl ?_)
    refine And.intro ⟨(by omega), (zRb rfl)⟩ ⟨fun h54 => ?_, fun h54 => ?_⟩
    · exact False.elim (by have z9 := exAt_4 (r := 0) hg (by omega) (by omega) (by omega); omega)
    · refine And.intro (zA_138 hS) (zrd (v := (E.2.1)) hV2 ?_)
      refine And.intro (by omega) ?_
      refine hQ _ (z : Int) _ ?_ (by omega) ?_ h17 (fun c j h0 h1 => (zxcj h0 rfl))
      · first
        | exact p73hO
        | (rw [exAt_B (by omega), exB_d (by omega)]
           exact zEo_1 (Or.inl rfl) (p20hv.trans (if_pos rfl).symm))
        | (rw [exAt_B (by omega), exB_v (by omega), ← p8hv]
           exact zEo_1 (Or.inr (Or.inl rfl)) (f49.trans (by rw [if_neg (by decide), if_pos rfl])))
        | (rw [exAt_B (by omega), exB_h (by omega)]
           exact zEo_1 (Or.inr (Or.inr rfl)) (by rw [if_neg (by decide), if_neg (by decide)]))
      · first
        | exact p73bbh16
        | (rw [exAt_B (by omega), exB_d (by omega)]
           exact p20bbh16.trans (show _ = ((p + dgN e 4 p : Nat) : Int) from by omega))
        | (rw [exAt_B (by omega), exB_v (by omega)]
           exact zxe.trans (show _ = ((p + 1 : Nat) : Int) from by omega))
        | (rw [exAt_B (by omega), exB_h (by omega)]
           exact zxe.trans (show _ = ((p + 1 : Nat) : Int) from by omega))
  · refine And.intro ⟨(by omega), (zRb rfl)⟩ ⟨fun h9_13 => ?_, fun h9_13 => ?_⟩
    · refine And.intro (Or.inl rfl) ?_
      refine And.intro (zRb rfl) (zbt rfl ?_)
      refine And.intro (zA_138 hS) (zrd (v := p) h16 ?_)
      refine And.intro (zA_138 hS) ⟨_, (zWi (by omega)), ?_⟩
      refine Exists.intro _ (And.intro (zinl_ok (zT8_9 3)) (And.intro rfl ?_))
      refine And.intro ⟨(by omega), (zRb rfl)⟩ ⟨fun h3_35 => ?_, fun h3_35 => ?_⟩
      · refine And.intro (Or.inl rfl) ?_
        refine And.intro (zRb rfl) (zbt rfl ?_)
        refine And.intro ⟨(by omega), (zRb rfl)⟩ ⟨fun h54 => ?_, (fun h54 => False.elim (by omega))⟩
        exact False.elim (by have z9 := exAt_4 (r := 0) hg (by omega) (by omega) (by omega); omega)
      · refine And.intro ⟨(by omega), (zRb rfl)⟩ ⟨fun h9_35 => ?_, fun h9_35 => ?_⟩
        · refine And.intro (Or.inl rfl) ?_
          refine And.intro (zRb rfl) (zbt rfl ?_)
          refine And.intro ⟨(by omega), (zRb rfl)⟩ ⟨fun h54 => ?_, (fun h54 => False.elim (by omega))⟩
          exact False.elim (by have z9 := exAt_4 (r := 0) hg (by omega) (by omega) (by omega); omega)
        · refine And.intro (Or.inr rfl) ?_
          refine And.intro (zRb rfl) (zbf rfl ?_)
          refine And.intro (zA_138 hS) (zrdR (v := some 139) (zR_138_1 hR) ?_)
          refine And.intro (zP_139 hS (by omega) (by omega)) (fun v49 e49 r49 => ?_)
          have f49 : v49 = E.1 (v8o - 97).toNat := (e49.trans ((congrArg (L 139) (show _ = (v8o - 97).toNat by omega)).trans (hV1 (v8o - 97).toNat (by omega))))
          refine hQ _ (z : Int) _ ?_ (by omega) ?_ h17 (fun c j h0 h1 => (zxcj h0 rfl))
          · first
            | exact p73hO
            | (rw [exAt_B (by omega), exB_d (by omega)]
               exact zEo_1 (Or.inl rfl) (p20hv.trans (if_pos rfl).symm))
            | (rw [exAt_B (by omega), exB_v (by omega), ← p8hv]
               exact zEo_1 (Or.inr (Or.inl rfl)) (f49.trans (by rw [if_neg (by decide), if_pos rfl])))
            | (rw [exAt_B (by omega), exB_h (by omega)]
               exact zEo_1 (Or.inr (Or.inr rfl)) (by rw [if_neg (by decide), if_neg (by decide)]))
          · first
            | exact p73bbh16
            | (rw [exAt_B (by omega), exB_d (by omega)]
               exact p20bbh16.trans (show _ = ((p + dgN e 4 p : Nat) : Int) from by omega))
            | (rw [exAt_B (by omega), exB_v (by omega)]
               exact zxe.trans (show _ = ((p + 1 : Nat) : Int) from by omega))
            | (rw [exAt_B (by omega), exB_h (by omega)]
               exact zxe.trans (show _ = ((p + 1 : Nat) : Int) from by omega))
    · refine And.intro (Or.inr rfl) ?_
      refine And.intro (zRb rfl) (zbf rfl ?_)
      refine And.intro (zA_138 hS) ⟨_, sn_E_dig.up (by decide), ?_⟩
      refine ⟨_, n, e, p, rfl, hS, hR, hD, (by first | exact hk | (clear hQ; grind [xu])), hE, hsc, h16, (by omega), (by omega), ?_⟩
      intro v20o I20o p20hv p20bhv2 p20bbh16 p20bbbfr
      refine hQ _ (z : Int) _ ?_ (by omega) ?_ ((p20bbbfr 138 17 (by omega)).trans h17) (fun c j h0 h1 => ((p20bbbfr c j h0).trans rfl))
      · first
        | exact p73hO
        | (rw [exAt_B (by omega), exB_d (by omega)]
           exact zEo_1 (Or.inl rfl) (p20hv.trans (if_pos rfl).symm))
        | (rw [exAt_B (by omega), exB_v (by omega), ← p8hv]
           exact zEo_1 (Or.inr (Or.inl rfl)) (f49.trans (by rw [if_neg (by decide), if_pos rfl])))
        | (rw [exAt_B (by omega), exB_h (by omega)]
           exact zEo_1 (Or.inr (Or.inr rfl)) (by rw [if_neg (by decide), if_neg (by decide)]))
      · first
        | exact p73bbh16
        | (rw [exAt_B (by omega), exB_d (by omega)]
           exact p20bbh16.trans (show _ = ((p + dgN e 4 p : Nat) : Int) from by omega))
        | (rw [exAt_B (by omega), exB_v (by omega)]
           exact zxe.trans (show _ = ((p + 1 : Nat) : Int) from by omega))
        | (rw [exAt_B (by omega), exB_h (by omega)]
           exact zxe.trans (show _ = ((p + 1 : Nat) : Int) from by omega)))
