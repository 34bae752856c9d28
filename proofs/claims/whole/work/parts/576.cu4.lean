/-! cu4 -/
def T_U_end : ZT := fun args I L R S Q => ∃ (k : Nat) (w : List CuR) (a : Int) (i : Nat) (d : Int) (e : Nat), args = [zvr k, zvi a, zvi d] ∧ (zSh S) ∧ (zRs R) ∧ (zSt I L) ∧ (zDy zT1 zF1 k R S) ∧ (k = 106 ∨ k = 118) ∧ (zUw k w I) ∧ (w.length ≤ 60) ∧ (cuG w) ∧ (a = i ∧ i < w.length) ∧ (d = e ∧ e ≤ 1) ∧ ∀ (u : Int), ((u = 1 ∧ zex (fun s => s < w.length ∧ cuEn w i e s)) ∨ (u = 0 ∧ ¬ zex (fun s => s < w.length ∧ cuEn w i e s))) → Q (some (zvi (u))) I L R S
theorem sn_U_end : ZSnd 4 1 15 T_U_end := ZSnd.loops (zT1_15 3) (by
  rintro args I L R S Q hz ⟨k, w, a, i, d, e, rfl, hS, hR, hT, hD, hk, hW, hl, hG, hi, he, hQ⟩
  have hk106 : 106 ≤ k := by omega
  have hk118 : k ≤ 118 := by omega
  have hT1 := zUw_T hW hl
  have hN := hT1.2.1
  refine ⟨[23], fun nM tM lsM stM I1 L1 R1 S1 => match tM with
      | 23 => ∃ (u : Int) (m : Nat), nM = ((61 - m), 0, 0) ∧ lsM = [some (zvr (k)), some (zvi (a)), some (zvi (d)), some (zvi (cuE w i 1 e)), some (zvi (cuE w i 0 e)), some (zvi (u)), some (zvi (m)), none, none, none, none, none, none, none] ∧ stM = [] ∧ I1 = I ∧ L1 = L ∧ R1 = R ∧ S1 = S ∧ (m ≤ w.length) ∧ (u = 0 ∨ u = 1) ∧ (u = 1 → zex (fun s => s < w.length ∧ cuEn w i e s)) ∧ (u = 0 → ∀ s : Nat, s < m → ¬ cuEn w i e s)
      | _ => False, rfl, ?_, ⟨?_, True.intro⟩⟩
  · refine And.intro (zDX hD 0 rfl) ⟨_, sn_U_edg.up (by decide), ?_⟩
    refine ⟨_, w, (a : Int), i, (1 : Int), 1, (d : Int), e, rfl, hS, hR, hD, (by first | exact hk | (clear hQ; grind [xu])), (by first | exact (zUw_fr hW (fun c j h => rfl)) | (clear hQ; grind [xu])), (by omega), (by first | exact hG | (clear hQ; grind [xu])), (by omega), (by omega), (by omega), ?_⟩
    intro v4o p4hv p4bhv2
    refine And.intro (zDX hD 0 rfl) ⟨_, sn_U_edg.up (by decide), ?_⟩
    refine ⟨_, w, (a : Int), i, (0 : Int), 0, (d : Int), e, rfl, hS, hR, hD, (by first | exact hk | (clear hQ; grind [xu])), (by first | exact (zUw_fr hW (fun c j h => rfl)) | (clear hQ; grind [xu])), (by omega), (by first | exact hG | (clear hQ; grind [xu])), (by omega), (by omega), (by omega), ?_⟩
    intro v12o p12hv p12bhv2
    refine ⟨((61 - (0 : Nat)), 0, 0), [some (zvr (k)), some (zvi (a)), some (zvi (d)), some (zvi (cuE w i 1 e)), some (zvi (cuE w i 0 e)), some (zvi ((0 : Int))), some (zvi ((0 : Nat))), none, none, none, none, none, none, none], ⟨rfl, rfl, rfl, (congrArg (fun z => some (zvi z)) (by rw [p4hv])), (congrArg (fun z => some (zvi z)) (by rw [p12hv])), rfl, rfl, rfl⟩, 0, 0, rfl, rfl, rfl, rfl, rfl, rfl, rfl, (by omega), (Or.inl rfl), (fun h => absurd h (by decide)), (fun _ s h => absurd h (Nat.not_lt_zero s))⟩
  · rintro nM lsM stM I1 L1 R1 S1 hz1 ⟨u, m, rfl, rfl, rfl, rfl, rfl, rfl, rfl, hm, hu0, hu1, hu2⟩
    have hb1 := cuE_b (ax := 1) (e := e) hG hi.2
    have hb0 := cuE_b (ax := 0) (e := e) hG hi.2
    refine And.intro (zDX hD 0 rfl) (zrdR (v := some (k + 1)) (zDR hD 0 rfl) ?_)
    refine And.intro (zDX hD 1 rfl) (zrd (v := (w.length)) hN ?_)
    refine And.intro ⟨(by omega), (by omega)⟩ ⟨fun h32 => ?_, fun h32 => ?_⟩
    · refine And.intro (by omega) ?_
      refine hQ _ ?_
      · rcases hu0 with e | e
        · exact Or.inr ⟨e, fun q => by obtain ⟨s, q1, q2⟩ := q; exact hu2 e s (by omega) q2⟩
        · exact Or.inl ⟨e, hu1 e⟩
    · have t32 : m + 1 ≤ w.length := (by omega)
      refine And.intro (by omega) ⟨fun h37 => ?_, fun h37 => ?_⟩
      · refine And.intro (by omega) ?_
        refine hQ _ ?_
        · rcases hu0 with e | e
          · exact Or.inr ⟨e, fun q => by obtain ⟨s, q1, q2⟩ := q; exact hu2 e s (by omega) q2⟩
          · exact Or.inl ⟨e, hu1 e⟩
      · refine And.intro ⟨(by omega), (by omega)⟩ ⟨fun h43 => ?_, fun h43 => ?_⟩
        · refine And.intro (zDX hD 0 rfl) ⟨_, sn_U_edg.up (by decide), ?_⟩
          refine ⟨_, w, (m : Int), m, (1 : Int), 1, (0 : Int), 0, rfl, hS, hR, hD, (by first | exact hk | (clear hQ; grind [xu])), (by first | exact (zUw_fr hW (fun c j h => rfl)) | (clear hQ; grind [xu])), (by omega), (by first | exact hG | (clear hQ; grind [xu])), (by omega), (by omega), (by omega), ?_⟩
          intro v97o p97hv p97bhv2
          refine And.intro (zDX hD 0 rfl) ⟨_, sn_U_edg.up (by decide), ?_⟩
          refine ⟨_, w, (m : Int), m, (1 : Int), 1, (1 : Int), 1, rfl, hS, hR, hD, (by first | exact hk | (clear hQ; grind [xu])), (by first | exact (zUw_fr hW (fun c j h => rfl)) | (clear hQ; grind [xu])), (by omega), (by first | exact hG | (clear hQ; grind [xu])), (by omega), (by omega), (by omega), ?_⟩
          intro v105o p105hv p105bhv2
          refine ⟨_, sn_U_gap.up (by decide), ?_⟩
          refine ⟨((cuE w i 1 e) : Int), ((cuE w i 1 e) : Int), (v97o : Int), (v105o : Int), (0 : Int), rfl, (by omega), ?_⟩
          intro v109o p109hv p109bhv2
          have g109 : v109o = cuPg w i e m 1 := (by rw [p109hv, p97hv, p105hv]; rfl)
          refine And.intro (zDX hD 0 rfl) ⟨_, sn_U_edg.up (by decide), ?_⟩
          refine ⟨_, w, (m : Int), m, (0 : Int), 0, (0 : Int), 0, rfl, hS, hR, hD, (by first | exact hk | (clear hQ; grind [xu])), (by first | exact (zUw_fr hW (fun c j h => rfl)) | (clear hQ; grind [xu])), (by omega), (by first | exact hG | (clear hQ; grind [xu])), (by omega), (by omega), (by omega), ?_⟩
          intro v123o p123hv p123bhv2
          refine And.intro (zDX hD 0 rfl) ⟨_, sn_U_edg.up (by decide), ?_⟩
          refine ⟨_, w, (m : Int), m, (0 : Int), 0, (1 : Int), 1, rfl, hS, hR, hD, (by first | exact hk | (clear hQ; grind [xu])), (by first | exact (zUw_fr hW (fun c j h => rfl)) | (clear hQ; grind [xu])), (by omega), (by first | exact hG | (clear hQ; grind [xu])), (by omega), (by omega), (by omega), ?_⟩
          intro v131o p131hv p131bhv2
          refine ⟨_, sn_U_gap.up (by decide), ?_⟩
          refine ⟨((cuE w i 0 e) : Int), ((cuE w i 0 e) : Int), (v123o : Int), (v131o : Int), (0 : Int), rfl, (by omega), ?_⟩
          intro v135o p135hv p135bhv2
          have g135 : v135o = cuPg w i e m 0 := (by rw [p135hv, p123hv, p131hv]; rfl)
          refine And.intro (zDX hD 0 rfl) ⟨_, sn_U_rad.up (by decide), ?_⟩
          refine ⟨_, w, (m : Int), m, rfl, hS, hR, (zStf hT (fun c j h1 h2 => ⟨rfl, rfl⟩)), hD, (by first | exact hk | (clear hQ; grind [xu])), (by first | exact (zUw_fr hW (fun c j h => rfl)) | (clear hQ; grind [xu])), (by omega), (by first | exact hG | (clear hQ; grind [xu])), (by omega), ?_⟩
          intro v143o p143hv p143bhv2
          refine And.intro (by omega) ?_
          refine And.intro (zRb rfl) (zbt rfl ?_)
          refine ⟨((61 - (m + 1)), 0, 0), zlt6 (by omega), [some (zvr (k)), some (zvi (a)), some (zvi (d)), some (zvi (cuE w i 1 e)), some (zvi (cuE w i 0 e)), some (zvi ((0 : Int))), some (zvi ((m + 1))), none, none, none, none, none, none, none], ⟨rfl, rfl, rfl, rfl, rfl, rfl, rfl, rfl⟩, 0, (m + 1), rfl, rfl, rfl, rfl, rfl, rfl, rfl, (by omega), (by first | exact Or.inl rfl | exact Or.inr rfl), (fun h => by first | exact absurd h (by decide) | exact Exists.intro m ⟨by omega, by unfold cuEn; rw [← g109, ← g135, ← p143hv]; exact ⟨⟨by omega, by omega, by omega, by omega⟩, by omega⟩⟩), ?_⟩
          · intro h s hs
            first
            | exact absurd h (by decide)
            | (by_cases e : s = m
               · subst e
                 intro q
                 unfold cuEn at q
                 have q2 := q.2
                 rw [← g109, ← g135, ← p143hv] at q2
                 have q1 := q.1
                 omega
               · exact hu2 (by omega) s (by omega))
        · refine And.intro (zDX hD 0 rfl) ⟨_, sn_U_cop.up (by decide), ?_⟩
          refine ⟨_, w, (m : Int), m, rfl, hS, hR, hD, (by first | exact hk | (clear hQ; grind [xu])), (by first | exact (zUw_fr hW (fun c j h => rfl)) | (clear hQ; grind [xu])), (by omega), (by first | exact hG | (clear hQ; grind [xu])), (by omega), ?_⟩
          intro v49o p49hv
          refine And.intro (by omega) ⟨fun h52 => ?_, fun h52 => ?_⟩
          · refine And.intro (zDX hD 0 rfl) ⟨_, sn_U_edg.up (by decide), ?_⟩
            refine ⟨_, w, (m : Int), m, (1 : Int), 1, (0 : Int), 0, rfl, hS, hR, hD, (by first | exact hk | (clear hQ; grind [xu])), (by first | exact (zUw_fr hW (fun c j h => rfl)) | (clear hQ; grind [xu])), (by omega), (by first | exact hG | (clear hQ; grind [xu])), (by omega), (by omega), (by omega), ?_⟩
            intro v97o p97hv p97bhv2
            refine And.intro (zDX hD 0 rfl) ⟨_, sn_U_edg.up (by decide), ?_⟩
            refine ⟨_, w, (m : Int), m, (1 : Int), 1, (1 : Int), 1, rfl, hS, hR, hD, (by first | exact hk | (clear hQ; grind [xu])), (by first | exact (zUw_fr hW (fun c j h => rfl)) | (clear hQ; grind [xu])), (by omega), (by first | exact hG | (clear hQ; grind [xu])), (by omega), (by omega), (by omega), ?_⟩
            intro v105o p105hv p105bhv2
            refine ⟨_, sn_U_gap.up (by decide), ?_⟩
            refine ⟨((cuE w i 1 e) : Int), ((cuE w i 1 e) : Int), (v97o : Int), (v105o : Int), (0 : Int), rfl, (by omega), ?_⟩
            intro v109o p109hv p109bhv2
            have g109 : v109o = cuPg w i e m 1 := (by rw [p109hv, p97hv, p105hv]; rfl)
            refine And.intro (zDX hD 0 rfl) ⟨_, sn_U_edg.up (by decide), ?_⟩
            refine ⟨_, w, (m : Int), m, (0 : Int), 0, (0 : Int), 0, rfl, hS, hR, hD, (by first | exact hk | (clear hQ; grind [xu])), (by first | exact (zUw_fr hW (fun c j h => rfl)) | (clear hQ; grind [xu])), (by omega), (by first | exact hG | (clear hQ; grind [xu])), (by omega), (by omega), (by omega), ?_⟩
            intro v123o p123hv p123bhv2
            refine And.intro (zDX hD 0 rfl) ⟨_, sn_U_edg.up (by decide), ?_⟩
            refine ⟨_, w, (m : Int), m, (0 : Int), 0, (1 : Int), 1, rfl, hS, hR, hD, (by first | exact hk | (clear hQ; grind [xu])), (by first | exact (zUw_fr hW (fun c j h => rfl)) | (clear hQ; grind [xu])), (by omega), (by first | exact hG | (clear hQ; grind [xu])), (by omega), (by omega), (by omega), ?_⟩
            intro v131o p131hv p131bhv2
            refine ⟨_, sn_U_gap.up (by decide), ?_⟩
            refine ⟨((cuE w i 0 e) : Int), ((cuE w i 0 e) : Int), (v123o : Int), (v131o : Int), (0 : Int), rfl, (by omega), ?_⟩
            intro v135o p135hv p135bhv2
            have g135 : v135o = cuPg w i e m 0 := (by rw [p135hv, p123hv, p131hv]; rfl)
            refine And.intro (zDX hD 0 rfl) ⟨_, sn_U_rad.up (by decide), ?_⟩
            refine ⟨_, w, (m : Int), m, rfl, hS, hR, (zStf hT (fun c j h1 h2 => ⟨rfl, rfl⟩)), hD, (by first | exact hk | (clear hQ; grind [xu])), (by first | exact (zUw_fr hW (fun c j h => rfl)) | (clear hQ; grind [xu])), (by omega), (by first | exact hG | (clear hQ; grind [xu])), (by omega), ?_⟩
            intro v143o p143hv p143bhv2
            refine And.intro (by omega) ?_
            refine And.intro (zRb rfl) (zbt rfl ?_)
            refine ⟨((61 - (m + 1)), 0, 0), zlt6 (by omega), [some (zvr (k)), some (zvi (a)), some (zvi (d)), some (zvi (cuE w i 1 e)), some (zvi (cuE w i 0 e)), some (zvi ((0 : Int))), some (zvi ((m + 1))), none, none, none, none, none, none, none], ⟨rfl, rfl, rfl, rfl, rfl, rfl, rfl, rfl⟩, 0, (m + 1), rfl, rfl, rfl, rfl, rfl, rfl, rfl, (by omega), (by first | exact Or.inl rfl | exact Or.inr rfl), (fun h => by first | exact absurd h (by decide) | exact Exists.intro m ⟨by omega, by unfold cuEn; rw [← g109, ← g135, ← p143hv]; exact ⟨⟨by omega, by omega, by omega, by omega⟩, by omega⟩⟩), ?_⟩
            · intro h s hs
              first
              | exact absurd h (by decide)
              | (by_cases e : s = m
                 · subst e
                   intro q
                   unfold cuEn at q
                   have q2 := q.2
                   rw [← g109, ← g135, ← p143hv] at q2
                   have q1 := q.1
                   omega
                 · exact hu2 (by omega) s (by omega))
          · refine And.intro (zDX hD 0 rfl) ⟨_, sn_U_nos.up (by decide), ?_⟩
            refine ⟨_, w, (m : Int), m, rfl, hS, hR, hD, (by first | exact hk | (clear hQ; grind [xu])), (by first | exact (zUw_fr hW (fun c j h => rfl)) | (clear hQ; grind [xu])), (by omega), (by first | exact hG | (clear hQ; grind [xu])), (by omega), ?_⟩
            intro v58o p58hv p58bhv2
            refine And.intro (zDX hD 0 rfl) ⟨_, sn_U_nos.up (by decide), ?_⟩
            refine ⟨_, w, (a : Int), i, rfl, hS, hR, hD, (by first | exact hk | (clear hQ; grind [xu])), (by first | exact (zUw_fr hW (fun c j h => rfl)) | (clear hQ; grind [xu])), (by omega), (by first | exact hG | (clear hQ; grind [xu])), (by omega), ?_⟩
            intro v63o p63hv p63bhv2
            refine And.intro ⟨(by omega), (by omega)⟩ ⟨fun h66 => ?_, fun h66 => ?_⟩
            · refine And.intro (zDX hD 0 rfl) ⟨_, sn_U_edg.up (by decide), ?_⟩
              refine ⟨_, w, (m : Int), m, (1 : Int), 1, (0 : Int), 0, rfl, hS, hR, hD, (by first | exact hk | (clear hQ; grind [xu])), (by first | exact (zUw_fr hW (fun c j h => rfl)) | (clear hQ; grind [xu])), (by omega), (by first | exact hG | (clear hQ; grind [xu])), (by omega), (by omega), (by omega), ?_⟩
              intro v97o p97hv p97bhv2
              refine And.intro (zDX hD 0 rfl) ⟨_, sn_U_edg.up (by decide), ?_⟩
              refine ⟨_, w, (m : Int), m, (1 : Int), 1, (1 : Int), 1, rfl, hS, hR, hD, (by first | exact hk | (clear hQ; grind [xu])), (by first | exact (zUw_fr hW (fun c j h => rfl)) | (clear hQ; grind [xu])), (by omega), (by first | exact hG | (clear hQ; grind [xu])), (by omega), (by omega), (by omega), ?_⟩
              intro v105o p105hv p105bhv2
              refine ⟨_, sn_U_gap.up (by decide), ?_⟩
              refine ⟨((cuE w i 1 e) : Int), ((cuE w i 1 e) : Int), (v97o : Int), (v105o : Int), (0 : Int), rfl, (by omega), ?_⟩
              intro v109o p109hv p109bhv2
              have g109 : v109o = cuPg w i e m 1 := (by rw [p109hv, p97hv, p105hv]; rfl)
              refine And.intro (zDX hD 0 rfl) ⟨_, sn_U_edg.up (by decide), ?_⟩
              refine ⟨_, w, (m : Int), m, (0 : Int), 0, (0 : Int), 0, rfl, hS, hR, hD, (by first | exact hk | (clear hQ; grind [xu])), (by first | exact (zUw_fr hW (fun c j h => rfl)) | (clear hQ; grind [xu])), (by omega), (by first | exact hG | (clear hQ; grind [xu])), (by omega), (by omega), (by omega), ?_⟩
              intro v123o p123hv p123bhv2
              refine And.intro (zDX hD 0 rfl) ⟨_, sn_U_edg.up (by decide), ?_⟩
              refine ⟨_, w, (m : Int), m, (0 : Int), 0, (1 : Int), 1, rfl, hS, hR, hD, (by first | exact hk | (clear hQ; grind [xu])), (by first | exact (zUw_fr hW (fun c j h => rfl)) | (clear hQ; grind [xu])), (by omega), (by first | exact hG | (clear hQ; grind [xu])), (by omega), (by omega), (by omega), ?_⟩
              intro v131o p131hv p131bhv2
              refine ⟨_, sn_U_gap.up (by decide), ?_⟩
              refine ⟨((cuE w i 0 e) : Int), ((cuE w i 0 e) : Int), (v123o : Int), (v131o : Int), (0 : Int), rfl, (by omega), ?_⟩
              intro v135o p135hv p135bhv2
              have g135 : v135o = cuPg w i e m 0 := (by rw [p135hv, p123hv, p131hv]; rfl)
              refine And.intro (zDX hD 0 rfl) ⟨_, sn_U_rad.up (by decide), ?_⟩
              refine ⟨_, w, (m : Int), m, rfl, hS, hR, (zStf hT (fun c j h1 h2 => ⟨rfl, rfl⟩)), hD, (by first | exact hk | (clear hQ; grind [xu])), (by first | exact (zUw_fr hW (fun c j h => rfl)) | (clear hQ; grind [xu])), (by omega), (by first | exact hG | (clear hQ; grind [xu])), (by omega), ?_⟩
              intro v143o p143hv p143bhv2
              refine And.intro (by omega) ?_
              refine And.intro (zRb rfl) (zbt rfl ?_)
              refine ⟨((61 - (m + 1)), 0, 0), zlt6 (by omega), [some (zvr (k)), some (zvi (a)), some (zvi (d)), some (zvi (cuE w i 1 e)), some (zvi (cuE w i 0 e)), some (zvi ((0 : Int))), some (zvi ((m + 1))), none, none, none, none, none, none, none], ⟨rfl, rfl, rfl, rfl, rfl, rfl, rfl, rfl⟩, 0, (m + 1), rfl, rfl, rfl, rfl, rfl, rfl, rfl, (by omega), (by first | exact Or.inl rfl | exact Or.inr rfl), (fun h => by first | exact absurd h (by decide) | exact Exists.intro m ⟨by omega, by unfold cuEn; rw [← g109, ← g135, ← p143hv]; exact ⟨⟨by omega, by omega, by omega, by omega⟩, by omega⟩⟩), ?_⟩
              · intro h s hs
                first
                | exact absurd h (by decide)
                | (by_cases e : s = m
                   · subst e
                     intro q
                     unfold cuEn at q
                     have q2 := q.2
                     rw [← g109, ← g135, ← p143hv] at q2
                     have q1 := q.1
                     omega
                   · exact hu2 (by omega) s (by omega))
            · refine And.intro (zDX hD 0 rfl) ⟨_, sn_U_los.up (by decide), ?_⟩
              refine ⟨_, w, (m : Int), m, rfl, hS, hR, hD, (by first | exact hk | (clear hQ; grind [xu])), (by first | exact (zUw_fr hW (fun c j h => rfl)) | (clear hQ; grind [xu])), (by omega), (by first | exact hG | (clear hQ; grind [xu])), (by omega), ?_⟩
              intro v72o p72hv p72bhv2
              refine And.intro (zDX hD 0 rfl) ⟨_, sn_U_los.up (by decide), ?_⟩
              refine ⟨_, w, (a : Int), i, rfl, hS, hR, hD, (by first | exact hk | (clear hQ; grind [xu])), (by first | exact (zUw_fr hW (fun c j h => rfl)) | (clear hQ; grind [xu])), (by omega), (by first | exact hG | (clear hQ; grind [xu])), (by omega), ?_⟩
              intro v77o p77hv p77bhv2
              refine And.intro ⟨(by omega), (by omega)⟩ ⟨fun h80 => ?_, fun h80 => ?_⟩
              · refine And.intro (zDX hD 0 rfl) ⟨_, sn_U_edg.up (by decide), ?_⟩
                refine ⟨_, w, (m : Int), m, (1 : Int), 1, (0 : Int), 0, rfl, hS, hR, hD, (by first | exact hk | (clear hQ; grind [xu])), (by first | exact (zUw_fr hW (fun c j h => rfl)) | (clear hQ; grind [xu])), (by omega), (by first | exact hG | (clear hQ; grind [xu])), (by omega), (by omega), (by omega), ?_⟩
                intro v97o p97hv p97bhv2
                refine And.intro (zDX hD 0 rfl) ⟨_, sn_U_edg.up (by decide), ?_⟩
                refine ⟨_, w, (m : Int), m, (1 : Int), 1, (1 : Int), 1, rfl, hS, hR, hD, (by first | exact hk | (clear hQ; grind [xu])), (by first | exact (zUw_fr hW (fun c j h => rfl)) | (clear hQ; grind [xu])), (by omega), (by first | exact hG | (clear hQ; grind [xu])), (by omega), (by omega), (by omega), ?_⟩
                intro v105o p105hv p105bhv2
                refine ⟨_, sn_U_gap.up (by decide), ?_⟩
                refine ⟨((cuE w i 1 e) : Int), ((cuE w i 1 e) : Int), (v97o : Int), (v105o : Int), (0 : Int), rfl, (by omega), ?_⟩
                intro v109o p109hv p109bhv2
                have g109 : v109o = cuPg w i e m 1 := (by rw [p109hv, p97hv, p105hv]; rfl)
                refine And.intro (zDX hD 0 rfl) ⟨_, sn_U_edg.up (by decide), ?_⟩
                refine ⟨_, w, (m : Int), m, (0 : Int), 0, (0 : Int), 0, rfl, hS, hR, hD, (by first | exact hk | (clear hQ; grind [xu])), (by first | exact (zUw_fr hW (fun c j h => rfl)) | (clear hQ; grind [xu])), (by omega), (by first | exact hG | (clear hQ; grind [xu])), (by omega), (by omega), (by omega), ?_⟩
                intro v123o p123hv p123bhv2
                refine And.intro (zDX hD 0 rfl) ⟨_, sn_U_edg.up (by decide), ?_⟩
                refine ⟨_, w, (m : Int), m, (0 : Int), 0, (1 : Int), 1, rfl, hS, hR, hD, (by first | exact hk | (clear hQ; grind [xu])), (by first | exact (zUw_fr hW (fun c j h => rfl)) | (clear hQ; grind [xu])), (by omega), (by first | exact hG | (clear hQ; grind [xu])), (by omega), (by omega), (by omega), ?_⟩
                intro v131o p131hv p131bhv2
                refine ⟨_, sn_U_gap.up (by decide), ?_⟩
                refine ⟨((cuE w i 0 e) : Int), ((cuE w i 0 e) : Int), (v123o : Int), (v131o : Int), (0 : Int), rfl, (by omega), ?_⟩
                intro v135o p135hv p135bhv2
                have g135 : v135o = cuPg w i e m 0 := (by rw [p135hv, p123hv, p131hv]; rfl)
                refine And.intro (zDX hD 0 rfl) ⟨_, sn_U_rad.up (by decide), ?_⟩
                refine ⟨_, w, (m : Int), m, rfl, hS, hR, (zStf hT (fun c j h1 h2 => ⟨rfl, rfl⟩)), hD, (by first | exact hk | (clear hQ; grind [xu])), (by first | exact (zUw_fr hW (fun c j h => rfl)) | (clear hQ; grind [xu])), (by omega), (by first | exact hG | (clear hQ; grind [xu])), (by omega), ?_⟩
                intro v143o p143hv p143bhv2
                refine And.intro (by omega) ?_
                refine And.intro (zRb rfl) (zbt rfl ?_)
                refine ⟨((61 - (m + 1)), 0, 0), zlt6 (by omega), [some (zvr (k)), some (zvi (a)), some (zvi (d)), some (zvi (cuE w i 1 e)), some (zvi (cuE w i 0 e)), some (zvi ((0 : Int))), some (zvi ((m + 1))), none, none, none, none, none, none, none], ⟨rfl, rfl, rfl, rfl, rfl, rfl, rfl, rfl⟩, 0, (m + 1), rfl, rfl, rfl, rfl, rfl, rfl, rfl, (by omega), (by first | exact Or.inl rfl | exact Or.inr rfl), (fun h => by first | exact absurd h (by decide) | exact Exists.intro m ⟨by omega, by unfold cuEn; rw [← g109, ← g135, ← p143hv]; exact ⟨⟨by omega, by omega, by omega, by omega⟩, by omega⟩⟩), ?_⟩
                · intro h s hs
                  first
                  | exact absurd h (by decide)
                  | (by_cases e : s = m
                     · subst e
                       intro q
                       unfold cuEn at q
                       have q2 := q.2
                       rw [← g109, ← g135, ← p143hv] at q2
                       have q1 := q.1
                       omega
                     · exact hu2 (by omega) s (by omega))
              · refine And.intro (zDX hD 0 rfl) ⟨_, sn_U_edg.up (by decide), ?_⟩
                refine ⟨_, w, (m : Int), m, (1 : Int), 1, (0 : Int), 0, rfl, hS, hR, hD, (by first | exact hk | (clear hQ; grind [xu])), (by first | exact (zUw_fr hW (fun c j h => rfl)) | (clear hQ; grind [xu])), (by omega), (by first | exact hG | (clear hQ; grind [xu])), (by omega), (by omega), (by omega), ?_⟩
                intro v97o p97hv p97bhv2
                refine And.intro (zDX hD 0 rfl) ⟨_, sn_U_edg.up (by decide), ?_⟩
                refine ⟨_, w, (m : Int), m, (1 : Int), 1, (1 : Int), 1, rfl, hS, hR, hD, (by first | exact hk | (clear hQ; grind [xu])), (by first | exact (zUw_fr hW (fun c j h => rfl)) | (clear hQ; grind [xu])), (by omega), (by first | exact hG | (clear hQ; grind [xu])), (by omega), (by omega), (by omega), ?_⟩
                intro v105o p105hv p105bhv2
                refine ⟨_, sn_U_gap.up (by decide), ?_⟩
                refine ⟨((cuE w i 1 e) : Int), ((cuE w i 1 e) : Int), (v97o : Int), (v105o : Int), (0 : Int), rfl, (by omega), ?_⟩
                intro v109o p109hv p109bhv2
                have g109 : v109o = cuPg w i e m 1 := (by rw [p109hv, p97hv, p105hv]; rfl)
                refine And.intro (zDX hD 0 rfl) ⟨_, sn_U_edg.up (by decide), ?_⟩
                refine ⟨_, w, (m : Int), m, (0 : Int), 0, (0 : Int), 0, rfl, hS, hR, hD, (by first | exact hk | (clear hQ; grind [xu])), (by first | exact (zUw_fr hW (fun c j h => rfl)) | (clear hQ; grind [xu])), (by omega), (by first | exact hG | (clear hQ; grind [xu])), (by omega), (by omega), (by omega), ?_⟩
                intro v123o p123hv p123bhv2
                refine And.intro (zDX hD 0 rfl) ⟨_, sn_U_edg.up (by decide), ?_⟩
                refine ⟨_, w, (m : Int), m, (0 : Int), 0, (1 : Int), 1, rfl, hS, hR, hD, (by first | exact hk | (clear hQ; grind [xu])), (by first | exact (zUw_fr hW (fun c j h => rfl)) | (clear hQ; grind [xu])), (by omega), (by first | exact hG | (clear hQ; grind [xu])), (by omega), (by omega), (by omega), ?_⟩
                intro v131o p131hv p131bhv2
                refine ⟨_, sn_U_gap.up (by decide), ?_⟩
                refine ⟨((cuE w i 0 e) : Int), ((cuE w i 0 e) : Int), (v123o : Int), (v131o : Int), (0 : Int), rfl, (by omega), ?_⟩
                intro v135o p135hv p135bhv2
                have g135 : v135o = cuPg w i e m 0 := (by rw [p135hv, p123hv, p131hv]; rfl)
                refine And.intro (zDX hD 0 rfl) ⟨_, sn_U_rad.up (by decide), ?_⟩
                refine ⟨_, w, (m : Int), m, rfl, hS, hR, (zStf hT (fun c j h1 h2 => ⟨rfl, rfl⟩)), hD, (by first | exact hk | (clear hQ; grind [xu])), (by first | exact (zUw_fr hW (fun c j h => rfl)) | (clear hQ; grind [xu])), (by omega), (by first | exact hG | (clear hQ; grind [xu])), (by omega), ?_⟩
                intro v143o p143hv p143bhv2
                refine And.intro (by omega) ?_
                refine And.intro (zRb rfl) (zbf rfl ?_)
                have mu158 : 0 ≤ v109o * v109o ∧ v109o * v109o ≤ 15000 * 15000 := zmb (by omega) (by omega) (by omega) (by omega)
                have mu163 : 0 ≤ v135o * v135o ∧ v135o * v135o ≤ 15000 * 15000 := zmb (by omega) (by omega) (by omega) (by omega)
                have mu169 : 0 ≤ v143o * v143o ∧ v143o * v143o ≤ 300 * 300 := zmb (by omega) (by omega) (by omega) (by omega)
                refine ⟨_, _, ⟨zW6i (by omega), zW6i (by omega)⟩, fun z170 c170 => ?_⟩
                refine And.intro c170.2.2 ⟨fun h171 => ?_, fun h171 => ?_⟩
                · refine ⟨((61 - (m + 1)), 0, 0), zlt6 (by omega), [some (zvr (k)), some (zvi (a)), some (zvi (d)), some (zvi (cuE w i 1 e)), some (zvi (cuE w i 0 e)), some (zvi ((0 : Int))), some (zvi ((m + 1))), none, none, none, none, none, none, none], ⟨rfl, rfl, rfl, rfl, rfl, rfl, rfl, rfl⟩, 0, (m + 1), rfl, rfl, rfl, rfl, rfl, rfl, rfl, (by omega), (by first | exact Or.inl rfl | exact Or.inr rfl), (fun h => by first | exact absurd h (by decide) | exact Exists.intro m ⟨by omega, by unfold cuEn; rw [← g109, ← g135, ← p143hv]; exact ⟨⟨by omega, by omega, by omega, by omega⟩, by omega⟩⟩), ?_⟩
                  · intro h s hs
                    first
                    | exact absurd h (by decide)
                    | (by_cases e : s = m
                       · subst e
                         intro q
                         unfold cuEn at q
                         have q2 := q.2
                         rw [← g109, ← g135, ← p143hv] at q2
                         have q1 := q.1
                         omega
                       · exact hu2 (by omega) s (by omega))
                · refine ⟨((61 - (m + 1)), 0, 0), zlt6 (by omega), [some (zvr (k)), some (zvi (a)), some (zvi (d)), some (zvi (cuE w i 1 e)), some (zvi (cuE w i 0 e)), some (zvi ((1 : Int))), some (zvi ((m + 1))), none, none, none, none, none, none, none], ⟨rfl, rfl, rfl, rfl, rfl, rfl, rfl, rfl⟩, 1, (m + 1), rfl, rfl, rfl, rfl, rfl, rfl, rfl, (by omega), (by first | exact Or.inl rfl | exact Or.inr rfl), (fun h => by first | exact absurd h (by decide) | exact Exists.intro m ⟨by omega, by unfold cuEn; rw [← g109, ← g135, ← p143hv]; exact ⟨⟨by omega, by omega, by omega, by omega⟩, by omega⟩⟩), ?_⟩
                  · intro h s hs
                    first
                    | exact absurd h (by decide)
                    | (by_cases e : s = m
                       · subst e
                         intro q
                         unfold cuEn at q
                         have q2 := q.2
                         rw [← g109, ← g135, ← p143hv] at q2
                         have q1 := q.1
                         omega
                       · exact hu2 (by omega) s (by omega)))
def T_U_adf : ZT := fun args I L R S Q => ∃ (k : Nat) (w : List CuR) (kd : Int) (a : Int) (i : Nat) (b : Int) (m : Nat), args = [zvr k, zvi kd, zvi a, zvi b] ∧ (zSh S) ∧ (zRs R) ∧ (zDy zT1 zF1 k R S) ∧ (k = 106 ∨ k = 118) ∧ (zUw k w I) ∧ (w.length ≤ 60) ∧ (cuG w) ∧ (a = i ∧ i < w.length) ∧ ((0 ≤ kd ∧ kd ≤ 4) ∧ -1 ≤ b ∧ b ≤ 59) ∧ (I k 11 = m) ∧ (m < 1950) ∧ ∀ (I' : ZI), (I' k 11 = m + 1) → (I' (k + 7) m = cuCd w kd i b) → (∀ j : Nat, j ≠ m → I' (k + 7) j = I (k + 7) j) → (∀ c j : Nat, ¬ (c = k ∧ j = 11) → ¬ c = k + 7 → I' c j = I c j) → Q none I' L R S
theorem sn_U_adf : ZSnd 3 1 0 T_U_adf := ZSnd.of (zT1_0 2) (by
  rintro args I L R S Q hz ⟨k, w, kd, a, i, b, m, rfl, hS, hR, hD, hk, hW, hl, hG, hi, hb, hm, hm2, hQ⟩
  have hk106 : 106 ≤ k := by omega
  have hk118 : k ≤ 118 := by omega
  have hT1 := zUw_T hW hl
  have hN := hT1.2.1
  have hg := hG i hi.2
  refine And.intro rfl ?_
  refine And.intro (zDX hD 0 rfl) (zrdR (v := some (k + 1)) (zDR hD 0 rfl) ?_)
  refine And.intro (zDX hD 1 rfl) ⟨_, sn_A_at.up (by decide), ?_⟩
  refine ⟨(k + 1), 60, w.length, (cg w), i, 3, (a : Int), (3 : Int), rfl, hS, hR, (zRw_1_1 hD), (by first | exact (zRT_fr hT1 (fun c j h => rfl)) | (clear hQ; grind [xu])), (by omega), (by omega), ?_⟩
  intro v6o p6hv p6bhr
  have g6 : 0 ≤ v6o ∧ v6o ≤ 255 := (by omega)
  refine And.intro (zDX hD 0 rfl) ⟨_, sn_U_los.up (by decide), ?_⟩
  refine ⟨_, w, (a : Int), i, rfl, hS, hR, hD, (by first | exact hk | (clear hQ; grind [xu])), (by first | exact (zUw_fr hW (fun c j h => rfl)) | (clear hQ; grind [xu])), (by omega), (by first | exact hG | (clear hQ; grind [xu])), (by omega), ?_⟩
  intro v13o p13hv p13bhv2
  refine And.intro ⟨(by omega), (zRb rfl), (by decide)⟩ (zdv (by omega) (fun q23 e23 => ?_))
  refine And.intro ⟨(by omega), (zRb rfl), (by decide)⟩ (zdv (by omega) (fun q32 e32 => ?_))
  refine And.intro (zDX hD 0 rfl) (zrd (v := m) hm ?_)
  refine And.intro ⟨(by omega), (zRb rfl)⟩ ⟨(fun h56 => False.elim (by omega)), fun h56 => ?_⟩
  refine And.intro (zDX hD 0 rfl) (zrdR (v := some (k + 7)) (zDR hD 4 rfl) ?_)
  refine And.intro (zDX hD 0 rfl) (zrd (v := m) hm ?_)
  refine And.intro ⟨(by show 40 ≤ _; omega), (zDP hD 7 rfl rfl (by omega) (by omega))⟩ ⟨_, (zWi (by omega)), ?_⟩
  refine And.intro (zDX hD 0 rfl) (zrd (v := m) (zxu (by omega) hm) ?_)
  refine And.intro (zDX hD 0 rfl) ⟨_, (zWi (by omega)), ?_⟩
  refine hQ _ (by first | exact zxe.trans (by omega) | exact zxe) (zxu (by omega) (zxe.trans (by unfold cuCd; omega))) (fun j hj => zxu (by omega) (zxs (by omega) rfl)) (fun c j h0 h1 => (zxcj h0 (zxu h1 rfl))))
def T_U_ffo : ZT := fun args I L R S Q => ∃ (k : Nat) (w : List CuR) (nr : Nat) (rf : Nat → Nat → Int) (a : Int) (i : Nat) (m : Int), args = [zvr k, zvi a, zvr 104] ∧ (zSh S) ∧ (zRs R) ∧ (zSt I L) ∧ (zDy zT1 zF1 k R S) ∧ (k = 106 ∨ k = 118) ∧ (zUw k w I) ∧ (w.length ≤ 60) ∧ (cuG w) ∧ (zRT 104 30 nr rf I) ∧ (cuRg nr rf) ∧ (a = i ∧ i < w.length) ∧ (I k 11 = m) ∧ (m + 3 ≤ 1950) ∧ (zFs k (cuPr w nr rf i (-1) 0) I) ∧ ∀ (I' : ZI), (I' k 11 ≤ m + 3) → (zFs k (cuPr w nr rf i (-1) 5) I') → (∀ c j : Nat, ¬ (c = k ∧ j = 11) → ¬ c = k + 7 → I' c j = I c j) → Q none I' L R S
theorem sn_U_ffo : ZSnd 5 1 19 T_U_ffo := ZSnd.loops (zT1_19 4) (by
  rintro args I L R S Q hz ⟨k, w, nr, rf, a, i, m, rfl, hS, hR, hT, hD, hk, hW, hl, hG, hR1, hRg, hi, hm, hm2, hF, hQ⟩
  have hk106 : 106 ≤ k := by omega
  have hk118 : k ≤ 118 := by omega
  have hT1 := zUw_T hW hl
  have hN := hT1.2.1
  have hm0 := hF.1
  refine ⟨[48, 85], fun nM tM lsM stM I1 L1 R1 S1 => match tM with
      | 48 => ∃ (c : Int), nM = (2, 0, 0) ∧ lsM = [some (zvr (k)), some (zvi (a)), some (zvr (104)), some (zvi (c)), none, none, none] ∧ stM = [] ∧ L1 = L ∧ R1 = R ∧ S1 = S ∧ (c = cg w i 0 ∧ 0 ≤ c ∧ c ≤ 3) ∧ (I1 k 11 ≤ m + 1) ∧ (zFs k (cuPr w nr rf i (-1) 2) I1) ∧ (∀ c j : Nat, ¬ (c = k ∧ j = 11) → ¬ c = k + 7 → I1 c j = I c j)
      | 85 => ∃ (c : Int), nM = (1, 0, 0) ∧ lsM = [some (zvr (k)), some (zvi (a)), some (zvr (104)), some (zvi (c)), none, none, none] ∧ stM = [] ∧ L1 = L ∧ R1 = R ∧ S1 = S ∧ (c = cg w i 0 ∧ 0 ≤ c ∧ c ≤ 3) ∧ (I1 k 11 ≤ m + 2) ∧ (zFs k (cuPr w nr rf i (-1) 4) I1) ∧ (∀ c j : Nat, ¬ (c = k ∧ j = 11) → ¬ c = k + 7 → I1 c j = I c j)
      | _ => False, rfl, ?_, ⟨?_, ?_, True.intro⟩⟩
  · refine And.intro (zDX hD 0 rfl) ⟨_, sn_U_cls.up (by decide), ?_⟩
    refine ⟨_, w, (a : Int), i, rfl, hS, hR, hD, (by first | exact hk | (clear hQ; grind [xu])), (by first | exact (zUw_fr hW (fun c j h => rfl)) | (clear hQ; grind [xu])), (by omega), (by first | exact hG | (clear hQ; grind [xu])), (by omega), ?_⟩
    intro v2o p2hv p2bhv2
    refine ⟨_, sn_U_val.up (by decide), ?_⟩
    refine ⟨nr, rf, 1, v2o, (-1), rfl, hS, hR, (by first | exact (zRT_fr hR1 (fun c j h => rfl)) | (clear hQ; grind [xu])), (by first | exact hRg | (clear hQ; grind [xu])), (by clear hQ; grind [xu]), ?_⟩
    intro v10o p10hv p10bhv2
    refine And.intro (zDX hD 0 rfl) ⟨_, sn_U_cop.up (by decide), ?_⟩
    refine ⟨_, w, (a : Int), i, rfl, hS, hR, hD, (by first | exact hk | (clear hQ; grind [xu])), (by first | exact (zUw_fr hW (fun c j h => rfl)) | (clear hQ; grind [xu])), (by omega), (by first | exact hG | (clear hQ; grind [xu])), (by omega), ?_⟩
    intro v17o p17hv
    refine And.intro (by omega) ⟨fun h20 => ?_, fun h20 => ?_⟩
    · refine ⟨(2, 0, 0), [some (zvr (k)), some (zvi (a)), some (zvr (104)), some (zvi (v2o)), none, none, none], ⟨rfl, rfl, rfl, rfl, rfl⟩, v2o, rfl, rfl, rfl, rfl, rfl, rfl, (by omega), (by clear hQ; grind [xu]), ?_, (fun c j h0 h1 => rfl)⟩
      · rw [p2hv] at p10hv
        first
        | exact zFs_y hG hl (zFs_n hF (cuV_s (Or.inl rfl)) rfl) (cuV_k1.mpr ⟨by omega, by omega, by omega, by omega⟩) rfl rfl p45hm3 p45bhc p45bbhf
        | exact zFs_n (zFs_n hF (cuV_s (Or.inl rfl)) rfl) (fun q => by have z := (cuV_k1.mp q).2; omega) rfl
    · refine And.intro ⟨(by omega), (zRb rfl)⟩ ⟨fun h26 => ?_, fun h26 => ?_⟩
      · refine ⟨(2, 0, 0), [some (zvr (k)), some (zvi (a)), some (zvr (104)), some (zvi (v2o)), none, none, none], ⟨rfl, rfl, rfl, rfl, rfl⟩, v2o, rfl, rfl, rfl, rfl, rfl, rfl, (by omega), (by clear hQ; grind [xu]), ?_, (fun c j h0 h1 => rfl)⟩
        · rw [p2hv] at p10hv
          first
          | exact zFs_y hG hl (zFs_n hF (cuV_s (Or.inl rfl)) rfl) (cuV_k1.mpr ⟨by omega, by omega, by omega, by omega⟩) rfl rfl p45hm3 p45bhc p45bbhf
          | exact zFs_n (zFs_n hF (cuV_s (Or.inl rfl)) rfl) (fun q => by have z := (cuV_k1.mp q).2; omega) rfl
      · refine And.intro (zDX hD 0 rfl) ⟨_, sn_U_rad.up (by decide), ?_⟩
        refine ⟨_, w, (a : Int), i, rfl, hS, hR, (zStf hT (fun c j h1 h2 => ⟨rfl, rfl⟩)), hD, (by first | exact hk | (clear hQ; grind [xu])), (by first | exact (zUw_fr hW (fun c j h => rfl)) | (clear hQ; grind [xu])), (by omega), (by first | exact hG | (clear hQ; grind [xu])), (by omega), ?_⟩
        intro v32o p32hv p32bhv2
        refine And.intro ⟨(by omega), (by omega)⟩ ⟨fun h38 => ?_, fun h38 => ?_⟩
        · refine ⟨(2, 0, 0), [some (zvr (k)), some (zvi (a)), some (zvr (104)), some (zvi (v2o)), none, none, none], ⟨rfl, rfl, rfl, rfl, rfl⟩, v2o, rfl, rfl, rfl, rfl, rfl, rfl, (by omega), (by clear hQ; grind [xu]), ?_, (fun c j h0 h1 => rfl)⟩
          · rw [p2hv] at p10hv
            first
            | exact zFs_y hG hl (zFs_n hF (cuV_s (Or.inl rfl)) rfl) (cuV_k1.mpr ⟨by omega, by omega, by omega, by omega⟩) rfl rfl p45hm3 p45bhc p45bbhf
            | exact zFs_n (zFs_n hF (cuV_s (Or.inl rfl)) rfl) (fun q => by have z := (cuV_k1.mp q).2; omega) rfl
        · refine And.intro (zDX hD 0 rfl) ⟨_, sn_U_adf.up (by decide), ?_⟩
          refine ⟨_, w, (1 : Int), (a : Int), i, ((-1) : Int), (I k 11).toNat, rfl, hS, hR, hD, (by first | exact hk | (clear hQ; grind [xu])), (by first | exact (zUw_fr hW (fun c j h => rfl)) | (clear hQ; grind [xu])), (by omega), (by first | exact hG | (clear hQ; grind [xu])), (by omega), (by clear hQ; grind [xu]), (Int.toNat_of_nonneg hm0).symm, (by omega), ?_⟩
          intro I45o p45hm3 p45bhc p45bbhf p45bbbfr
          refine ⟨(2, 0, 0), [some (zvr (k)), some (zvi (a)), some (zvr (104)), some (zvi (v2o)), none, none, none], ⟨rfl, rfl, rfl, rfl, rfl⟩, v2o, rfl, rfl, rfl, rfl, rfl, rfl, (by omega), (by clear hQ; grind [xu]), ?_, (fun c j h0 h1 => ((p45bbbfr c j h0 h1).trans rfl))⟩
          · rw [p2hv] at p10hv
            first
            | exact zFs_y hG hl (zFs_n hF (cuV_s (Or.inl rfl)) rfl) (cuV_k1.mpr ⟨by omega, by omega, by omega, by omega⟩) rfl rfl p45hm3 p45bhc p45bbhf
            | exact zFs_n (zFs_n hF (cuV_s (Or.inl rfl)) rfl) (fun q => by have z := (cuV_k1.mp q).2; omega) rfl
  · rintro nM lsM stM I1 L1 R1 S1 hz1 ⟨c, rfl, rfl, rfl, rfl, rfl, rfl, hc, hp2, hF3, fr⟩
    have hp0 := hF3.1
    refine ⟨_, sn_U_val.up (by decide), ?_⟩
    refine ⟨nr, rf, 3, c, (-1), rfl, hS, hR, (by first | exact (zRT_fr hR1 (fun c j h => ((fr c j (by omega) (by omega)).trans rfl))) | (clear hQ; grind [xu])), (by first | exact hRg | (clear hQ; grind [xu])), (by clear hQ; grind [xu]), ?_⟩
    intro v52o p52hv p52bhv2
    refine And.intro ⟨(by omega), (zRb rfl)⟩ ⟨fun h59 => ?_, fun h59 => ?_⟩
    · refine ⟨(1, 0, 0), zlt6 (by omega), [some (zvr (k)), some (zvi (a)), some (zvr (104)), some (zvi (c)), none, none, none], ⟨rfl, rfl, rfl, rfl, rfl⟩, c, rfl, rfl, rfl, rfl, rfl, rfl, (by omega), (by clear hQ; grind [xu]), ?_, (fun c j h0 h1 => ((fr c j h0 h1).trans rfl))⟩
      · rw [hc.1] at p52hv
        first
        | exact zFs_y hG hl (zFs_n hF3 (cuV_s (Or.inr rfl)) rfl) (cuV_k3.mpr ⟨by omega, by omega, by omega, by rw [← p52hv]; rcases p72hv with z | z; (exfalso; omega); exact z.2⟩) rfl rfl p82hm3 p82bhc p82bbhf
        | exact zFs_n (zFs_n hF3 (cuV_s (Or.inr rfl)) rfl) (fun q => by have z := (cuV_k3.mp q).2; omega) rfl
        | exact zFs_n (zFs_n hF3 (cuV_s (Or.inr rfl)) rfl) (fun q => by have z := (cuV_k3.mp q).2.2.2; rw [← p52hv] at z; rcases p72hv with y | y; exact z y.2; omega) rfl
    · refine And.intro ⟨(by omega), (zRb rfl)⟩ ⟨fun h65 => ?_, fun h65 => ?_⟩
      · refine ⟨(1, 0, 0), zlt6 (by omega), [some (zvr (k)), some (zvi (a)), some (zvr (104)), some (zvi (c)), none, none, none], ⟨rfl, rfl, rfl, rfl, rfl⟩, c, rfl, rfl, rfl, rfl, rfl, rfl, (by omega), (by clear hQ; grind [xu]), ?_, (fun c j h0 h1 => ((fr c j h0 h1).trans rfl))⟩
        · rw [hc.1] at p52hv
          first
          | exact zFs_y hG hl (zFs_n hF3 (cuV_s (Or.inr rfl)) rfl) (cuV_k3.mpr ⟨by omega, by omega, by omega, by rw [← p52hv]; rcases p72hv with z | z; (exfalso; omega); exact z.2⟩) rfl rfl p82hm3 p82bhc p82bbhf
          | exact zFs_n (zFs_n hF3 (cuV_s (Or.inr rfl)) rfl) (fun q => by have z := (cuV_k3.mp q).2; omega) rfl
          | exact zFs_n (zFs_n hF3 (cuV_s (Or.inr rfl)) rfl) (fun q => by have z := (cuV_k3.mp q).2.2.2; rw [← p52hv] at z; rcases p72hv with y | y; exact z y.2; omega) rfl
      · refine And.intro (zDX hD 0 rfl) ⟨_, sn_U_rng.up (by decide), ?_⟩
        refine ⟨_, w, (a : Int), i, (v52o : Int), rfl, hS, hR, (zStf hT (fun c j h1 h2 => ⟨((fr c j (by omega) (by omega)).trans rfl), rfl⟩)), hD, (by first | exact hk | (clear hQ; grind [xu])), (by first | exact (zUw_fr hW (fun c j h => ((fr c j (by omega) (by omega)).trans rfl))) | (clear hQ; grind [xu])), (by omega), (by first | exact hG | (clear hQ; grind [xu])), (by omega), (by omega), ?_⟩
        intro u72o p72hv
        refine And.intro (by omega) ⟨fun h75 => ?_, fun h75 => ?_⟩
        · refine ⟨(1, 0, 0), zlt6 (by omega), [some (zvr (k)), some (zvi (a)), some (zvr (104)), some (zvi (c)), none, none, none], ⟨rfl, rfl, rfl, rfl, rfl⟩, c, rfl, rfl, rfl, rfl, rfl, rfl, (by omega), (by clear hQ; grind [xu]), ?_, (fun c j h0 h1 => ((fr c j h0 h1).trans rfl))⟩
          · rw [hc.1] at p52hv
            first
            | exact zFs_y hG hl (zFs_n hF3 (cuV_s (Or.inr rfl)) rfl) (cuV_k3.mpr ⟨by omega, by omega, by omega, by rw [← p52hv]; rcases p72hv with z | z; (exfalso; omega); exact z.2⟩) rfl rfl p82hm3 p82bhc p82bbhf
            | exact zFs_n (zFs_n hF3 (cuV_s (Or.inr rfl)) rfl) (fun q => by have z := (cuV_k3.mp q).2; omega) rfl
            | exact zFs_n (zFs_n hF3 (cuV_s (Or.inr rfl)) rfl) (fun q => by have z := (cuV_k3.mp q).2.2.2; rw [← p52hv] at z; rcases p72hv with y | y; exact z y.2; omega) rfl
        · refine And.intro (zDX hD 0 rfl) ⟨_, sn_U_adf.up (by decide), ?_⟩
          refine ⟨_, w, (3 : Int), (a : Int), i, ((-1) : Int), (I1 k 11).toNat, rfl, hS, hR, hD, (by first | exact hk | (clear hQ; grind [xu])), (by first | exact (zUw_fr hW (fun c j h => ((fr c j (by omega) (by omega)).trans rfl))) | (clear hQ; grind [xu])), (by omega), (by first | exact hG | (clear hQ; grind [xu])), (by omega), (by clear hQ; grind [xu]), (Int.toNat_of_nonneg hp0).symm, (by omega), ?_⟩
          intro I82o p82hm3 p82bhc p82bbhf p82bbbfr
          refine ⟨(1, 0, 0), zlt6 (by omega), [some (zvr (k)), some (zvi (a)), some (zvr (104)), some (zvi (c)), none, none, none], ⟨rfl, rfl, rfl, rfl, rfl⟩, c, rfl, rfl, rfl, rfl, rfl, rfl, (by omega), (by clear hQ; grind [xu]), ?_, (fun c j h0 h1 => ((p82bbbfr c j h0 h1).trans ((fr c j h0 h1).trans rfl)))⟩
          · rw [hc.1] at p52hv
            first
            | exact zFs_y hG hl (zFs_n hF3 (cuV_s (Or.inr rfl)) rfl) (cuV_k3.mpr ⟨by omega, by omega, by omega, by rw [← p52hv]; rcases p72hv with z | z; (exfalso; omega); exact z.2⟩) rfl rfl p82hm3 p82bhc p82bbhf
            | exact zFs_n (zFs_n hF3 (cuV_s (Or.inr rfl)) rfl) (fun q => by have z := (cuV_k3.mp q).2; omega) rfl
            | exact zFs_n (zFs_n hF3 (cuV_s (Or.inr rfl)) rfl) (fun q => by have z := (cuV_k3.mp q).2.2.2; rw [← p52hv] at z; rcases p72hv with y | y; exact z y.2; omega) rfl
  · rintro nM lsM stM I1 L1 R1 S1 hz1 ⟨c, rfl, rfl, rfl, rfl, rfl, rfl, hc, hp2, hF3, fr⟩
    have hp0 := hF3.1
    refine ⟨_, sn_U_val.up (by decide), ?_⟩
    refine ⟨nr, rf, 4, c, (-1), rfl, hS, hR, (by first | exact (zRT_fr hR1 (fun c j h => ((fr c j (by omega) (by omega)).trans rfl))) | (clear hQ; grind [xu])), (by first | exact hRg | (clear hQ; grind [xu])), (by clear hQ; grind [xu]), ?_⟩
    intro v89o p89hv p89bhv2
    refine And.intro ⟨(by omega), (zRb rfl)⟩ ⟨fun h93 => ?_, fun h93 => ?_⟩
    · refine And.intro (by omega) ⟨fun h104 => ?_, fun h104 => ?_⟩
      · refine hQ _ (by clear hQ; grind [xu]) ?_ (fun c j h0 h1 => ((fr c j h0 h1).trans rfl))
        · rw [hc.1] at p89hv
          first
          | exact zFs_y hG hl hF3 (cuV_k4.mpr ⟨by omega, by omega, by omega, fun q => by rcases p115hv with y | y; (rcases p124hv with x | x; omega; exact x.2 q.2); exact y.2 q.1⟩) rfl rfl p134hm3 p134bhc p134bbhf
          | exact zFs_y hG hl hF3 (cuV_k4.mpr ⟨by omega, by omega, by omega, fun q => by rcases p115hv with y | y; omega; exact y.2 q.1⟩) rfl rfl p134hm3 p134bhc p134bbhf
          | exact zFs_n hF3 (fun q => by have z := (cuV_k4.mp q).2; omega) rfl
          | exact zFs_n hF3 (fun q => by have z := (cuV_k4.mp q).2.2.2; rcases p115hv with y | y; (rcases p124hv with x | x; exact z ⟨y.2, x.2⟩; omega); omega) rfl
      · refine And.intro (zRb rfl) (zbt rfl ?_)
        refine hQ _ (by clear hQ; grind [xu]) ?_ (fun c j h0 h1 => ((fr c j h0 h1).trans rfl))
        · rw [hc.1] at p89hv
          first
          | exact zFs_y hG hl hF3 (cuV_k4.mpr ⟨by omega, by omega, by omega, fun q => by rcases p115hv with y | y; (rcases p124hv with x | x; omega; exact x.2 q.2); exact y.2 q.1⟩) rfl rfl p134hm3 p134bhc p134bbhf
          | exact zFs_y hG hl hF3 (cuV_k4.mpr ⟨by omega, by omega, by omega, fun q => by rcases p115hv with y | y; omega; exact y.2 q.1⟩) rfl rfl p134hm3 p134bhc p134bbhf
          | exact zFs_n hF3 (fun q => by have z := (cuV_k4.mp q).2; omega) rfl
          | exact zFs_n hF3 (fun q => by have z := (cuV_k4.mp q).2.2.2; rcases p115hv with y | y; (rcases p124hv with x | x; exact z ⟨y.2, x.2⟩; omega); omega) rfl
    · refine And.intro (by omega) ⟨fun h104 => ?_, fun h104 => ?_⟩
      · refine hQ _ (by clear hQ; grind [xu]) ?_ (fun c j h0 h1 => ((fr c j h0 h1).trans rfl))
        · rw [hc.1] at p89hv
          first
          | exact zFs_y hG hl hF3 (cuV_k4.mpr ⟨by omega, by omega, by omega, fun q => by rcases p115hv with y | y; (rcases p124hv with x | x; omega; exact x.2 q.2); exact y.2 q.1⟩) rfl rfl p134hm3 p134bhc p134bbhf
          | exact zFs_y hG hl hF3 (cuV_k4.mpr ⟨by omega, by omega, by omega, fun q => by rcases p115hv with y | y; omega; exact y.2 q.1⟩) rfl rfl p134hm3 p134bhc p134bbhf
          | exact zFs_n hF3 (fun q => by have z := (cuV_k4.mp q).2; omega) rfl
          | exact zFs_n hF3 (fun q => by have z := (cuV_k4.mp q).2.2.2; rcases p115hv with y | y; (rcases p124hv with x | x; exact z ⟨y.2, x.2⟩; omega); omega) rfl
      · refine And.intro (zRb rfl) (zbf rfl ?_)
        refine And.intro (zDX hD 0 rfl) ⟨_, sn_U_end.up (by decide), ?_⟩
        refine ⟨_, w, (a : Int), i, (0 : Int), 0, rfl, hS, hR, (zStf hT (fun c j h1 h2 => ⟨((fr c j (by omega) (by omega)).trans rfl), rfl⟩)), hD, (by first | exact hk | (clear hQ; grind [xu])), (by first | exact (zUw_fr hW (fun c j h => ((fr c j (by omega) (by omega)).trans rfl))) | (clear hQ; grind [xu])), (by omega), (by first | exact hG | (clear hQ; grind [xu])), (by omega), (by omega), ?_⟩
        intro u115o p115hv
        refine And.intro (by omega) ⟨fun h118 => ?_, fun h118 => ?_⟩
        · refine And.intro (zDX hD 0 rfl) ⟨_, sn_U_adf.up (by decide), ?_⟩
          refine ⟨_, w, (4 : Int), (a : Int), i, ((-1) : Int), (I1 k 11).toNat, rfl, hS, hR, hD, (by first | exact hk | (clear hQ; grind [xu])), (by first | exact (zUw_fr hW (fun c j h => ((fr c j (by omega) (by omega)).trans rfl))) | (clear hQ; grind [xu])), (by omega), (by first | exact hG | (clear hQ; grind [xu])), (by omega), (by clear hQ; grind [xu]), (Int.toNat_of_nonneg hp0).symm, (by omega), ?_⟩
          intro I134o p134hm3 p134bhc p134bbhf p134bbbfr
          refine hQ _ (by clear hQ; grind [xu]) ?_ (fun c j h0 h1 => ((p134bbbfr c j h0 h1).trans ((fr c j h0 h1).trans rfl)))
          · rw [hc.1] at p89hv
            first
            | exact zFs_y hG hl hF3 (cuV_k4.mpr ⟨by omega, by omega, by omega, fun q => by rcases p115hv with y | y; (rcases p124hv with x | x; omega; exact x.2 q.2); exact y.2 q.1⟩) rfl rfl p134hm3 p134bhc p134bbhf
            | exact zFs_y hG hl hF3 (cuV_k4.mpr ⟨by omega, by omega, by omega, fun q => by rcases p115hv with y | y; omega; exact y.2 q.1⟩) rfl rfl p134hm3 p134bhc p134bbhf
            | exact zFs_n hF3 (fun q => by have z := (cuV_k4.mp q).2; omega) rfl
            | exact zFs_n hF3 (fun q => by have z := (cuV_k4.mp q).2.2.2; rcases p115hv with y | y; (rcases p124hv with x | x; exact z ⟨y.2, x.2⟩; omega); omega) rfl
        · refine And.intro (zDX hD 0 rfl) ⟨_, sn_U_end.up (by decide), ?_⟩
          refine ⟨_, w, (a : Int), i, (1 : Int), 1, rfl, hS, hR, (zStf hT (fun c j h1 h2 => ⟨((fr c j (by omega) (by omega)).trans rfl), rfl⟩)), hD, (by first | exact hk | (clear hQ; grind [xu])), (by first | exact (zUw_fr hW (fun c j h => ((fr c j (by omega) (by omega)).trans rfl))) | (clear hQ; grind [xu])), (by omega), (by first | exact hG | (clear hQ; grind [xu])), (by omega), (by omega), ?_⟩
          intro u124o p124hv
          refine And.intro (by omega) ⟨fun h127 => ?_, fun h127 => ?_⟩
          · refine hQ _ (by clear hQ; grind [xu]) ?_ (fun c j h0 h1 => ((fr c j h0 h1).trans rfl))
            · rw [hc.1] at p89hv
              first
              | exact zFs_y hG hl hF3 (cuV_k4.mpr ⟨by omega, by omega, by omega, fun q => by rcases p115hv with y | y; (rcases p124hv with x | x; omega; exact x.2 q.2); exact y.2 q.1⟩) rfl rfl p134hm3 p134bhc p134bbhf
              | exact zFs_y hG hl hF3 (cuV_k4.mpr ⟨by omega, by omega, by omega, fun q => by rcases p115hv with y | y; omega; exact y.2 q.1⟩) rfl rfl p134hm3 p134bhc p134bbhf
              | exact zFs_n hF3 (fun q => by have z := (cuV_k4.mp q).2; omega) rfl
              | exact zFs_n hF3 (fun q => by have z := (cuV_k4.mp q).2.2.2; rcases p115hv with y | y; (rcases p124hv with x | x; exact z ⟨y.2, x.2⟩; omega); omega) rfl
          · refine And.intro (zDX hD 0 rfl) ⟨_, sn_U_adf.up (by decide), ?_⟩
            refine ⟨_, w, (4 : Int), (a : Int), i, ((-1) : Int), (I1 k 11).toNat, rfl, hS, hR, hD, (by first | exact hk | (clear hQ; grind [xu])), (by first | exact (zUw_fr hW (fun c j h => ((fr c j (by omega) (by omega)).trans rfl))) | (clear hQ; grind [xu])), (by omega), (by first | exact hG | (clear hQ; grind [xu])), (by omega), (by clear hQ; grind [xu]), (Int.toNat_of_nonneg hp0).symm, (by omega), ?_⟩
            intro I134o p134hm3 p134bhc p134bbhf p134bbbfr
            refine hQ _ (by clear hQ; grind [xu]) ?_ (fun c j h0 h1 => ((p134bbbfr c j h0 h1).trans ((fr c j h0 h1).trans rfl)))
            · rw [hc.1] at p89hv
              first
              | exact zFs_y hG hl hF3 (cuV_k4.mpr ⟨by omega, by omega, by omega, fun q => by rcases p115hv with y | y; (rcases p124hv with x | x; omega; exact x.2 q.2); exact y.2 q.1⟩) rfl rfl p134hm3 p134bhc p134bbhf
              | exact zFs_y hG hl hF3 (cuV_k4.mpr ⟨by omega, by omega, by omega, fun q => by rcases p115hv with y | y; omega; exact y.2 q.1⟩) rfl rfl p134hm3 p134bhc p134bbhf
              | exact zFs_n hF3 (fun q => by have z := (cuV_k4.mp q).2; omega) rfl
              | exact zFs_n hF3 (fun q => by have z := (cuV_k4.mp q).2.2.2; rcases p115hv with y | y; (rcases p124hv with x | x; exact z ⟨y.2, x.2⟩; omega); omega) rfl)
def T_U_ffp : ZT := fun args I L R S Q => ∃ (k : Nat) (w : List CuR) (nr : Nat) (rf : Nat → Nat → Int) (a : Int) (i : Nat) (b : Int) (j : Nat) (m : Int), args = [zvr k, zvi a, zvi b, zvr 104] ∧ (zSh S) ∧ (zRs R) ∧ (zSt I L) ∧ (zDy zT1 zF1 k R S) ∧ (k = 106 ∨ k = 118) ∧ (zUw k w I) ∧ (w.length ≤ 60) ∧ (cuG w) ∧ (zRT 104 30 nr rf I) ∧ (cuRg nr rf) ∧ (a = i ∧ i < w.length) ∧ (b = j ∧ j < w.length) ∧ (i < j) ∧ (I k 11 = m) ∧ (m + 1 ≤ 1950) ∧ (zFs k (cuPr w nr rf i j 0) I) ∧ ∀ (I' : ZI), (I' k 11 ≤ m + 1) → (zFs k (cuPr w nr rf i j 5) I') → (∀ c j : Nat, ¬ (c = k ∧ j = 11) → ¬ c = k + 7 → I' c j = I c j) → Q none I' L R S
theorem sn_U_ffp : ZSnd 5 1 20 T_U_ffp := ZSnd.loops (zT1_20 4) (by
  rintro args I L R S Q hz ⟨k, w, nr, rf, a, i, b, j, m, rfl, hS, hR, hT, hD, hk, hW, hl, hG, hR1, hRg, hi, hj, hij, hm, hm2, hF, hQ⟩
  have hk106 : 106 ≤ k := by omega
  have hk118 : k ≤ 118 := by omega
  have hT1 := zUw_T hW hl
  have hN := hT1.2.1
  have hm0 := hF.1
  obtain ⟨eb, _⟩ := id hj
  have hgi := hG i hi.2
  have hgj := hG j hj.2
  refine ⟨[120], fun nM tM lsM stM I1 L1 R1 S1 => match tM with
      | 120 => ∃ (u : Int), nM = (1, 0, 0) ∧ lsM = [some (zvr (k)), some (zvi (a)), some (zvi (b)), some (zvr (104)), none, none, some (zvi (u))] ∧ stM = [] ∧ L1 = L ∧ R1 = R ∧ S1 = S ∧ ((u = 1 ∧ cg w i 0 = 3 ∧ cg w j 0 = 3) ∨ (u = 0 ∧ ¬ (cg w i 0 = 3 ∧ cg w j 0 = 3))) ∧ (I1 k 11 ≤ m + 1 ∧ (u = 1 → I1 k 11 ≤ m)) ∧ (zFs k (cuPr w nr rf i j 2) I1) ∧ (∀ c j : Nat, ¬ (c = k ∧ j = 11) → ¬ c = k + 7 → I1 c j = I c j)
      | _ => False, rfl, ?_, ⟨?_, True.intro⟩⟩
  · refine And.intro (zDX hD 0 rfl) ⟨_, sn_U_cop.up (by decide), ?_⟩
    refine ⟨_, w, (a : Int), i, rfl, hS, hR, hD, (by first | exact hk | (clear hQ; grind [xu])), (by first | exact (zUw_fr hW (fun c j h => rfl)) | (clear hQ; grind [xu])), (by omega), (by first | exact hG | (clear hQ; grind [xu])), (by omega), ?_⟩
    intro v2o p2hv
    refine And.intro (by omega) ⟨fun h5 => ?_, fun h5 => ?_⟩
    · refine And.intro (zRb rfl) (zbt rfl ?_)
      refine And.intro (zDX hD 0 rfl) ⟨_, sn_U_cop.up (by decide), ?_⟩
      refine ⟨_, w, (a : Int), i, rfl, hS, hR, hD, (by first | exact hk | (clear hQ; grind [xu])), (by first | exact (zUw_fr hW (fun c j h => rfl)) | (clear hQ; grind [xu])), (by omega), (by first | exact hG | (clear hQ; grind [xu])), (by omega), ?_⟩
      intro v63o p63hv
      refine And.intro (by omega) ⟨fun h66 => ?_, fun h66 => ?_⟩
      · refine And.intro (zRb rfl) (zbt rfl ?_)
        refine ⟨(1, 0, 0), [some (zvr (k)), some (zvi (a)), some (zvi (b)), some (zvr (104)), none, none, some (zvi ((0 : Int)))], ⟨rfl, rfl, rfl, rfl, rfl, rfl⟩, 0, rfl, rfl, rfl, rfl, rfl, rfl, (by omega), (by omega), ?_, (fun c j h0 h1 => rfl)⟩
        · first
          | (exfalso; omega)
          | exact zFs_v hG hl hF ((cuV_k0 hij hj.2).mpr ⟨by omega, by omega, by omega, by rw [p96hv, p101hv] at p104hv; rw [← p104hv]; rcases p107hv with z | z; exact z.2; omega⟩) rfl rfl p117hm3 (by rw [← hj.1]; exact p117bhc) p117bbhf (cuV_p (by omega)) rfl
          | exact zFs_n (zFs_n hF (fun q => by have z := ((cuV_k0 hij hj.2).mp q).2.2.2; rw [p96hv, p101hv] at p104hv; rw [← p104hv] at z; rcases p107hv with y | y; omega; exact y.2 z) rfl) (cuV_p (by omega)) rfl
          | exact zFs_n (zFs_n hF (fun q => by have z := (cuV_k0 hij hj.2).mp q; omega) rfl) (cuV_p (by omega)) rfl
      · refine And.intro (zDX hD 0 rfl) ⟨_, sn_U_cop.up (by decide), ?_⟩
        refine ⟨_, w, (b : Int), j, rfl, hS, hR, hD, (by first | exact hk | (clear hQ; grind [xu])), (by first | exact (zUw_fr hW (fun c j h => rfl)) | (clear hQ; grind [xu])), (by omega), (by first | exact hG | (clear hQ; grind [xu])), (by omega), ?_⟩
        intro v71o p71hv
        refine And.intro (by omega) ⟨fun h74 => ?_, fun h74 => ?_⟩
        · refine And.intro (zRb rfl) (zbt rfl ?_)
          refine ⟨(1, 0, 0), [some (zvr (k)), some (zvi (a)), some (zvi (b)), some (zvr (104)), none, none, some (zvi ((0 : Int)))], ⟨rfl, rfl, rfl, rfl, rfl, rfl⟩, 0, rfl, rfl, rfl, rfl, rfl, rfl, (by omega), (by omega), ?_, (fun c j h0 h1 => rfl)⟩
          · first
            | (exfalso; omega)
            | exact zFs_v hG hl hF ((cuV_k0 hij hj.2).mpr ⟨by omega, by omega, by omega, by rw [p96hv, p101hv] at p104hv; rw [← p104hv]; rcases p107hv with z | z; exact z.2; omega⟩) rfl rfl p117hm3 (by rw [← hj.1]; exact p117bhc) p117bbhf (cuV_p (by omega)) rfl
            | exact zFs_n (zFs_n hF (fun q => by have z := ((cuV_k0 hij hj.2).mp q).2.2.2; rw [p96hv, p101hv] at p104hv; rw [← p104hv] at z; rcases p107hv with y | y; omega; exact y.2 z) rfl) (cuV_p (by omega)) rfl
            | exact zFs_n (zFs_n hF (fun q => by have z := (cuV_k0 hij hj.2).mp q; omega) rfl) (cuV_p (by omega)) rfl
        · refine And.intro (zRb rfl) (zbt rfl ?_)
          refine ⟨(1, 0, 0), [some (zvr (k)), some (zvi (a)), some (zvi (b)), some (zvr (104)), none, none, some (zvi ((1 : Int)))], ⟨rfl, rfl, rfl, rfl, rfl, rfl⟩, 1, rfl, rfl, rfl, rfl, rfl, rfl, (by omega), (by omega), ?_, (fun c j h0 h1 => rfl)⟩
          · first
            | (exfalso; omega)
            | exact zFs_v hG hl hF ((cuV_k0 hij hj.2).mpr ⟨by omega, by omega, by omega, by rw [p96hv, p101hv] at p104hv; rw [← p104hv]; rcases p107hv with z | z; exact z.2; omega⟩) rfl rfl p117hm3 (by rw [← hj.1]; exact p117bhc) p117bbhf (cuV_p (by omega)) rfl
            | exact zFs_n (zFs_n hF (fun q => by have z := ((cuV_k0 hij hj.2).mp q).2.2.2; rw [p96hv, p101hv] at p104hv; rw [← p104hv] at z; rcases p107hv with y | y; omega; exact y.2 z) rfl) (cuV_p (by omega)) rfl
            | exact zFs_n (zFs_n hF (fun q => by have z := (cuV_k0 hij hj.2).mp q; omega) rfl) (cuV_p (by omega)) rfl
    · refine And.intro (zDX hD 0 rfl) ⟨_, sn_U_cop.up (by decide), ?_⟩
      refine ⟨_, w, (b : Int), j, rfl, hS, hR, hD, (by first | exact hk | (clear hQ; grind [xu])), (by first | exact (zUw_fr hW (fun c j h => rfl)) | (clear hQ; grind [xu])), (by omega), (by first | exact hG | (clear hQ; grind [xu])), (by omega), ?_⟩
      intro v10o p10hv
      refine And.intro (by omega) ⟨fun h13 => ?_, fun h13 => ?_⟩
      · refine And.intro (zRb rfl) (zbt rfl ?_)
        refine And.intro (zDX hD 0 rfl) ⟨_, sn_U_cop.up (by decide), ?_⟩
        refine ⟨_, w, (a : Int), i, rfl, hS, hR, hD, (by first | exact hk | (clear hQ; grind [xu])), (by first | exact (zUw_fr hW (fun c j h => rfl)) | (clear hQ; grind [xu])), (by omega), (by first | exact hG | (clear hQ; grind [xu])), (by omega), ?_⟩
        intro v63o p63hv
        refine And.intro (by omega) ⟨fun h66 => ?_, fun h66 => ?_⟩
        · refine And.intro (zRb rfl) (zbt rfl ?_)
          refine ⟨(1, 0, 0), [some (zvr (k)), some (zvi (a)), some (zvi (b)), some (zvr (104)), none, none, some (zvi ((0 : Int)))], ⟨rfl, rfl, rfl, rfl, rfl, rfl⟩, 0, rfl, rfl, rfl, rfl, rfl, rfl, (by omega), (by omega), ?_, (fun c j h0 h1 => rfl)⟩
          · first
            | (exfalso; omega)
            | exact zFs_v hG hl hF ((cuV_k0 hij hj.2).mpr ⟨by omega, by omega, by omega, by rw [p96hv, p101hv] at p104hv; rw [← p104hv]; rcases p107hv with z | z; exact z.2; omega⟩) rfl rfl p117hm3 (by rw [← hj.1]; exact p117bhc) p117bbhf (cuV_p (by omega)) rfl
            | exact zFs_n (zFs_n hF (fun q => by have z := ((cuV_k0 hij hj.2).mp q).2.2.2; rw [p96hv, p101hv] at p104hv; rw [← p104hv] at z; rcases p107hv with y | y; omega; exact y.2 z) rfl) (cuV_p (by omega)) rfl
            | exact zFs_n (zFs_n hF (fun q => by have z := (cuV_k0 hij hj.2).mp q; omega) rfl) (cuV_p (by omega)) rfl
        · refine And.intro (zDX hD 0 rfl) ⟨_, sn_U_cop.up (by decide), ?_⟩
          refine ⟨_, w, (b : Int), j, rfl, hS, hR, hD, (by first | exact hk | (clear hQ; grind [xu])), (by first | exact (zUw_fr hW (fun c j h => rfl)) | (clear hQ; grind [xu])), (by omega), (by first | exact hG | (clear hQ; grind [xu])), (by omega), ?_⟩
          intro v71o p71hv
          refine And.intro (by omega) ⟨fun h74 => ?_, fun h74 => ?_⟩
          · refine And.intro (zRb rfl) (zbt rfl ?_)
            refine ⟨(1, 0, 0), [some (zvr (k)), some (zvi (a)), some (zvi (b)), some (zvr (104)), none, none, some (zvi ((0 : Int)))], ⟨rfl, rfl, rfl, rfl, rfl, rfl⟩, 0, rfl, rfl, rfl, rfl, rfl, rfl, (by omega), (by omega), ?_, (fun c j h0 h1 => rfl)⟩
            · first
              | (exfalso; omega)
              | exact zFs_v hG hl hF ((cuV_k0 hij hj.2).mpr ⟨by omega, by omega, by omega, by rw [p96hv, p101hv] at p104hv; rw [← p104hv]; rcases p107hv with z | z; exact z.2; omega⟩) rfl rfl p117hm3 (by rw [← hj.1]; exact p117bhc) p117bbhf (cuV_p (by omega)) rfl
              | exact zFs_n (zFs_n hF (fun q => by have z := ((cuV_k0 hij hj.2).mp q).2.2.2; rw [p96hv, p101hv] at p104hv; rw [← p104hv] at z; rcases p107hv with y | y; omega; exact y.2 z) rfl) (cuV_p (by omega)) rfl
              | exact zFs_n (zFs_n hF (fun q => by have z := (cuV_k0 hij hj.2).mp q; omega) rfl) (cuV_p (by omega)) rfl
          · refine And.intro (zRb rfl) (zbt rfl ?_)
            refine ⟨(1, 0, 0), [some (zvr (k)), some (zvi (a)), some (zvi (b)), some (zvr (104)), none, none, some (zvi ((1 : Int)))], ⟨rfl, rfl, rfl, rfl, rfl, rfl⟩, 1, rfl, rfl, rfl, rfl, rfl, rfl, (by omega), (by omega), ?_, (fun c j h0 h1 => rfl)⟩
            · first
              | (exfalso; omega)
              | exact zFs_v hG hl hF ((cuV_k0 hij hj.2).mpr ⟨by omega, by omega, by omega, by rw [p96hv, p101hv] at p104hv; rw [← p104hv]; rcases p107hv with z | z; exact z.2; omega⟩) rfl rfl p117hm3 (by rw [← hj.1]; exact p117bhc) p117bbhf (cuV_p (by omega)) rfl
              | exact zFs_n (zFs_n hF (fun q => by have z := ((cuV_k0 hij hj.2).mp q).2.2.2; rw [p96hv, p101hv] at p104hv; rw [← p104hv] at z; rcases p107hv with y | y; omega; exact y.2 z) rfl) (cuV_p (by omega)) rfl
              | exact zFs_n (zFs_n hF (fun q => by have z := (cuV_k0 hij hj.2).mp q; omega) rfl) (cuV_p (by omega)) rfl
      · refine And.intro (zRb rfl) (zbf rfl ?_)
        refine And.intro (zDX hD 0 rfl) ⟨_, sn_U_los.up (by decide), ?_⟩
        refine ⟨_, w, (a : Int), i, rfl, hS, hR, hD, (by first | exact hk | (clear hQ; grind [xu])), (by first | exact (zUw_fr hW (fun c j h => rfl)) | (clear hQ; grind [xu])), (by omega), (by first | exact hG | (clear hQ; grind [xu])), (by omega), ?_⟩
        intro v30o p30hv p30bhv2
        refine And.intro (zDX hD 0 rfl) ⟨_, sn_U_los.up (by decide), ?_⟩
        refine ⟨_, w, (b : Int), j, rfl, hS, hR, hD, (by first | exact hk | (clear hQ; grind [xu])), (by first | exact (zUw_fr hW (fun c j h => rfl)) | (clear hQ; grind [xu])), (by omega), (by first | exact hG | (clear hQ; grind [xu])), (by omega), ?_⟩
        intro v35o p35hv p35bhv2
        refine And.intro ⟨(by omega), (by omega)⟩ ⟨fun h38 => ?_, fun h38 => ?_⟩
        · refine And.intro (zDX hD 0 rfl) ⟨_, sn_U_cop.up (by decide), ?_⟩
          refine ⟨_, w, (a : Int), i, rfl, hS, hR, hD, (by first | exact hk | (clear hQ; grind [xu])), (by first | exact (zUw_fr hW (fun c j h => rfl)) | (clear hQ; grind [xu])), (by omega), (by first | exact hG | (clear hQ; grind [xu])), (by omega), ?_⟩
          intro v63o p63hv
          refine And.intro (by omega) ⟨fun h66 => ?_, fun h66 => ?_⟩
          · refine And.intro (zRb rfl) (zbt rfl ?_)
            refine ⟨(1, 0, 0), [some (zvr (k)), some (zvi (a)), some (zvi (b)), some (zvr (104)), none, none, some (zvi ((0 : Int)))], ⟨rfl, rfl, rfl, rfl, rfl, rfl⟩, 0, rfl, rfl, rfl, rfl, rfl, rfl, (by omega), (by omega), ?_, (fun c j h0 h1 => rfl)⟩
            · first
              | (exfalso; omega)
              | exact zFs_v hG hl hF ((cuV_k0 hij hj.2).mpr ⟨by omega, by omega, by omega, by rw [p96hv, p101hv] at p104hv; rw [← p104hv]; rcases p107hv with z | z; exact z.2; omega⟩) rfl rfl p117hm3 (by rw [← hj.1]; exact p117bhc) p117bbhf (cuV_p (by omega)) rfl
              | exact zFs_n (zFs_n hF (fun q => by have z := ((cuV_k0 hij hj.2).mp q).2.2.2; rw [p96hv, p101hv] at p104hv; rw [← p104hv] at z; rcases p107hv with y | y; omega; exact y.2 z) rfl) (cuV_p (by omega)) rfl
              | exact zFs_n (zFs_n hF (fun q => by have z := (cuV_k0 hij hj.2).mp q; omega) rfl) (cuV_p (by omega)) rfl
          · refine And.intro (zDX hD 0 rfl) ⟨_, sn_U_cop.up (by decide), ?_⟩
            refine ⟨_, w, (b : Int), j, rfl, hS, hR, hD, (by first | exact hk | (clear hQ; grind [xu])), (by first | exact (zUw_fr hW (fun c j h => rfl)) | (clear hQ; grind [xu])), (by omega), (by first | exact hG | (clear hQ; grind [xu])), (by omega), ?_⟩
            intro v71o p71hv
            refine And.intro (by omega) ⟨fun h74 => ?_, fun h74 => ?_⟩
            · refine And.intro (zRb rfl) (zbt rfl ?_)
              refine ⟨(1, 0, 0), [some (zvr (k)), some (zvi (a)), some (zvi (b)), some (zvr (104)), none, none, some (zvi ((0 : Int)))], ⟨rfl, rfl, rfl, rfl, rfl, rfl⟩, 0, rfl, rfl, rfl, rfl, rfl, rfl, (by omega), (by omega), ?_, (fun c j h0 h1 => rfl)⟩
              · first
                | (exfalso; omega)
                | exact zFs_v hG hl hF ((cuV_k0 hij hj.2).mpr ⟨by omega, by omega, by omega, by rw [p96hv, p101hv] at p104hv; rw [← p104hv]; rcases p107hv with z | z; exact z.2; omega⟩) rfl rfl p117hm3 (by rw [← hj.1]; exact p117bhc) p117bbhf (cuV_p (by omega)) rfl
                | exact zFs_n (zFs_n hF (fun q => by have z := ((cuV_k0 hij hj.2).mp q).2.2.2; rw [p96hv, p101hv] at p104hv; rw [← p104hv] at z; rcases p107hv with y | y; omega; exact y.2 z) rfl) (cuV_p (by omega)) rfl
                | exact zFs_n (zFs_n hF (fun q => by have z := (cuV_k0 hij hj.2).mp q; omega) rfl) (cuV_p (by omega)) rfl
            · refine And.intro (zRb rfl) (zbt rfl ?_)
              refine ⟨(1, 0, 0), [some (zvr (k)), some (zvi (a)), some (zvi (b)), some (zvr (104)), none, none, some (zvi ((1 : Int)))], ⟨rfl, rfl, rfl, rfl, rfl, rfl⟩, 1, rfl, rfl, rfl, rfl, rfl, rfl, (by omega), (by omega), ?_, (fun c j h0 h1 => rfl)⟩
              · first
                | (exfalso; omega)
                | exact zFs_v hG hl hF ((cuV_k0 hij hj.2).mpr ⟨by omega, by omega, by omega, by rw [p96hv, p101hv] at p104hv; rw [← p104hv]; rcases p107hv with z | z; exact z.2; omega⟩) rfl rfl p117hm3 (by rw [← hj.1]; exact p117bhc) p117bbhf (cuV_p (by omega)) rfl
                | exact zFs_n (zFs_n hF (fun q => by have z := ((cuV_k0 hij hj.2).mp q).2.2.2; rw [p96hv, p101hv] at p104hv; rw [← p104hv] at z; rcases p107hv with y | y; omega; exact y.2 z) rfl) (cuV_p (by omega)) rfl
                | exact zFs_n (zFs_n hF (fun q => by have z := (cuV_k0 hij hj.2).mp q; omega) rfl) (cuV_p (by omega)) rfl
        · refine And.intro (zDX hD 0 rfl) ⟨_, sn_U_nos.up (by decide), ?_⟩
          refine ⟨_, w, (a : Int), i, rfl, hS, hR, hD, (by first | exact hk | (clear hQ; grind [xu])), (by first | exact (zUw_fr hW (fun c j h => rfl)) | (clear hQ; grind [xu])), (by omega), (by first | exact hG | (clear hQ; grind [xu])), (by omega), ?_⟩
          intro v43o p43hv p43bhv2
          refine And.intro (zDX hD 0 rfl) ⟨_, sn_U_nos.up (by decide), ?_⟩
          refine ⟨_, w, (b : Int), j, rfl, hS, hR, hD, (by first | exact hk | (clear hQ; grind [xu])), (by first | exact (zUw_fr hW (fun c j h => rfl)) | (clear hQ; grind [xu])), (by omega), (by first | exact hG | (clear hQ; grind [xu])), (by omega), ?_⟩
          intro v48o p48hv p48bhv2
          refine And.intro ⟨(by omega), (by omega)⟩ ⟨fun h51 => ?_, fun h51 => ?_⟩
          · refine And.intro (zDX hD 0 rfl) ⟨_, sn_U_cop.up (by decide), ?_⟩
            refine ⟨_, w, (a : Int), i, rfl, hS, hR, hD, (by first | exact hk | (clear hQ; grind [xu])), (by first | exact (zUw_fr hW (fun c j h => rfl)) | (clear hQ; grind [xu])), (by omega), (by first | exact hG | (clear hQ; grind [xu])), (by omega), ?_⟩
            intro v63o p63hv
            refine And.intro (by omega) ⟨fun h66 => ?_, fun h66 => ?_⟩
            · refine And.intro (zRb rfl) (zbt rfl ?_)
              refine ⟨(1, 0, 0), [some (zvr (k)), some (zvi (a)), some (zvi (b)), some (zvr (104)), none, none, some (zvi ((0 : Int)))], ⟨rfl, rfl, rfl, rfl, rfl, rfl⟩, 0, rfl, rfl, rfl, rfl, rfl, rfl, (by omega), (by omega), ?_, (fun c j h0 h1 => rfl)⟩
              · first
                | (exfalso; omega)
                | exact zFs_v hG hl hF ((cuV_k0 hij hj.2).mpr ⟨by omega, by omega, by omega, by rw [p96hv, p101hv] at p104hv; rw [← p104hv]; rcases p107hv with z | z; exact z.2; omega⟩) rfl rfl p117hm3 (by rw [← hj.1]; exact p117bhc) p117bbhf (cuV_p (by omega)) rfl
                | exact zFs_n (zFs_n hF (fun q => by have z := ((cuV_k0 hij hj.2).mp q).2.2.2; rw [p96hv, p101hv] at p104hv; rw [← p104hv] at z; rcases p107hv with y | y; omega; exact y.2 z) rfl) (cuV_p (by omega)) rfl
                | exact zFs_n (zFs_n hF (fun q => by have z := (cuV_k0 hij hj.2).mp q; omega) rfl) (cuV_p (by omega)) rfl
            · refine And.intro (zDX hD 0 rfl) ⟨_, sn_U_cop.up (by decide), ?_⟩
              refine ⟨_, w, (b : Int), j, rfl, hS, hR, hD, (by first | exact hk | (clear hQ; grind [xu])), (by first | exact (zUw_fr hW (fun c j h => rfl)) | (clear hQ; grind [xu])), (by omega), (by first | exact hG | (clear hQ; grind [xu])), (by omega), ?_⟩
              intro v71o p71hv
              refine And.intro (by omega) ⟨fun h74 => ?_, fun h74 => ?_⟩
              · refine And.intro (zRb rfl) (zbt rfl ?_)
                refine ⟨(1, 0, 0), [some (zvr (k)), some (zvi (a)), some (zvi (b)), some (zvr (104)), none, none, some (zvi ((0 : Int)))], ⟨rfl, rfl, rfl, rfl, rfl, rfl⟩, 0, rfl, rfl, rfl, rfl, rfl, rfl, (by omega), (by omega), ?_, (fun c j h0 h1 => rfl)⟩
                · first
                  | (exfalso; omega)
                  | exact zFs_v hG hl hF ((cuV_k0 hij hj.2).mpr ⟨by omega, by omega, by omega, by rw [p96hv, p101hv] at p104hv; rw [← p104hv]; rcases p107hv with z | z; exact z.2; omega⟩) rfl rfl p117hm3 (by rw [← hj.1]; exact p117bhc) p117bbhf (cuV_p (by omega)) rfl
                  | exact zFs_n (zFs_n hF (fun q => by have z := ((cuV_k0 hij hj.2).mp q).2.2.2; rw [p96hv, p101hv] at p104hv; rw [← p104hv] at z; rcases p107hv with y | y; omega; exact y.2 z) rfl) (cuV_p (by omega)) rfl
                  | exact zFs_n (zFs_n hF (fun q => by have z := (cuV_k0 hij hj.2).mp q; omega) rfl) (cuV_p (by omega)) rfl
              · refine And.intro (zRb rfl) (zbt rfl ?_)
                refine ⟨(1, 0, 0), [some (zvr (k)), some (zvi (a)), some (zvi (b)), some (zvr (104)), none, none, some (zvi ((1 : Int)))], ⟨rfl, rfl, rfl, rfl, rfl, rfl⟩, 1, rfl, rfl, rfl, rfl, rfl, rfl, (by omega), (by omega), ?_, (fun c j h0 h1 => rfl)⟩
                · first
                  | (exfalso; omega)
                  | exact zFs_v hG hl hF ((cuV_k0 hij hj.2).mpr ⟨by omega, by omega, by omega, by rw [p96hv, p101hv] at p104hv; rw [← p104hv]; rcases p107hv with z | z; exact z.2; omega⟩) rfl rfl p117hm3 (by rw [← hj.1]; exact p117bhc) p117bbhf (cuV_p (by omega)) rfl
                  | exact zFs_n (zFs_n hF (fun q => by have z := ((cuV_k0 hij hj.2).mp q).2.2.2; rw [p96hv, p101hv] at p104hv; rw [← p104hv] at z; rcases p107hv with y | y; omega; exact y.2 z) rfl) (cuV_p (by omega)) rfl
                  | exact zFs_n (zFs_n hF (fun q => by have z := (cuV_k0 hij hj.2).mp q; omega) rfl) (cuV_p (by omega)) rfl
          · refine And.intro (zDX hD 0 rfl) ⟨_, sn_U_cop.up (by decide), ?_⟩
            refine ⟨_, w, (a : Int), i, rfl, hS, hR, hD, (by first | exact hk | (clear hQ; grind [xu])), (by first | exact (zUw_fr hW (fun c j h => rfl)) | (clear hQ; grind [xu])), (by omega), (by first | exact hG | (clear hQ; grind [xu])), (by omega), ?_⟩
            intro v63o p63hv
            refine And.intro (by omega) ⟨fun h66 => ?_, fun h66 => ?_⟩
            · refine And.intro (zRb rfl) (zbf rfl ?_)
              refine And.intro (zDX hD 0 rfl) ⟨_, sn_U_cls.up (by decide), ?_⟩
              refine ⟨_, w, (a : Int), i, rfl, hS, hR, hD, (by first | exact hk | (clear hQ; grind [xu])), (by first | exact (zUw_fr hW (fun c j h => rfl)) | (clear hQ; grind [xu])), (by omega), (by first | exact hG | (clear hQ; grind [xu])), (by omega), ?_⟩
              intro v96o p96hv p96bhv2
              refine And.intro (zDX hD 0 rfl) ⟨_, sn_U_cls.up (by decide), ?_⟩
              refine ⟨_, w, (b : Int), j, rfl, hS, hR, hD, (by first | exact hk | (clear hQ; grind [xu])), (by first | exact (zUw_fr hW (fun c j h => rfl)) | (clear hQ; grind [xu])), (by omega), (by first | exact hG | (clear hQ; grind [xu])), (by omega), ?_⟩
              intro v101o p101hv p101bhv2
              refine ⟨_, sn_U_val.up (by decide), ?_⟩
              refine ⟨nr, rf, 0, v96o, v101o, rfl, hS, hR, (by first | exact (zRT_fr hR1 (fun c j h => rfl)) | (clear hQ; grind [xu])), (by first | exact hRg | (clear hQ; grind [xu])), (by clear hQ; grind [xu]), ?_⟩
              intro v104o p104hv p104bhv2
              refine And.intro (zDX hD 0 rfl) ⟨_, sn_U_tnr.up (by decide), ?_⟩
              refine ⟨_, w, (a : Int), i, (b : Int), j, (v104o : Int), rfl, hS, hR, (zStf hT (fun c j h1 h2 => ⟨rfl, rfl⟩)), hD, (by first | exact hk | (clear hQ; grind [xu])), (by first | exact (zUw_fr hW (fun c j h => rfl)) | (clear hQ; grind [xu])), (by omega), (by first | exact hG | (clear hQ; grind [xu])), (by omega), (by omega), (by omega), ?_⟩
              intro u107o p107hv
              refine And.intro (by omega) ⟨fun h110 => ?_, fun h110 => ?_⟩
              · refine ⟨(1, 0, 0), [some (zvr (k)), some (zvi (a)), some (zvi (b)), some (zvr (104)), none, none, some (zvi ((0 : Int)))], ⟨rfl, rfl, rfl, rfl, rfl, rfl⟩, 0, rfl, rfl, rfl, rfl, rfl, rfl, (by omega), (by omega), ?_, (fun c j h0 h1 => rfl)⟩
                · first
                  | (exfalso; omega)
                  | exact zFs_v hG hl hF ((cuV_k0 hij hj.2).mpr ⟨by omega, by omega, by omega, by rw [p96hv, p101hv] at p104hv; rw [← p104hv]; rcases p107hv with z | z; exact z.2; omega⟩) rfl rfl p117hm3 (by rw [← hj.1]; exact p117bhc) p117bbhf (cuV_p (by omega)) rfl
                  | exact zFs_n (zFs_n hF (fun q => by have z := ((cuV_k0 hij hj.2).mp q).2.2.2; rw [p96hv, p101hv] at p104hv; rw [← p104hv] at z; rcases p107hv with y | y; omega; exact y.2 z) rfl) (cuV_p (by omega)) rfl
                  | exact zFs_n (zFs_n hF (fun q => by have z := (cuV_k0 hij hj.2).mp q; omega) rfl) (cuV_p (by omega)) rfl
              · refine And.intro (zDX hD 0 rfl) ⟨_, sn_U_adf.up (by decide), ?_⟩
                refine ⟨_, w, (0 : Int), (a : Int), i, (b : Int), (I k 11).toNat, rfl, hS, hR, hD, (by first | exact hk | (clear hQ; grind [xu])), (by first | exact (zUw_fr hW (fun c j h => rfl)) | (clear hQ; grind [xu])), (by omega), (by first | exact hG | (clear hQ; grind [xu])), (by omega), (by clear hQ; grind [xu]), (Int.toNat_of_nonneg hm0).symm, (by omega), ?_⟩
                intro I117o p117hm3 p117bhc p117bbhf p117bbbfr
                refine ⟨(1, 0, 0), [some (zvr (k)), some (zvi (a)), some (zvi (b)), some (zvr (104)), none, none, some (zvi ((0 : Int)))], ⟨rfl, rfl, rfl, rfl, rfl, rfl⟩, 0, rfl, rfl, rfl, rfl, rfl, rfl, (by omega), (by omega), ?_, (fun c j h0 h1 => ((p117bbbfr c j h0 h1).trans rfl))⟩
                · first
                  | (exfalso; omega)
                  | exact zFs_v hG hl hF ((cuV_k0 hij hj.2).mpr ⟨by omega, by omega, by omega, by rw [p96hv, p101hv] at p104hv; rw [← p104hv]; rcases p107hv with z | z; exact z.2; omega⟩) rfl rfl p117hm3 (by rw [← hj.1]; exact p117bhc) p117bbhf (cuV_p (by omega)) rfl
                  | exact zFs_n (zFs_n hF (fun q => by have z := ((cuV_k0 hij hj.2).mp q).2.2.2; rw [p96hv, p101hv] at p104hv; rw [← p104hv] at z; rcases p107hv with y | y; omega; exact y.2 z) rfl) (cuV_p (by omega)) rfl
                  | exact zFs_n (zFs_n hF (fun q => by have z := (cuV_k0 hij hj.2).mp q; omega) rfl) (cuV_p (by omega)) rfl
            · refine And.intro (zDX hD 0 rfl) ⟨_, sn_U_cop.up (by decide), ?_⟩
              refine ⟨_, w, (b : Int), j, rfl, hS, hR, hD, (by first | exact hk | (clear hQ; grind [xu])), (by first | exact (zUw_fr hW (fun c j h => rfl)) | (clear hQ; grind [xu])), (by omega), (by first | exact hG | (clear hQ; grind [xu])), (by omega), ?_⟩
              intro v71o p71hv
              refine And.intro (by omega) ⟨fun h74 => ?_, fun h74 => ?_⟩
              · refine And.intro (zRb rfl) (zbf rfl ?_)
                refine And.intro (zDX hD 0 rfl) ⟨_, sn_U_cls.up (by decide), ?_⟩
                refine ⟨_, w, (a : Int), i, rfl, hS, hR, hD, (by first | exact hk | (clear hQ; grind [xu])), (by first | exact (zUw_fr hW (fun c j h => rfl)) | (clear hQ; grind [xu])), (by omega), (by first | exact hG | (clear hQ; grind [xu])), (by omega), ?_⟩
                intro v96o p96hv p96bhv2
                refine And.intro (zDX hD 0 rfl) ⟨_, sn_U_cls.up (by decide), ?_⟩
                refine ⟨_, w, (b : Int), j, rfl, hS, hR, hD, (by first | exact hk | (clear hQ; grind [xu])), (by first | exact (zUw_fr hW (fun c j h => rfl)) | (clear hQ; grind [xu])), (by omega), (by first | exact hG | (clear hQ; grind [xu])), (by omega), ?_⟩
                intro v101o p101hv p101bhv2
                refine ⟨_, sn_U_val.up (by decide), ?_⟩
                refine ⟨nr, rf, 0, v96o, v101o, rfl, hS, hR, (by first | exact (zRT_fr hR1 (fun c j h => rfl)) | (clear hQ; grind [xu])), (by first | exact hRg | (clear hQ; grind [xu])), (by clear hQ; grind [xu]), ?_⟩
                intro v104o p104hv p104bhv2
                refine And.intro (zDX hD 0 rfl) ⟨_, sn_U_tnr.up (by decide), ?_⟩
                refine ⟨_, w, (a : Int), i, (b : Int), j, (v104o : Int), rfl, hS, hR, (zStf hT (fun c j h1 h2 => ⟨rfl, rfl⟩)), hD, (by first | exact hk | (clear hQ; grind [xu])), (by first | exact (zUw_fr hW (fun c j h => rfl)) | (clear hQ; grind [xu])), (by omega), (by first | exact hG | (clear hQ; grind [xu])), (by omega), (by omega), (by omega), ?_⟩
                intro u107o p107hv
                refine And.intro (by omega) ⟨fun h110 => ?_, fun h110 => ?_⟩
                · refine ⟨(1, 0, 0), [some (zvr (k)), some (zvi (a)), some (zvi (b)), some (zvr (104)), none, none, some (zvi ((0 : Int)))], ⟨rfl, rfl, rfl, rfl, rfl, rfl⟩, 0, rfl, rfl, rfl, rfl, rfl, rfl, (by omega), (by omega), ?_, (fun c j h0 h1 => rfl)⟩
                  · first
                    | (exfalso; omega)
                    | exact zFs_v hG hl hF ((cuV_k0 hij hj.2).mpr ⟨by omega, by omega, by omega, by rw [p96hv, p101hv] at p104hv; rw [← p104hv]; rcases p107hv with z | z; exact z.2; omega⟩) rfl rfl p117hm3 (by rw [← hj.1]; exact p117bhc) p117bbhf (cuV_p (by omega)) rfl
                    | exact zFs_n (zFs_n hF (fun q => by have z := ((cuV_k0 hij hj.2).mp q).2.2.2; rw [p96hv, p101hv] at p104hv; rw [← p104hv] at z; rcases p107hv with y | y; omega; exact y.2 z) rfl) (cuV_p (by omega)) rfl
                    | exact zFs_n (zFs_n hF (fun q => by have z := (cuV_k0 hij hj.2).mp q; omega) rfl) (cuV_p (by omega)) rfl
                · refine And.intro (zDX hD 0 rfl) ⟨_, sn_U_adf.up (by decide), ?_⟩
                  refine ⟨_, w, (0 : Int), (a : Int), i, (b : Int), (I k 11).toNat, rfl, hS, hR, hD, (by first | exact hk | (clear hQ; grind [xu])), (by first | exact (zUw_fr hW (fun c j h => rfl)) | (clear hQ; grind [xu])), (by omega), (by first | exact hG | (clear hQ; grind [xu])), (by omega), (by clear hQ; grind [xu]), (Int.toNat_of_nonneg hm0).symm, (by omega), ?_⟩
                  intro I117o p117hm3 p117bhc p117bbhf p117bbbfr
                  refine ⟨(1, 0, 0), [some (zvr (k)), some (zvi (a)), some (zvi (b)), some (zvr (104)), none, none, some (zvi ((0 : Int)))], ⟨rfl, rfl, rfl, rfl, rfl, rfl⟩, 0, rfl, rfl, rfl, rfl, rfl, rfl, (by omega), (by omega), ?_, (fun c j h0 h1 => ((p117bbbfr c j h0 h1).trans rfl))⟩
                  · first
                    | (exfalso; omega)
                    | exact zFs_v hG hl hF ((cuV_k0 hij hj.2).mpr ⟨by omega, by omega, by omega, by rw [p96hv, p101hv] at p104hv; rw [← p104hv]; rcases p107hv with z | z; exact z.2; omega⟩) rfl rfl p117hm3 (by rw [← hj.1]; exact p117bhc) p117bbhf (cuV_p (by omega)) rfl
                    | exact zFs_n (zFs_n hF (fun q => by have z := ((cuV_k0 hij hj.2).mp q).2.2.2; rw [p96hv, p101hv] at p104hv; rw [← p104hv] at z; rcases p107hv with y | y; omega; exact y.2 z) rfl) (cuV_p (by omega)) rfl
                    | exact zFs_n (zFs_n hF (fun q => by have z := (cuV_k0 hij hj.2).mp q; omega) rfl) (cuV_p (by omega)) rfl
              · refine And.intro (zRb rfl) (zbf rfl ?_)
                refine And.intro (zDX hD 0 rfl) ⟨_, sn_U_cls.up (by decide), ?_⟩
                refine ⟨_, w, (a : Int), i, rfl, hS, hR, hD, (by first | exact hk | (clear hQ; grind [xu])), (by first | exact (zUw_fr hW (fun c j h => rfl)) | (clear hQ; grind [xu])), (by omega), (by first | exact hG | (clear hQ; grind [xu])), (by omega), ?_⟩
                intro v96o p96hv p96bhv2
                refine And.intro (zDX hD 0 rfl) ⟨_, sn_U_cls.up (by decide), ?_⟩
                refine ⟨_, w, (b : Int), j, rfl, hS, hR, hD, (by first | exact hk | (clear hQ; grind [xu])), (by first | exact (zUw_fr hW (fun c j h => rfl)) | (clear hQ; grind [xu])), (by omega), (by first | exact hG | (clear hQ; grind [xu])), (by omega), ?_⟩
                intro v101o p101hv p101bhv2
                refine ⟨_, sn_U_val.up (by decide), ?_⟩
                refine ⟨nr, rf, 0, v96o, v101o, rfl, hS, hR, (by first | exact (zRT_fr hR1 (fun c j h => rfl)) | (clear hQ; grind [xu])), (by first | exact hRg | (clear hQ; grind [xu])), (by clear hQ; grind [xu]), ?_⟩
                intro v104o p104hv p104bhv2
                refine And.intro (zDX hD 0 rfl) ⟨_, sn_U_tnr.up (by decide), ?_⟩
                refine ⟨_, w, (a : Int), i, (b : Int), j, (v104o : Int), rfl, hS, hR, (zStf hT (fun c j h1 h2 => ⟨rfl, rfl⟩)), hD, (by first | exact hk | (clear hQ; grind [xu])), (by first | exact (zUw_fr hW (fun c j h => rfl)) | (clear hQ; grind [xu])), (by omega), (by first | exact hG | (clear hQ; grind [xu])), (by omega), (by omega), (by omega), ?_⟩
                intro u107o p107hv
                refine And.intro (by omega) ⟨fun h110 => ?_, fun h110 => ?_⟩
                · refine ⟨(1, 0, 0), [some (zvr (k)), some (zvi (a)), some (zvi (b)), some (zvr (104)), none, none, some (zvi ((1 : Int)))], ⟨rfl, rfl, rfl, rfl, rfl, rfl⟩, 1, rfl, rfl, rfl, rfl, rfl, rfl, (by omega), (by omega), ?_, (fun c j h0 h1 => rfl)⟩
                  · first
                    | (exfalso; omega)
                    | exact zFs_v hG hl hF ((cuV_k0 hij hj.2).mpr ⟨by omega, by omega, by omega, by rw [p96hv, p101hv] at p104hv; rw [← p104hv]; rcases p107hv with z | z; exact z.2; omega⟩) rfl rfl p117hm3 (by rw [← hj.1]; exact p117bhc) p117bbhf (cuV_p (by omega)) rfl
                    | exact zFs_n (zFs_n hF (fun q => by have z := ((cuV_k0 hij hj.2).mp q).2.2.2; rw [p96hv, p101hv] at p104hv; rw [← p104hv] at z; rcases p107hv with y | y; omega; exact y.2 z) rfl) (cuV_p (by omega)) rfl
                    | exact zFs_n (zFs_n hF (fun q => by have z := (cuV_k0 hij hj.2).mp q; omega) rfl) (cuV_p (by omega)) rfl
                · refine And.intro (zDX hD 0 rfl) ⟨_, sn_U_adf.up (by decide), ?_⟩
                  refine ⟨_, w, (0 : Int), (a : Int), i, (b : Int), (I k 11).toNat, rfl, hS, hR, hD, (by first | exact hk | (clear hQ; grind [xu])), (by first | exact (zUw_fr hW (fun c j h => rfl)) | (clear hQ; grind [xu])), (by omega), (by first | exact hG | (clear hQ; grind [xu])), (by omega), (by clear hQ; grind [xu]), (Int.toNat_of_nonneg hm0).symm, (by omega), ?_⟩
                  intro I117o p117hm3 p117bhc p117bbhf p117bbbfr
                  refine ⟨(1, 0, 0), [some (zvr (k)), some (zvi (a)), some (zvi (b)), some (zvr (104)), none, none, some (zvi ((1 : Int)))], ⟨rfl, rfl, rfl, rfl, rfl, rfl⟩, 1, rfl, rfl, rfl, rfl, rfl, rfl, (by omega), (by omega), ?_, (fun c j h0 h1 => ((p117bbbfr c j h0 h1).trans rfl))⟩
                  · first
                    | (exfalso; omega)
                    | exact zFs_v hG hl hF ((cuV_k0 hij hj.2).mpr ⟨by omega, by omega, by omega, by rw [p96hv, p101hv] at p104hv; rw [← p104hv]; rcases p107hv with z | z; exact z.2; omega⟩) rfl rfl p117hm3 (by rw [← hj.1]; exact p117bhc) p117bbhf (cuV_p (by omega)) rfl
                    | exact zFs_n (zFs_n hF (fun q => by have z := ((cuV_k0 hij hj.2).mp q).2.2.2; rw [p96hv, p101hv] at p104hv; rw [← p104hv] at z; rcases p107hv with y | y; omega; exact y.2 z) rfl) (cuV_p (by omega)) rfl
                    | exact zFs_n (zFs_n hF (fun q => by have z := (cuV_k0 hij hj.2).mp q; omega) rfl) (cuV_p (by omega)) rfl
  · rintro nM lsM stM I1 L1 R1 S1 hz1 ⟨u, rfl, rfl, rfl, rfl, rfl, rfl, hu, hp2, hF3, fr⟩
    have hp0 := hF3.1
    refine And.intro (by omega) ⟨fun h122 => ?_, fun h122 => ?_⟩
    · refine hQ _ (by clear hQ; grind [xu]) ?_ (fun c j h0 h1 => ((fr c j h0 h1).trans rfl))
      · first
        | exact zFs_n (zFs_v hG hl hF3 ((cuV_k2 hij hj.2).mpr ⟨by omega, by rw [p132hv, p137hv] at p140hv; rw [← p140hv]; rcases p143hv with z | z; exact z.2; omega⟩) rfl rfl p153hm3 (by rw [← hj.1]; exact p153bhc) p153bbhf (cuV_p (by omega)) rfl) (cuV_p (by omega)) rfl
        | exact zFs_n (zFs_n (zFs_n hF3 (fun q => by have z := ((cuV_k2 hij hj.2).mp q).2; rw [p132hv, p137hv] at p140hv; rw [← p140hv] at z; rcases p143hv with y | y; omega; exact y.2 z) rfl) (cuV_p (by omega)) rfl) (cuV_p (by omega)) rfl
        | exact zFs_n (zFs_n (zFs_n hF3 (fun q => by have z := (cuV_k2 hij hj.2).mp q; omega) rfl) (cuV_p (by omega)) rfl) (cuV_p (by omega)) rfl
    · refine And.intro (zDX hD 0 rfl) ⟨_, sn_U_cls.up (by decide), ?_⟩
      refine ⟨_, w, (a : Int), i, rfl, hS, hR, hD, (by first | exact hk | (clear hQ; grind [xu])), (by first | exact (zUw_fr hW (fun c j h => ((fr c j (by omega) (by omega)).trans rfl))) | (clear hQ; grind [xu])), (by omega), (by first | exact hG | (clear hQ; grind [xu])), (by omega), ?_⟩
      intro v132o p132hv p132bhv2
      refine And.intro (zDX hD 0 rfl) ⟨_, sn_U_cls.up (by decide), ?_⟩
      refine ⟨_, w, (b : Int), j, rfl, hS, hR, hD, (by first | exact hk | (clear hQ; grind [xu])), (by first | exact (zUw_fr hW (fun c j h => ((fr c j (by omega) (by omega)).trans rfl))) | (clear hQ; grind [xu])), (by omega), (by first | exact hG | (clear hQ; grind [xu])), (by omega), ?_⟩
      intro v137o p137hv p137bhv2
      refine ⟨_, sn_U_val.up (by decide), ?_⟩
      refine ⟨nr, rf, 2, v132o, v137o, rfl, hS, hR, (by first | exact (zRT_fr hR1 (fun c j h => ((fr c j (by omega) (by omega)).trans rfl))) | (clear hQ; grind [xu])), (by first | exact hRg | (clear hQ; grind [xu])), (by clear hQ; grind [xu]), ?_⟩
      intro v140o p140hv p140bhv2
      refine And.intro (zDX hD 0 rfl) ⟨_, sn_U_tnr.up (by decide), ?_⟩
      refine ⟨_, w, (a : Int), i, (b : Int), j, (v140o : Int), rfl, hS, hR, (zStf hT (fun c j h1 h2 => ⟨((fr c j (by omega) (by omega)).trans rfl), rfl⟩)), hD, (by first | exact hk | (clear hQ; grind [xu])), (by first | exact (zUw_fr hW (fun c j h => ((fr c j (by omega) (by omega)).trans rfl))) | (clear hQ; grind [xu])), (by omega), (by first | exact hG | (clear hQ; grind [xu])), (by omega), (by omega), (by omega), ?_⟩
      intro u143o p143hv
      refine And.intro (by omega) ⟨fun h146 => ?_, fun h146 => ?_⟩
      · refine hQ _ (by clear hQ; grind [xu]) ?_ (fun c j h0 h1 => ((fr c j h0 h1).trans rfl))
        · first
          | exact zFs_n (zFs_v hG hl hF3 ((cuV_k2 hij hj.2).mpr ⟨by omega, by rw [p132hv, p137hv] at p140hv; rw [← p140hv]; rcases p143hv with z | z; exact z.2; omega⟩) rfl rfl p153hm3 (by rw [← hj.1]; exact p153bhc) p153bbhf (cuV_p (by omega)) rfl) (cuV_p (by omega)) rfl
          | exact zFs_n (zFs_n (zFs_n hF3 (fun q => by have z := ((cuV_k2 hij hj.2).mp q).2; rw [p132hv, p137hv] at p140hv; rw [← p140hv] at z; rcases p143hv with y | y; omega; exact y.2 z) rfl) (cuV_p (by omega)) rfl) (cuV_p (by omega)) rfl
          | exact zFs_n (zFs_n (zFs_n hF3 (fun q => by have z := (cuV_k2 hij hj.2).mp q; omega) rfl) (cuV_p (by omega)) rfl) (cuV_p (by omega)) rfl
      · refine And.intro (zDX hD 0 rfl) ⟨_, sn_U_adf.up (by decide), ?_⟩
        refine ⟨_, w, (2 : Int), (a : Int), i, (b : Int), (I1 k 11).toNat, rfl, hS, hR, hD, (by first | exact hk | (clear hQ; grind [xu])), (by first | exact (zUw_fr hW (fun c j h => ((fr c j (by omega) (by omega)).trans rfl))) | (clear hQ; grind [xu])), (by omega), (by first | exact hG | (clear hQ; grind [xu])), (by omega), (by clear hQ; grind [xu]), (Int.toNat_of_nonneg hp0).symm, (by omega), ?_⟩
        intro I153o p153hm3 p153bhc p153bbhf p153bbbfr
        refine hQ _ (by clear hQ; grind [xu]) ?_ (fun c j h0 h1 => ((p153bbbfr c j h0 h1).trans ((fr c j h0 h1).trans rfl)))
        · first
          | exact zFs_n (zFs_v hG hl hF3 ((cuV_k2 hij hj.2).mpr ⟨by omega, by rw [p132hv, p137hv] at p140hv; rw [← p140hv]; rcases p143hv with z | z; exact z.2; omega⟩) rfl rfl p153hm3 (by rw [← hj.1]; exact p153bhc) p153bbhf (cuV_p (by omega)) rfl) (cuV_p (by omega)) rfl
          | exact zFs_n (zFs_n (zFs_n hF3 (fun q => by have z := ((cuV_k2 hij hj.2).mp q).2; rw [p132hv, p137hv] at p140hv; rw [← p140hv] at z; rcases p143hv with y | y; omega; exact y.2 z) rfl) (cuV_p (by omega)) rfl) (cuV_p (by omega)) rfl
          | exact zFs_n (zFs_n (zFs_n hF3 (fun q => by have z := (cuV_k2 hij hj.2).mp q; omega) rfl) (cuV_p (by omega)) rfl) (cuV_p (by omega)) rfl)
