/-! sto -/
def T_A_held : ZT := fun args I L R S Q => ∃ (b : Int) (s : StS) (a : Nat), args = [zvr 145, zvi b] ∧ (zSh S) ∧ (zRs R) ∧ (stG a s) ∧ (I 145 9 = sV s) ∧ (∀ v : Nat, v ≤ sV s → I 151 v = sC s v ∧ ∀ k : Nat, k < sC s v → I 150 (8 * v + k) = sR s v k) ∧ (0 ≤ b ∧ b ≤ 1000) ∧ ∀ (v : Int), ((v = 1 ∧ stHeld s b.toNat) ∨ (v = 0 ∧ ¬ stHeld s b.toNat)) → Q (some (zvi (v))) I L R S
theorem sn_A_held : ZSnd 1 10 11 T_A_held := ZSnd.loops (zT10_11 0) (by
  rintro args I L R S Q hz ⟨b, s, a, rfl, hS, hR, hG, hsv, hsc, hb0, hQ⟩
  obtain ⟨g1, g2, g3, g4⟩ := id hG
  refine ⟨[4, 15], fun nM tM lsM stM I1 L1 R1 S1 => match tM with
      | 4 => ∃ (u : Int) (r : Nat), nM = ((13 - r), 10, 0) ∧ lsM = [some (zvr (145)), some (zvi (b)), some (zvi (u)), some (zvi (r)), none] ∧ stM = [] ∧ I1 = I ∧ L1 = L ∧ R1 = R ∧ S1 = S ∧ (r ≤ sV s + 1) ∧ (u = 0 ∨ u = 1) ∧ (u = 1 → stHeld s b.toNat) ∧ (u = 0 → ∀ v k : Nat, v < r → k < sC s v → sR s v k ≠ b.toNat)
      | 15 => ∃ (u : Int) (r : Nat) (n : Nat), nM = ((13 - r), (9 - n), 0) ∧ lsM = [some (zvr (145)), some (zvi (b)), some (zvi (u)), some (zvi (r)), some (zvi (n))] ∧ stM = [] ∧ I1 = I ∧ L1 = L ∧ R1 = R ∧ S1 = S ∧ (r ≤ sV s) ∧ (n ≤ sC s r ∧ sC s r ≤ 8) ∧ (u = 0 ∨ u = 1) ∧ (u = 1 → stHeld s b.toNat) ∧ (u = 0 → (∀ v k : Nat, v < r → k < sC s v → sR s v k ≠ b.toNat) ∧ ∀ k : Nat, k < n → sR s r k ≠ b.toNat)
      | _ => False, rfl, ?_, ⟨?_, ?_, True.intro⟩⟩
  · refine ⟨((13 - (0 : Nat)), 10, 0), [some (zvr (145)), some (zvi (b)), some (zvi ((0 : Int))), some (zvi ((0 : Nat))), none], ⟨rfl, rfl, rfl, rfl, rfl⟩, 0, 0, rfl, rfl, rfl, rfl, rfl, rfl, rfl, (by omega), (Or.inl rfl), (fun h => absurd h (by decide)), (fun _ v k h => absurd h (Nat.not_lt_zero v))⟩
  · rintro nM lsM stM I1 L1 R1 S1 hz1 ⟨u, r, rfl, rfl, rfl, rfl, rfl, rfl, rfl, hr, hu0, hu1, hu2⟩
    refine And.intro (zA_145 hS) (zrd (v := (sV s)) hsv ?_)
    refine And.intro ⟨(by omega), (by omega)⟩ ⟨fun h9 => ?_, fun h9 => ?_⟩
    · refine And.intro (by omega) ?_
      refine hQ _ ?_
      · rcases hu0 with e | e
        · refine Or.inr ⟨e, ?_⟩
          rintro ⟨v, k, q1, q2, q3⟩
          exact hu2 e v k (by omega) q2 q3
        · exact Or.inl ⟨e, hu1 e⟩
    · refine ⟨((13 - r), (9 - (0 : Nat)), 0), zlt6 (by omega), [some (zvr (145)), some (zvi (b)), some (zvi (u)), some (zvi (r)), some (zvi ((0 : Nat)))], ⟨rfl, rfl, rfl, rfl, rfl, rfl⟩, u, r, 0, rfl, rfl, rfl, rfl, rfl, rfl, rfl, (by omega), ⟨Nat.zero_le _, (g3 r (by omega)).1⟩, (by first | exact hu0 | (clear hQ; grind [xu])), hu1, (fun h => ⟨hu2 h, fun k hk => absurd hk (Nat.not_lt_zero k)⟩)⟩
  · rintro nM lsM stM I1 L1 R1 S1 hz1 ⟨u, r, n, rfl, rfl, rfl, rfl, rfl, rfl, rfl, hr, hn, hu0, hu1, hu2⟩
    refine And.intro (zA_145 hS) (zrdR (v := some 151) (zR_145_7 hR) ?_)
    refine And.intro (zP_151 hS (by omega) (by omega)) (fun v22 e22 r22 => ?_)
    have f22 : v22 = sC s r := (e22.trans (hsc r (by omega)).1)
    have f22b : v22 ≤ 8 := (by have := (g3 r (by omega)).1; omega)
    refine And.intro ⟨(by omega), r22⟩ ⟨fun h23 => ?_, fun h23 => ?_⟩
    · refine ⟨((13 - (r + 1)), 10, 0), zlt6 (by omega), [some (zvr (145)), some (zvi (b)), some (zvi (u)), some (zvi ((r + 1))), none], ⟨rfl, rfl, rfl, rfl, rfl⟩, u, (r + 1), rfl, rfl, rfl, rfl, rfl, rfl, rfl, (by omega), (by first | exact hu0 | (clear hQ; grind [xu])), hu1, ?_⟩
      · intro h v k a1 a2
        by_cases e : v = r
        · subst e
          exact (hu2 h).2 k (by omega)
        · exact (hu2 h).1 v k (by omega) a2
    · refine And.intro (by omega) ⟨fun h27 => ?_, fun h27 => ?_⟩
      · refine ⟨((13 - r), (9 - (n + 1)), 0), zlt6 (by omega), [some (zvr (145)), some (zvi (b)), some (zvi ((1 : Int))), some (zvi (r)), some (zvi ((n + 1)))], ⟨rfl, rfl, rfl, rfl, rfl, rfl⟩, 1, r, (n + 1), rfl, rfl, rfl, rfl, rfl, rfl, rfl, (by omega), (by omega), (by first | exact Or.inl rfl | exact Or.inr rfl), (by first | exact (fun h => absurd h (by decide)) | exact (fun _ => hu1 (by omega)) | exact (fun _ => ⟨r, n, by omega, by omega, by omega⟩)), ?_⟩
        · intro h
          first
          | exact absurd h (by decide)
          | (refine ⟨(hu2 (by omega)).1, fun k hk => ?_⟩
             by_cases e : k = n
             · subst e
               omega
             · exact (hu2 (by omega)).2 k (by omega))
      · refine And.intro (zA_145 hS) (zrdR (v := some 150) (zR_145_6 hR) ?_)
        refine And.intro (zP_150 hS (by omega) (by omega)) (fun v41 e41 r41 => ?_)
        have f41 : v41 = sR s r n := (e41.trans ((congrArg (I1 150) (by omega)).trans ((hsc r (by omega)).2 n (by omega))))
        refine And.intro ⟨r41, (by omega)⟩ ⟨fun h43 => ?_, fun h43 => ?_⟩
        · refine ⟨((13 - r), (9 - (n + 1)), 0), zlt6 (by omega), [some (zvr (145)), some (zvi (b)), some (zvi ((0 : Int))), some (zvi (r)), some (zvi ((n + 1)))], ⟨rfl, rfl, rfl, rfl, rfl, rfl⟩, 0, r, (n + 1), rfl, rfl, rfl, rfl, rfl, rfl, rfl, (by omega), (by omega), (by first | exact Or.inl rfl | exact Or.inr rfl), (by first | exact (fun h => absurd h (by decide)) | exact (fun _ => hu1 (by omega)) | exact (fun _ => ⟨r, n, by omega, by omega, by omega⟩)), ?_⟩
          · intro h
            first
            | exact absurd h (by decide)
            | (refine ⟨(hu2 (by omega)).1, fun k hk => ?_⟩
               by_cases e : k = n
               · subst e
                 omega
               · exact (hu2 (by omega)).2 k (by omega))
        · refine ⟨((13 - r), (9 - (n + 1)), 0), zlt6 (by omega), [some (zvr (145)), some (zvi (b)), some (zvi ((1 : Int))), some (zvi (r)), some (zvi ((n + 1)))], ⟨rfl, rfl, rfl, rfl, rfl, rfl⟩, 1, r, (n + 1), rfl, rfl, rfl, rfl, rfl, rfl, rfl, (by omega), (by omega), (by first | exact Or.inl rfl | exact Or.inr rfl), (by first | exact (fun h => absurd h (by decide)) | exact (fun _ => hu1 (by omega)) | exact (fun _ => ⟨r, n, by omega, by omega, by omega⟩)), ?_⟩
          · intro h
            first
            | exact absurd h (by decide)
            | (refine ⟨(hu2 (by omega)).1, fun k hk => ?_⟩
               by_cases e : k = n
               · subst e
                 omega
               · exact (hu2 (by omega)).2 k (by omega)))
def T_A_swp : ZT := fun args I L R S Q => ∃ (s : StS) (a : Nat), args = [zvr 145] ∧ (zSh S) ∧ (zRs R) ∧ (stG a s) ∧ (zCS s I) ∧ ∀ (v : Int) (I' : ZI), (zCS (stSwp s) I') → (v = stSwN s (sB s)) → (∀ c j : Nat, ¬ c = 149 → I' c j = I c j) → Q (some (zvi (v))) I' L R S
theorem sn_A_swp : ZSnd 2 10 6 T_A_swp := ZSnd.loops (zT10_6 1) (by
  rintro args I L R S Q hz ⟨s, a, rfl, hS, hR, hG, hST, hQ⟩
  obtain ⟨g1, g2, g3, g4⟩ := id hG
  obtain ⟨hsb, hsv, hsl, hsc⟩ := id hST
  refine ⟨[4], fun nM tM lsM stM I1 L1 R1 S1 => match tM with
      | 4 => ∃ (x : Nat), nM = ((25 - x), 0, 0) ∧ lsM = [some (zvr (145)), some (zvi (stSwN s x)), some (zvi (x))] ∧ stM = [] ∧ L1 = L ∧ R1 = R ∧ S1 = S ∧ (x ≤ sB s) ∧ (∀ b : Nat, b < sB s → I1 149 b = if b < x then ((zite (stHeld s b) (sT s b) 0 : Nat) : Int) else sT s b) ∧ (∀ c j : Nat, ¬ c = 149 → I1 c j = I c j)
      | _ => False, rfl, ?_, ⟨?_, True.intro⟩⟩
  · refine ⟨((25 - (0 : Nat)), 0, 0), [some (zvr (145)), some (zvi (stSwN s (0 : Nat))), some (zvi ((0 : Nat)))], ⟨rfl, (congrArg (fun z => some (zvi z)) rfl), rfl, rfl⟩, 0, rfl, rfl, rfl, rfl, rfl, rfl, (by omega), (fun b hb => (hsl b hb).2.trans (if_neg (Nat.not_lt_zero b)).symm), (fun c j h0 => rfl)⟩
  · rintro nM lsM stM I1 L1 R1 S1 hz1 ⟨x, rfl, rfl, rfl, rfl, rfl, rfl, hx, hth, fr⟩
    have hsn := stSwN_le s x
    refine And.intro (zA_145 hS) (zrd (v := (sB s)) ((fr 145 5 (by omega)).trans hsb) ?_)
    refine And.intro ⟨(by omega), (by omega)⟩ ⟨fun h9 => ?_, fun h9 => ?_⟩
    · refine hQ _ _ (by obtain rfl : x = sB s := (by omega); exact ⟨(fr 145 5 (by omega)).trans hsb, (fr 145 9 (by omega)).trans hsv, fun b hb => ⟨(fr 148 _ (by omega)).trans (hsl b hb).1, (hth b hb).trans (if_pos hb)⟩, fun v hv => ⟨(fr 151 _ (by omega)).trans (hsc v hv).1, (fr 152 _ (by omega)).trans (hsc v hv).2.1, fun k hk => (fr 150 _ (by omega)).trans ((hsc v hv).2.2 k hk)⟩⟩) (by obtain rfl : x = sB s := (by omega); rfl) (fun c j h0 => ((fr c j (by omega)).trans rfl))
    · refine And.intro (zA_145 hS) (zrdR (v := some 149) (zR_145_4 hR) ?_)
      refine And.intro (Or.inr (zP_149 hS (by omega) (by omega))) (fun v17 e17 r17 => ?_)
      have f17 : v17 = sT s x := (e17.trans ((hth x (by omega)).trans (if_neg (Nat.lt_irrefl x))))
      have f17b : v17 ≤ 1 := (by have := (g4 x (by omega)).2.1; omega)
      refine And.intro r17 ⟨fun h18 => ?_, fun h18 => ?_⟩
      · refine ⟨((25 - (x + 1)), 0, 0), zlt6 (by omega), [some (zvr (145)), some (zvi (stSwN s (x + 1))), some (zvi ((x + 1)))], ⟨rfl, (congrArg (fun z => some (zvi z)) (by first
  | (have q : stSwN s (x + 1) = stSwN s x + 0 := by show stSwN s x + zite _ 1 0 = _; rw [zite_f (fun q => by have := q.1; omega)]
     rw [q]; rfl)
  | (rcases p23hv with w | w
     · have q : stSwN s (x + 1) = stSwN s x + 0 := by show stSwN s x + zite _ 1 0 = _; rw [zite_f (fun q => q.2 w.2)]
       rw [q]; rfl
     · exfalso; omega)
  | (rcases p23hv with w | w
     · exfalso; omega
     · have q : stSwN s (x + 1) = stSwN s x + 1 := by show stSwN s x + zite _ 1 0 = _; rw [zite_t ⟨by omega, w.2⟩]
       rw [q]; rfl))), rfl, rfl⟩, (x + 1), rfl, rfl, rfl, rfl, rfl, rfl, (by omega), ?_, (fun c j h0 => ((fr c j (by omega)).trans rfl))⟩
        · intro b hb
          have w0 := hth b hb
          first
          | (refine (show _ = I1 149 b from rfl).trans (w0.trans ?_)
             by_cases e : b = x
             · subst e
               rw [if_neg (Nat.lt_irrefl b), if_pos (Nat.lt_succ_self b)]
               have w := g4 b hb
               by_cases q : stHeld s b
               · rw [zite_t q]
               · rw [zite_f q]
                 first
                 | (show (sT s b : Int) = ((0 : Nat) : Int); omega)
                 | (exfalso; rcases p23hv with w9 | w9
                    · exact q w9.2
                    · omega)
             · by_cases e2 : b < x
               · rw [if_pos e2, if_pos (by omega)]
               · rw [if_neg e2, if_neg (by omega)])
          | (refine (show _ = xu I1 149 (x : Int).toNat 0 149 b from rfl).trans ?_
             by_cases e : b = x
             · subst e
               rw [if_pos (Nat.lt_succ_self b)]
               rcases p23hv with w9 | w9
               · exfalso; omega
               · rw [zite_f (show ¬ stHeld s b from w9.2)]
                 exact zxe
             · refine (zxs e w0).trans ?_
               by_cases e2 : b < x
               · rw [if_pos e2, if_pos (by omega)]
               · rw [if_neg e2, if_neg (by omega)])
      · refine And.intro (zA_145 hS) ⟨_, sn_A_held.up (by decide), ?_⟩
        refine ⟨(x : Int), s, a, rfl, hS, hR, (by first | exact hG | (clear hQ; grind [xu])), ((fr 145 9 (by omega)).trans hsv), (fun v hv => ⟨(fr 151 _ (by omega)).trans (hsc v hv).1, fun k hk => (fr 150 _ (by omega)).trans ((hsc v hv).2.2 k hk)⟩), (by omega), ?_⟩
        intro v23o p23hv
        refine And.intro (by omega) ⟨fun h26 => ?_, fun h26 => ?_⟩
        · refine ⟨((25 - (x + 1)), 0, 0), zlt6 (by omega), [some (zvr (145)), some (zvi (stSwN s (x + 1))), some (zvi ((x + 1)))], ⟨rfl, (congrArg (fun z => some (zvi z)) (by first
  | (have q : stSwN s (x + 1) = stSwN s x + 0 := by show stSwN s x + zite _ 1 0 = _; rw [zite_f (fun q => by have := q.1; omega)]
     rw [q]; rfl)
  | (rcases p23hv with w | w
     · have q : stSwN s (x + 1) = stSwN s x + 0 := by show stSwN s x + zite _ 1 0 = _; rw [zite_f (fun q => q.2 w.2)]
       rw [q]; rfl
     · exfalso; omega)
  | (rcases p23hv with w | w
     · exfalso; omega
     · have q : stSwN s (x + 1) = stSwN s x + 1 := by show stSwN s x + zite _ 1 0 = _; rw [zite_t ⟨by omega, w.2⟩]
       rw [q]; rfl))), rfl, rfl⟩, (x + 1), rfl, rfl, rfl, rfl, rfl, rfl, (by omega), ?_, (fun c j h0 => ((fr c j (by omega)).trans rfl))⟩
          · intro b hb
            have w0 := hth b hb
            first
            | (refine (show _ = I1 149 b from rfl).trans (w0.trans ?_)
               by_cases e : b = x
               · subst e
                 rw [if_neg (Nat.lt_irrefl b), if_pos (Nat.lt_succ_self b)]
                 have w := g4 b hb
                 by_cases q : stHeld s b
                 · rw [zite_t q]
                 · rw [zite_f q]
                   first
                   | (show (sT s b : Int) = ((0 : Nat) : Int); omega)
                   | (exfalso; rcases p23hv with w9 | w9
                      · exact q w9.2
                      · omega)
               · by_cases e2 : b < x
                 · rw [if_pos e2, if_pos (by omega)]
                 · rw [if_neg e2, if_neg (by omega)])
            | (refine (show _ = xu I1 149 (x : Int).toNat 0 149 b from rfl).trans ?_
               by_cases e : b = x
               · subst e
                 rw [if_pos (Nat.lt_succ_self b)]
                 rcases p23hv with w9 | w9
                 · exfalso; omega
                 · rw [zite_f (show ¬ stHeld s b from w9.2)]
                   exact zxe
               · refine (zxs e w0).trans ?_
                 by_cases e2 : b < x
                 · rw [if_pos e2, if_pos (by omega)]
                 · rw [if_neg e2, if_neg (by omega)])
        · refine And.intro (zA_145 hS) (zrdR (v := some 149) (zR_145_4 hR) ?_)
          refine And.intro ⟨(zx0 rfl), Or.inr ⟨(zP_149 hS (by omega) (by omega)), (Or.inl rfl)⟩⟩ ?_
          refine ⟨((25 - (x + 1)), 0, 0), zlt6 (by omega), [some (zvr (145)), some (zvi (stSwN s (x + 1))), some (zvi ((x + 1)))], ⟨rfl, (congrArg (fun z => some (zvi z)) (by first
  | (have q : stSwN s (x + 1) = stSwN s x + 0 := by show stSwN s x + zite _ 1 0 = _; rw [zite_f (fun q => by have := q.1; omega)]
     rw [q]; rfl)
  | (rcases p23hv with w | w
     · have q : stSwN s (x + 1) = stSwN s x + 0 := by show stSwN s x + zite _ 1 0 = _; rw [zite_f (fun q => q.2 w.2)]
       rw [q]; rfl
     · exfalso; omega)
  | (rcases p23hv with w | w
     · exfalso; omega
     · have q : stSwN s (x + 1) = stSwN s x + 1 := by show stSwN s x + zite _ 1 0 = _; rw [zite_t ⟨by omega, w.2⟩]
       rw [q]; rfl))), rfl, rfl⟩, (x + 1), rfl, rfl, rfl, rfl, rfl, rfl, (by omega), ?_, (fun c j h0 => (zxu h0 ((fr c j (by omega)).trans rfl)))⟩
          · intro b hb
            have w0 := hth b hb
            first
            | (refine (show _ = I1 149 b from rfl).trans (w0.trans ?_)
               by_cases e : b = x
               · subst e
                 rw [if_neg (Nat.lt_irrefl b), if_pos (Nat.lt_succ_self b)]
                 have w := g4 b hb
                 by_cases q : stHeld s b
                 · rw [zite_t q]
                 · rw [zite_f q]
                   first
                   | (show (sT s b : Int) = ((0 : Nat) : Int); omega)
                   | (exfalso; rcases p23hv with w9 | w9
                      · exact q w9.2
                      · omega)
               · by_cases e2 : b < x
                 · rw [if_pos e2, if_pos (by omega)]
                 · rw [if_neg e2, if_neg (by omega)])
            | (refine (show _ = xu I1 149 (x : Int).toNat 0 149 b from rfl).trans ?_
               by_cases e : b = x
               · subst e
                 rw [if_pos (Nat.lt_succ_self b)]
                 rcases p23hv with w9 | w9
                 · exfalso; omega
                 · rw [zite_f (show ¬ stHeld s b from w9.2)]
                   exact zxe
               · refine (zxs e w0).trans ?_
                 by_cases e2 : b < x
                 · rw [if_pos e2, if_pos (by omega)]
                 · rw [if_neg e2, if_neg (by omega)]))
def T_A_app : ZT := fun args I L R S Q => ∃ (b : Int) (k : Nat) (s : StS) (a : Nat), args = [zvr 145, zvi b] ∧ (zSh S) ∧ (zRs R) ∧ (stG a s) ∧ (zCS s I) ∧ (b = k) ∧ (k < sB s) ∧ (sC s (sV s) < 8) ∧ ∀ (I' : ZI), (zCS (stApp k s) I') → (∀ c j : Nat, ¬ c = 150 → ¬ c = 151 → I' c j = I c j) → Q none I' L R S
theorem sn_A_app : ZSnd 1 10 2 T_A_app := ZSnd.of (zT10_2 0) (by
  rintro args I L R S Q hz ⟨b, k, s, a, rfl, hS, hR, hG, hST, hk, hb, hc8, hQ⟩
  obtain ⟨g1, g2, g3, g4⟩ := id hG
  obtain ⟨hsb, hsv, hsl, hsc⟩ := id hST
  refine And.intro rfl ?_
  refine And.intro (zA_145 hS) (zrdR (v := some 151) (zR_145_7 hR) ?_)
  refine And.intro (zA_145 hS) (zrd (v := (sV s)) hsv ?_)
  refine And.intro (zP_151 hS (by omega) (by omega)) (fun v8 e8 r8 => ?_)
  have f8 : v8 = sC s (sV s) := (e8.trans (hsc (sV s) (by omega)).1)
  refine And.intro ⟨r8, (zRb rfl)⟩ ⟨(fun h13 => False.elim (by omega)), fun h13 => ?_⟩
  refine And.intro (zA_145 hS) (zrd (v := (sB s)) hsb ?_)
  refine And.intro ⟨(by omega), (by omega)⟩ ⟨(fun h21 => False.elim (by omega)), fun h21 => ?_⟩
  refine And.intro (zA_145 hS) (zrdR (v := some 150) (zR_145_6 hR) ?_)
  refine And.intro (zA_145 hS) (zrd (v := (sV s)) hsv ?_)
  refine And.intro ⟨(zx0 rfl), (zP_150 hS (by omega) (by omega))⟩ ⟨_, (zWi (by omega)), ?_⟩
  refine And.intro (zA_145 hS) (zrdR (v := some 151) (zR_145_7 hR) ?_)
  refine And.intro (zA_145 hS) (zrd (v := (sV s)) hsv ?_)
  refine And.intro ⟨(zx0 rfl), (zP_151 hS (by omega) (by omega))⟩ ⟨_, (zWi (by omega)), ?_⟩
  refine hQ _ ?_ (fun c j h0 h1 => (zxu h1 (zxu h0 rfl)))
  · refine zST_app hST (zxe.trans (by omega)) ?_ (fun v hv => (g3 v hv).1) (fun x j q => zxcj (by omega) (zxcj (by omega) rfl)) hc8
    rw [show 8 * sV s + sC s (sV s) = ((sV s : Int) * 8 + v8).toNat by omega]
    exact zxu (by decide) (zxe.trans hk))
def T_A_clo : ZT := fun args I L R S Q => ∃ (s : StS) (a : Nat), args = [zvr 145] ∧ (zSh S) ∧ (zRs R) ∧ (stG a s) ∧ (zCS s I) ∧ (sV s < 12) ∧ ∀ (I' : ZI), (zCS (stClo s) I') → (∀ c j : Nat, ¬ c = 151 → ¬ c = 152 → ¬ (c = 145 ∧ j = 9) → I' c j = I c j) → Q none I' L R S
theorem sn_A_clo : ZSnd 1 10 4 T_A_clo := ZSnd.of (zT10_4 0) (by
  rintro args I L R S Q hz ⟨s, a, rfl, hS, hR, hG, hST, hv12, hQ⟩
  obtain ⟨g1, g2, g3, g4⟩ := id hG
  obtain ⟨hsb, hsv, hsl, hsc⟩ := id hST
  refine And.intro rfl ?_
  refine And.intro (zA_145 hS) (zrd (v := (sV s)) hsv ?_)
  refine And.intro ⟨(by omega), (zRb rfl)⟩ ⟨(fun h6 => False.elim (by omega)), fun h6 => ?_⟩
  refine And.intro (zA_145 hS) (zrd (v := (sV s)) hsv ?_)
  refine And.intro (zA_145 hS) ⟨_, (zWi (by omega)), ?_⟩
  refine And.intro (zA_145 hS) (zrdR (v := some 151) (zR_145_7 hR) ?_)
  refine And.intro (zA_145 hS) (zrd (v := ((sV s) + 1)) rfl ?_)
  refine And.intro ⟨(zx0 rfl), (zP_151 hS (by omega) (by omega))⟩ ⟨_, (zWi (zRb rfl)), ?_⟩
  refine And.intro (zA_145 hS) (zrdR (v := some 152) (zR_145_8 hR) ?_)
  refine And.intro (zA_145 hS) (zrd (v := ((sV s) + 1)) rfl ?_)
  refine And.intro ⟨(zx0 rfl), Or.inr ⟨(zP_152 hS (by omega) (by omega)), (Or.inl rfl)⟩⟩ ?_
  refine hQ _ (zST_clo hST rfl (zxu (by decide) zxe) zxe (fun x j q => zxcj (by omega) (zxcj (by omega) (zxcj (by omega) rfl)))) (fun c j h0 h1 h2 => (zxu h1 (zxu h0 (zxcj h2 rfl)))))
def T_A_drp : ZT := fun args I L R S Q => ∃ (b : Int) (k : Nat) (s : StS) (a : Nat), args = [zvr 145, zvi b] ∧ (zSh S) ∧ (zRs R) ∧ (stG a s) ∧ (zCS s I) ∧ (b = k) ∧ (k < sV s) ∧ ∀ (I' : ZI), (zCS (stDrp k s) I') → (∀ c j : Nat, ¬ c = 151 → ¬ c = 152 → I' c j = I c j) → Q none I' L R S
theorem sn_A_drp : ZSnd 1 10 7 T_A_drp := ZSnd.of (zT10_7 0) (by
  rintro args I L R S Q hz ⟨b, k, s, a, rfl, hS, hR, hG, hST, hk, hb, hQ⟩
  obtain ⟨g1, g2, g3, g4⟩ := id hG
  obtain ⟨hsb, hsv, hsl, hsc⟩ := id hST
  refine And.intro rfl ?_
  refine And.intro (zA_145 hS) (zrd (v := (sV s)) hsv ?_)
  refine And.intro ⟨(by omega), (by omega)⟩ ⟨(fun h5 => False.elim (by omega)), fun h5 => ?_⟩
  refine And.intro (zA_145 hS) (zrdR (v := some 152) (zR_145_8 hR) ?_)
  refine And.intro ⟨(zx0 rfl), Or.inr ⟨(zP_152 hS (by omega) (by omega)), (Or.inr rfl)⟩⟩ ?_
  refine And.intro (zA_145 hS) (zrdR (v := some 151) (zR_145_7 hR) ?_)
  refine And.intro ⟨(zx0 rfl), (zP_151 hS (by omega) (by omega))⟩ ⟨_, (zWi (zRb rfl)), ?_⟩
  refine hQ _ ?_ (fun c j h0 h1 => (zxu h0 (zxu h1 rfl)))
  · obtain rfl : k = b.toNat := by omega
    exact zST_drp hST zxe (zxu (by decide) zxe) (fun x j q => zxcj (by omega) (zxcj (by omega) rfl)))
def T_A_nw : ZT := fun args I L R S Q => ∃ (f : Int) (l : Int) (a : Nat) (n : Nat) (s : StS) (g : Nat → Int), args = [zvr 145, zvi f, zvi l] ∧ (zSh S) ∧ (zRs R) ∧ (stG a s) ∧ (zCS s I) ∧ (zCY g s I) ∧ (∀ j : Nat, j < 400 → I 146 j = g j) ∧ (f = a + 2 ∧ l = n ∧ n ≤ 24 ∧ a + 2 + n ≤ 400) ∧ (sB s < 24) ∧ (sC s (sV s) < 8) ∧ ∀ (I' : ZI), (zCS (stApp (sB s) (stNw (a + 2) n s)) I') → (zCY g (stApp (sB s) (stNw (a + 2) n s)) I') → (∀ c j : Nat, ¬ c = 147 → ¬ c = 148 → ¬ c = 149 → ¬ c = 150 → ¬ c = 151 → ¬ (c = 145 ∧ j = 5) → I' c j = I c j) → Q none I' L R S
theorem sn_A_nw : ZSnd 2 10 0 T_A_nw := ZSnd.loops (zT10_0 1) (by
  rintro args I L R S Q hz ⟨f, l, a, n, s, g, rfl, hS, hR, hG, hST, hCY, hlg, hf, hb24, hc8, hQ⟩
  obtain ⟨g1, g2, g3, g4⟩ := id hG
  obtain ⟨hsb, hsv, hsl, hsc⟩ := id hST
  refine ⟨[21], fun nM tM lsM stM I1 L1 R1 S1 => match tM with
      | 21 => ∃ (x : Nat), nM = ((25 - x), 0, 0) ∧ lsM = [some (zvr (145)), some (zvi (f)), some (zvi (l)), some (zvi (sB s)), some (zvi (x))] ∧ stM = [] ∧ L1 = L ∧ R1 = R ∧ S1 = S ∧ (x ≤ n) ∧ (∀ j : Nat, j < x → I1 147 (24 * sB s + j) = g (a + 2 + j)) ∧ (∀ c j : Nat, ¬ (c = 147 ∧ 24 * sB s ≤ j) → I1 c j = I c j)
      | _ => False, rfl, ?_, ⟨?_, True.intro⟩⟩
  · refine And.intro (zA_145 hS) (zrd (v := (sB s)) hsb ?_)
    refine And.intro ⟨(by omega), (zRb rfl)⟩ ⟨(fun h8 => False.elim (by omega)), fun h8 => ?_⟩
    refine And.intro ⟨(by omega), (zRb rfl)⟩ ⟨fun h14 => ?_, (fun h14 => False.elim (by omega))⟩
    refine ⟨((25 - (0 : Nat)), 0, 0), [some (zvr (145)), some (zvi (f)), some (zvi (l)), some (zvi (sB s)), some (zvi ((0 : Nat)))], ⟨rfl, rfl, rfl, rfl, rfl, rfl⟩, 0, rfl, rfl, rfl, rfl, rfl, rfl, (by omega), (fun j h => absurd h (Nat.not_lt_zero j)), (fun c j h0 => rfl)⟩
  · rintro nM lsM stM I1 L1 R1 S1 hz1 ⟨x, rfl, rfl, rfl, rfl, rfl, rfl, hx, hby, fr⟩
    refine And.intro ⟨(by omega), (by omega)⟩ ⟨fun h24 => ?_, fun h24 => ?_⟩
    · refine And.intro (zA_145 hS) (zrdR (v := some 148) (zR_145_3 hR) ?_)
      refine And.intro ⟨(zx0 rfl), (zP_148 hS (by omega) (by omega))⟩ ⟨_, (zWi (by omega)), ?_⟩
      refine And.intro (zA_145 hS) (zrdR (v := some 149) (zR_145_4 hR) ?_)
      refine And.intro ⟨(zx0 rfl), Or.inr ⟨(zP_149 hS (by omega) (by omega)), (Or.inr rfl)⟩⟩ ?_
      refine And.intro (zA_145 hS) (zrd (v := (sB s)) ((fr 145 5 (by omega)).trans hsb) ?_)
      refine And.intro (zA_145 hS) ⟨_, (zWi (by omega)), ?_⟩
      refine And.intro (zA_145 hS) ⟨_, sn_A_app.up (by decide), ?_⟩
      refine ⟨((sB s) : Int), (sB s), (stNw (a + 2) n s), (a + 2 + n), rfl, hS, hR, (stG_nw hG hb24 (by omega)), (zST_nw hST rfl (zxu (by decide) (zxu (by decide) (zxe.trans (by omega)))) (zxu (by decide) zxe) (fun x j q => zxcj (by omega) (zxcj (by omega) (zxcj (by omega) (fr x j (by omega)))))), rfl, (Nat.lt_succ_self _), hc8, ?_⟩
      intro I80o p80hST2 p80bfr
      refine hQ _ p80hST2 ?_ (fun c j h0 h1 h2 h3 h4 h5 => ((p80bfr c j (by omega) (by omega)).trans (zxcj h5 (zxu h2 (zxu h1 ((fr c j (by omega)).trans rfl))))))
      · intro b i hb hi
        refine (p80bfr 147 _ (by omega) (by omega)).trans ?_
        refine (show _ = I1 147 (24 * b + i) from rfl).trans ?_
        have hi2 : i < upF (sL s) (sB s) n b := hi
        have hb2 : b < sB s + 1 := hb
        show _ = g (upF (sF s) (sB s) (a + 2) b + i)
        by_cases e : b = sB s
        · subst e
          rw [upF_at] at hi2
          rw [upF_at]
          exact hby i (by omega)
        · rw [upF_ne e] at hi2
          rw [upF_ne e]
          have w := g4 b (by omega)
          exact (fr 147 _ (by omega)).trans (hCY b i (by omega) hi2)
    · refine And.intro (zA_145 hS) (zrdR (v := some 147) (zR_145_2 hR) ?_)
      refine And.intro (zA_145 hS) (zrdR (v := some 146) (zR_145_0 hR) ?_)
      refine And.intro (zP_146 hS (by omega) (by omega)) (fun v46 e46 r46 => ?_)
      have f46 : v46 = g (a + 2 + x) := (e46.trans ((fr 146 _ (by omega)).trans ((congrArg (I 146) (by omega)).trans (hlg (a + 2 + x) (by omega)))))
      refine And.intro ⟨(zx0 rfl), (zP_147 hS (by omega) (by omega))⟩ ⟨_, (zWi r46), ?_⟩
      refine ⟨((25 - (x + 1)), 0, 0), zlt6 (by omega), [some (zvr (145)), some (zvi (f)), some (zvi (l)), some (zvi (sB s)), some (zvi ((x + 1)))], ⟨rfl, rfl, rfl, rfl, rfl, rfl⟩, (x + 1), rfl, rfl, rfl, rfl, rfl, rfl, (by omega), ?_, (fun c j h0 => (zxcj (by omega) ((fr c j (by omega)).trans rfl)))⟩
      · intro j hj
        by_cases h : j = x
        · subst h
          rw [show 24 * sB s + j = ((sB s : Int) * 24 + j).toNat by omega]
          exact zxe.trans f46
        · exact zxs (by omega) (hby j (by omega)))
def T_A_redo : ZT := fun args I L R S Q => ∃ (x : Int) (a : Nat) (s : StS) (g : Nat → Int) (z : Nat), args = [zvr 145, zvi x] ∧ (zSh S) ∧ (zRs R) ∧ (stG a s) ∧ (zCS s I) ∧ (zCY g s I) ∧ (∀ j : Nat, j < 400 → I 146 j = g j) ∧ (x = a) ∧ (I 145 1 = z) ∧ (stOk g a s) ∧ (a + stSz g a ≤ z ∧ z ≤ 400) ∧ ∀ (v : Int) (I' : ZI), (v = a + stSz g a) → (zCS (stAct g a s) I') → (zCY g (stAct g a s) I') → (∀ c j : Nat, ¬ c = 147 → ¬ c = 148 → ¬ c = 149 → ¬ c = 150 → ¬ c = 151 → ¬ c = 152 → ¬ (c = 145 ∧ j = 5) → ¬ (c = 145 ∧ j = 9) → I' c j = I c j) → Q (some (zvi (v))) I' L R S
theorem sn_A_redo : ZSnd 3 10 19 T_A_redo := ZSnd.of (zT10_19 2) (by
  rintro args I L R S Q hz ⟨x, a, s, g, z, rfl, hS, hR, hG, hST, hCY, hlg, hx, hzl, hok, hzz, hQ⟩
  obtain ⟨g1, g2, g3, g4⟩ := id hG
  obtain ⟨hsb, hsv, hsl, hsc⟩ := id hST
  have hsz : (g a = 1 ∧ stSz g a = 2 + (g (a + 1)).toNat) ∨ (g a = 2 ∧ stSz g a = 2) ∨ (g a = 3 ∧ stSz g a = 1) ∨ (g a = 4 ∧ stSz g a = 2) ∨ (g a = 5 ∧ stSz g a = 1) := stSz_k hok
  obtain ⟨ho1, ho2⟩ := id hok
  have ha1 := stSz_1 g a
  refine And.intro rfl ?_
  refine And.intro (zA_145 hS) (Exists.intro _ (And.intro (zinl_ok (zT10_17 1)) (And.intro rfl ?_)))
  refine And.intro (by omega) ⟨(fun h1_2 => False.elim (by omega)), fun h1_2 => ?_⟩
  refine And.intro (zA_145 hS) (zrd (v := z) hzl ?_)
  refine And.intro ⟨(by omega), (by omega)⟩ ⟨fun h9_2 => ?_, fun h9_2 => ?_⟩
  · refine And.intro (zA_145 hS) (zrdR (v := some 146) (zR_145_0 hR) ?_)
    refine And.intro (zP_146 hS (by omega) (by omega)) (fun v19_2 e19_2 r19_2 => ?_)
    have f19_2 : v19_2 = g a := (e19_2.trans ((congrArg (I 146) (by omega)).trans (hlg a (by omega))))
    refine And.intro r19_2 (And.intro (And.intro (fun h20_2 => ?_) (And.intro (fun h20_2 => ?_) (And.intro (fun h20_2 => ?_) (And.intro (fun h20_2 => ?_) (And.intro (fun h20_2 => ?_) True.intro))))) (fun h20_2 => ?_))
    · refine And.intro (zA_145 hS) (zrd (v := z) hzl ?_)
      refine And.intro ⟨(by omega), (by omega)⟩ ⟨fun h63_2 => ?_, fun h63_2 => ?_⟩
      · refine And.intro ⟨(zRb rfl), (zRb rfl)⟩ (zbt rfl ?_)
        refine hQ _ _ (by first | omega | (exfalso; omega)) ?_ ?_ (fun c j h0 h1 h2 h3 h4 h5 h6 h7 => rfl)
        · first
          | (have e : stAct g a s = stApp (sB s) (stNw (a + 2) (g (a + 1)).toNat s) := if_pos (by omega)
             rw [e]
             exact p72hST2)
          | (have e : stAct g a s = stApp (g (a + 1)).toNat s := (if_neg (by omega)).trans (if_pos (by omega))
             rw [e]
             exact p87hST2)
          | (have e : stAct g a s = stClo s := (if_neg (by omega)).trans ((if_neg (by omega)).trans (if_pos (by omega)))
             rw [e]
             exact p94hST2)
          | (have e : stAct g a s = stDrp (g (a + 1)).toNat s := (if_neg (by omega)).trans ((if_neg (by omega)).trans ((if_neg (by omega)).trans (if_pos (by omega))))
             rw [e]
             exact p109hST2)
          | (have e : stAct g a s = stSwp s := (if_neg (by omega)).trans ((if_neg (by omega)).trans ((if_neg (by omega)).trans (if_neg (by omega))))
             rw [e]
             exact p116hST2)
          | (exfalso; omega)
        · first
          | (have e : stAct g a s = stApp (sB s) (stNw (a + 2) (g (a + 1)).toNat s) := if_pos (by omega)
             rw [e]
             exact p72bhCY2)
          | (have e : stAct g a s = stApp (g (a + 1)).toNat s := (if_neg (by omega)).trans (if_pos (by omega))
             rw [e]
             exact (fun b i h1 h2 => (p87bfr 147 _ (by omega) (by omega)).trans (hCY b i h1 h2)))
          | (have e : stAct g a s = stClo s := (if_neg (by omega)).trans ((if_neg (by omega)).trans (if_pos (by omega)))
             rw [e]
             exact (fun b i h1 h2 => (p94bfr 147 _ (by omega) (by omega) (by omega)).trans (hCY b i h1 h2)))
          | (have e : stAct g a s = stDrp (g (a + 1)).toNat s := (if_neg (by omega)).trans ((if_neg (by omega)).trans ((if_neg (by omega)).trans (if_pos (by omega))))
             rw [e]
             exact (fun b i h1 h2 => (p109bfr 147 _ (by omega) (by omega)).trans (hCY b i h1 h2)))
          | (have e : stAct g a s = stSwp s := (if_neg (by omega)).trans ((if_neg (by omega)).trans ((if_neg (by omega)).trans (if_neg (by omega))))
             rw [e]
             exact (fun b i h1 h2 => (p116bbfr 147 _ (by omega)).trans (hCY b i h1 h2)))
          | (exfalso; omega)
      · refine And.intro (zA_145 hS) (zrdR (v := some 146) (zR_145_0 hR) ?_)
        refine And.intro (zP_146 hS (by omega) (by omega)) (fun v74_2 e74_2 r74_2 => ?_)
        have f74_2 : v74_2 = g (a + 1) := (e74_2.trans ((congrArg (I 146) (by omega)).trans (hlg (a + 1) (by omega))))
        refine And.intro ⟨(by omega), (zRb rfl)⟩ ⟨fun h8 => ?_, fun h8 => ?_⟩
        · refine hQ _ _ (by first | omega | (exfalso; omega)) ?_ ?_ (fun c j h0 h1 h2 h3 h4 h5 h6 h7 => rfl)
          · first
            | (have e : stAct g a s = stApp (sB s) (stNw (a + 2) (g (a + 1)).toNat s) := if_pos (by omega)
               rw [e]
               exact p72hST2)
            | (have e : stAct g a s = stApp (g (a + 1)).toNat s := (if_neg (by omega)).trans (if_pos (by omega))
               rw [e]
               exact p87hST2)
            | (have e : stAct g a s = stClo s := (if_neg (by omega)).trans ((if_neg (by omega)).trans (if_pos (by omega)))
               rw [e]
               exact p94hST2)
            | (have e : stAct g a s = stDrp (g (a + 1)).toNat s := (if_neg (by omega)).trans ((if_neg (by omega)).trans ((if_neg (by omega)).trans (if_pos (by omega))))
               rw [e]
               exact p109hST2)
            | (have e : stAct g a s = stSwp s := (if_neg (by omega)).trans ((if_neg (by omega)).trans ((if_neg (by omega)).trans (if_neg (by omega))))
               rw [e]
               exact p116hST2)
            | (exfalso; omega)
          · first
            | (have e : stAct g a s = stApp (sB s) (stNw (a + 2) (g (a + 1)).toNat s) := if_pos (by omega)
               rw [e]
               exact p72bhCY2)
            | (have e : stAct g a s = stApp (g (a + 1)).toNat s := (if_neg (by omega)).trans (if_pos (by omega))
               rw [e]
               exact (fun b i h1 h2 => (p87bfr 147 _ (by omega) (by omega)).trans (hCY b i h1 h2)))
            | (have e : stAct g a s = stClo s := (if_neg (by omega)).trans ((if_neg (by omega)).trans (if_pos (by omega)))
               rw [e]
               exact (fun b i h1 h2 => (p94bfr 147 _ (by omega) (by omega) (by omega)).trans (hCY b i h1 h2)))
            | (have e : stAct g a s = stDrp (g (a + 1)).toNat s := (if_neg (by omega)).trans ((if_neg (by omega)).trans ((if_neg (by omega)).trans (if_pos (by omega))))
               rw [e]
               exact (fun b i h1 h2 => (p109bfr 147 _ (by omega) (by omega)).trans (hCY b i h1 h2)))
            | (have e : stAct g a s = stSwp s := (if_neg (by omega)).trans ((if_neg (by omega)).trans ((if_neg (by omega)).trans (if_neg (by omega))))
               rw [e]
               exact (fun b i h1 h2 => (p116bbfr 147 _ (by omega)).trans (hCY b i h1 h2)))
            | (exfalso; omega)
        · refine And.intro (zA_145 hS) (zrd (v := z) hzl ?_)
          refine And.intro ⟨(by omega), (by omega)⟩ ⟨fun h18 => ?_, fun h18 => ?_⟩
          · refine And.intro (zA_145 hS) (zrdR (v := some 146) (zR_145_0 hR) ?_)
            refine And.intro (zP_146 hS (by omega) (by omega)) (fun v28 e28 r28 => ?_)
            have f28 : v28 = g a := (e28.trans ((congrArg (I 146) (by omega)).trans (hlg a (by omega))))
            refine And.intro r28 (And.intro (And.intro (fun h29 => ?_) (And.intro (fun h29 => False.elim (by omega)) (And.intro (fun h29 => False.elim (by omega)) (And.intro (fun h29 => False.elim (by omega)) True.intro)))) (fun h29 => False.elim (by omega)))
            refine And.intro (zA_145 hS) (zrdR (v := some 146) (zR_145_0 hR) ?_)
            refine And.intro (zP_146 hS (by omega) (by omega)) (fun v71 e71 r71 => ?_)
            have f71 : v71 = g (a + 1) := (e71.trans ((congrArg (I 146) (by omega)).trans (hlg (a + 1) (by omega))))
            refine And.intro (zA_145 hS) ⟨_, sn_A_nw.up (by decide), ?_⟩
            refine ⟨((x + 2) : Int), (v71 : Int), a, (g (a + 1)).toNat, s, g, rfl, hS, hR, (by first | exact hG | (clear hQ; grind [xu])), (by first | exact (zCS_fr hST (fun c j h => rfl)) | (clear hQ; grind [xu])), (by first | exact (zCY_fr hCY (fun c j h => rfl)) | (clear hQ; grind [xu])), (by first | exact hlg | exact (fun j h1 => rfl.trans (hlg j h1)) | (clear hQ; grind [xu])), (by omega), (by omega), (by omega), ?_⟩
            intro I72o p72hST2 p72bhCY2 p72bbfr
            refine hQ _ _ (by first | omega | (exfalso; omega)) ?_ ?_ (fun c j h0 h1 h2 h3 h4 h5 h6 h7 => ((p72bbfr c j (by omega) (by omega) (by omega) (by omega) (by omega) (by omega)).trans rfl))
            · first
              | (have e : stAct g a s = stApp (sB s) (stNw (a + 2) (g (a + 1)).toNat s) := if_pos (by omega)
                 rw [e]
                 exact p72hST2)
              | (have e : stAct g a s = stApp (g (a + 1)).toNat s := (if_neg (by omega)).trans (if_pos (by omega))
                 rw [e]
                 exact p87hST2)
              | (have e : stAct g a s = stClo s := (if_neg (by omega)).trans ((if_neg (by omega)).trans (if_pos (by omega)))
                 rw [e]
                 exact p94hST2)
              | (have e : stAct g a s = stDrp (g (a + 1)).toNat s := (if_neg (by omega)).trans ((if_neg (by omega)).trans ((if_neg (by omega)).trans (if_pos (by omega))))
                 rw [e]
                 exact p109hST2)
              | (have e : stAct g a s = stSwp s := (if_neg (by omega)).trans ((if_neg (by omega)).trans ((if_neg (by omega)).trans (if_neg (by omega))))
                 rw [e]
                 exact p116hST2)
              | (exfalso; omega)
            · first
              | (have e : stAct g a s = stApp (sB s) (stNw (a + 2) (g (a + 1)).toNat s) := if_pos (by omega)
                 rw [e]
                 exact p72bhCY2)
              | (have e : stAct g a s = stApp (g (a + 1)).toNat s := (if_neg (by omega)).trans (if_pos (by omega))
                 rw [e]
                 exact (fun b i h1 h2 => (p87bfr 147 _ (by omega) (by omega)).trans (hCY b i h1 h2)))
              | (have e : stAct g a s = stClo s := (if_neg (by omega)).trans ((if_neg (by omega)).trans (if_pos (by omega)))
                 rw [e]
                 exact (fun b i h1 h2 => (p94bfr 147 _ (by omega) (by omega) (by omega)).trans (hCY b i h1 h2)))
              | (have e : stAct g a s = stDrp (g (a + 1)).toNat s := (if_neg (by omega)).trans ((if_neg (by omega)).trans ((if_neg (by omega)).trans (if_pos (by omega))))
                 rw [e]
                 exact (fun b i h1 h2 => (p109bfr 147 _ (by omega) (by omega)).trans (hCY b i h1 h2)))
              | (have e : stAct g a s = stSwp s := (if_neg (by omega)).trans ((if_neg (by omega)).trans ((if_neg (by omega)).trans (if_neg (by omega))))
                 rw [e]
                 exact (fun b i h1 h2 => (p116bbfr 147 _ (by omega)).trans (hCY b i h1 h2)))
              | (exfalso; omega)
          · exact False.elim (by omega)
    · refine And.intro ⟨(zRb rfl), (zRb rfl)⟩ (zbf rfl ?_)
      refine And.intro (zA_145 hS) (zrd (v := z) hzl ?_)
      refine And.intro ⟨(by omega), (by omega)⟩ ⟨fun h18 => ?_, fun h18 => ?_⟩
      · refine And.intro (zA_145 hS) (zrdR (v := some 146) (zR_145_0 hR) ?_)
        refine And.intro (zP_146 hS (by omega) (by omega)) (fun v28 e28 r28 => ?_)
        have f28 : v28 = g a := (e28.trans ((congrArg (I 146) (by omega)).trans (hlg a (by omega))))
        refine And.intro r28 (And.intro (And.intro (fun h29 => False.elim (by omega)) (And.intro (fun h29 => ?_) (And.intro (fun h29 => False.elim (by omega)) (And.intro (fun h29 => False.elim (by omega)) True.intro)))) (fun h29 => False.elim (by omega)))
        refine And.intro (zA_145 hS) (zrdR (v := some 146) (zR_145_0 hR) ?_)
        refine And.intro (zP_146 hS (by omega) (by omega)) (fun v86 e86 r86 => ?_)
        have f86 : v86 = g (a + 1) := (e86.trans ((congrArg (I 146) (by omega)).trans (hlg (a + 1) (by omega))))
        refine And.intro (zA_145 hS) ⟨_, sn_A_app.up (by decide), ?_⟩
        refine ⟨(v86 : Int), (g (a + 1)).toNat, s, a, rfl, hS, hR, (by first | exact hG | (clear hQ; grind [xu])), (by first | exact (zCS_fr hST (fun c j h => rfl)) | (clear hQ; grind [xu])), (by omega), (by omega), (by omega), ?_⟩
        intro I87o p87hST2 p87bfr
        refine hQ _ _ (by first | omega | (exfalso; omega)) ?_ ?_ (fun c j h0 h1 h2 h3 h4 h5 h6 h7 => ((p87bfr c j (by omega) (by omega)).trans rfl))
        · first
          | (have e : stAct g a s = stApp (sB s) (stNw (a + 2) (g (a + 1)).toNat s) := if_pos (by omega)
             rw [e]
             exact p72hST2)
          | (have e : stAct g a s = stApp (g (a + 1)).toNat s := (if_neg (by omega)).trans (if_pos (by omega))
             rw [e]
             exact p87hST2)
          | (have e : stAct g a s = stClo s := (if_neg (by omega)).trans ((if_neg (by omega)).trans (if_pos (by omega)))
             rw [e]
             exact p94hST2)
          | (have e : stAct g a s = stDrp (g (a + 1)).toNat s := (if_neg (by omega)).trans ((if_neg (by omega)).trans ((if_neg (by omega)).trans (if_pos (by omega))))
             rw [e]
             exact p109hST2)
          | (have e : stAct g a s = stSwp s := (if_neg (by omega)).trans ((if_neg (by omega)).trans ((if_neg (by omega)).trans (if_neg (by omega))))
             rw [e]
             exact p116hST2)
          | (exfalso; omega)
        · first
          | (have e : stAct g a s = stApp (sB s) (stNw (a + 2) (g (a + 1)).toNat s) := if_pos (by omega)
             rw [e]
             exact p72bhCY2)
          | (have e : stAct g a s = stApp (g (a + 1)).toNat s := (if_neg (by omega)).trans (if_pos (by omega))
             rw [e]
             exact (fun b i h1 h2 => (p87bfr 147 _ (by omega) (by omega)).trans (hCY b i h1 h2)))
          | (have e : stAct g a s = stClo s := (if_neg (by omega)).trans ((if_neg (by omega)).trans (if_pos (by omega)))
             rw [e]
             exact (fun b i h1 h2 => (p94bfr 147 _ (by omega) (by omega) (by omega)).trans (hCY b i h1 h2)))
          | (have e : stAct g a s = stDrp (g (a + 1)).toNat s := (if_neg (by omega)).trans ((if_neg (by omega)).trans ((if_neg (by omega)).trans (if_pos (by omega))))
             rw [e]
             exact (fun b i h1 h2 => (p109bfr 147 _ (by omega) (by omega)).trans (hCY b i h1 h2)))
          | (have e : stAct g a s = stSwp s := (if_neg (by omega)).trans ((if_neg (by omega)).trans ((if_neg (by omega)).trans (if_neg (by omega))))
             rw [e]
             exact (fun b i h1 h2 => (p116bbfr 147 _ (by omega)).trans (hCY b i h1 h2)))
          | (exfalso; omega)
      · exact False.elim (by omega)
    · refine And.intro ⟨(zRb rfl), (zRb rfl)⟩ (zbf rfl ?_)
      refine And.intro (zA_145 hS) (zrd (v := z) hzl ?_)
      refine And.intro ⟨(by omega), (by omega)⟩ ⟨fun h18 => ?_, (fun h18 => False.elim (by omega))⟩
      refine And.intro (zA_145 hS) (zrdR (v := some 146) (zR_145_0 hR) ?_)
      refine And.intro (zP_146 hS (by omega) (by omega)) (fun v28 e28 r28 => ?_)
      have f28 : v28 = g a := (e28.trans ((congrArg (I 146) (by omega)).trans (hlg a (by omega))))
      refine And.intro r28 (And.intro (And.intro (fun h29 => False.elim (by omega)) (And.intro (fun h29 => False.elim (by omega)) (And.intro (fun h29 => ?_) (And.intro (fun h29 => False.elim (by omega)) True.intro)))) (fun h29 => False.elim (by omega)))
      refine And.intro (zA_145 hS) ⟨_, sn_A_clo.up (by decide), ?_⟩
      refine ⟨s, a, rfl, hS, hR, (by first | exact hG | (clear hQ; grind [xu])), (by first | exact (zCS_fr hST (fun c j h => rfl)) | (clear hQ; grind [xu])), (by omega), ?_⟩
      intro I94o p94hST2 p94bfr
      refine hQ _ _ (by first | omega | (exfalso; omega)) ?_ ?_ (fun c j h0 h1 h2 h3 h4 h5 h6 h7 => ((p94bfr c j (by omega) (by omega) (by omega)).trans rfl))
      · first
        | (have e : stAct g a s = stApp (sB s) (stNw (a + 2) (g (a + 1)).toNat s) := if_pos (by omega)
           rw [e]
           exact p72hST2)
        | (have e : stAct g a s = stApp (g (a + 1)).toNat s := (if_neg (by omega)).trans (if_pos (by omega))
           rw [e]
           exact p87hST2)
        | (have e : stAct g a s = stClo s := (if_neg (by omega)).trans ((if_neg (by omega)).trans (if_pos (by omega)))
           rw [e]
           exact p94hST2)
        | (have e : stAct g a s = stDrp (g (a + 1)).toNat s := (if_neg (by omega)).trans ((if_neg (by omega)).trans ((if_neg (by omega)).trans (if_pos (by omega))))
           rw [e]
           exact p109hST2)
        | (have e : stAct g a s = stSwp s := (if_neg (by omega)).trans ((if_neg (by omega)).trans ((if_neg (by omega)).trans (if_neg (by omega))))
           rw [e]
           exact p116hST2)
        | (exfalso; omega)
      · first
        | (have e : stAct g a s = stApp (sB s) (stNw (a + 2) (g (a + 1)).toNat s) := if_pos (by omega)
           rw [e]
           exact p72bhCY2)
        | (have e : stAct g a s = stApp (g (a + 1)).toNat s := (if_neg (by omega)).trans (if_pos (by omega))
           rw [e]
           exact (fun b i h1 h2 => (p87bfr 147 _ (by omega) (by omega)).trans (hCY b i h1 h2)))
        | (have e : stAct g a s = stClo s := (if_neg (by omega)).trans ((if_neg (by omega)).trans (if_pos (by omega)))
           rw [e]
           exact (fun b i h1 h2 => (p94bfr 147 _ (by omega) (by omega) (by omega)).trans (hCY b i h1 h2)))
        | (have e : stAct g a s = stDrp (g (a + 1)).toNat s := (if_neg (by omega)).trans ((if_neg (by omega)).trans ((if_neg (by omega)).trans (if_pos (by omega))))
           rw [e]
           exact (fun b i h1 h2 => (p109bfr 147 _ (by omega) (by omega)).trans (hCY b i h1 h2)))
        | (have e : stAct g a s = stSwp s := (if_neg (by omega)).trans ((if_neg (by omega)).trans ((if_neg (by omega)).trans (if_neg (by omega))))
           rw [e]
           exact (fun b i h1 h2 => (p116bbfr 147 _ (by omega)).trans (hCY b i h1 h2)))
        | (exfalso; omega)
    · refine And.intro ⟨(zRb rfl), (zRb rfl)⟩ (zbf rfl ?_)
      refine And.intro (zA_145 hS) (zrd (v := z) hzl ?_)
      refine And.intro ⟨(by omega), (by omega)⟩ ⟨fun h18 => ?_, fun h18 => ?_⟩
      · refine And.intro (zA_145 hS) (zrdR (v := some 146) (zR_145_0 hR) ?_)
        refine And.intro (zP_146 hS (by omega) (by omega)) (fun v28 e28 r28 => ?_)
        have f28 : v28 = g a := (e28.trans ((congrArg (I 146) (by omega)).trans (hlg a (by omega))))
        refine And.intro r28 (And.intro (And.intro (fun h29 => False.elim (by omega)) (And.intro (fun h29 => False.elim (by omega)) (And.intro (fun h29 => False.elim (by omega)) (And.intro (fun h29 => ?_) True.intro)))) (fun h29 => False.elim (by omega)))
        refine And.intro (zA_145 hS) (zrdR (v := some 146) (zR_145_0 hR) ?_)
        refine And.intro (zP_146 hS (by omega) (by omega)) (fun v108 e108 r108 => ?_)
        have f108 : v108 = g (a + 1) := (e108.trans ((congrArg (I 146) (by omega)).trans (hlg (a + 1) (by omega))))
        refine And.intro (zA_145 hS) ⟨_, sn_A_drp.up (by decide), ?_⟩
        refine ⟨(v108 : Int), (g (a + 1)).toNat, s, a, rfl, hS, hR, (by first | exact hG | (clear hQ; grind [xu])), (by first | exact (zCS_fr hST (fun c j h => rfl)) | (clear hQ; grind [xu])), (by omega), (by omega), ?_⟩
        intro I109o p109hST2 p109bfr
        refine hQ _ _ (by first | omega | (exfalso; omega)) ?_ ?_ (fun c j h0 h1 h2 h3 h4 h5 h6 h7 => ((p109bfr c j (by omega) (by omega)).trans rfl))
        · first
          | (have e : stAct g a s = stApp (sB s) (stNw (a + 2) (g (a + 1)).toNat s) := if_pos (by omega)
             rw [e]
             exact p72hST2)
          | (have e : stAct g a s = stApp (g (a + 1)).toNat s := (if_neg (by omega)).trans (if_pos (by omega))
             rw [e]
             exact p87hST2)
          | (have e : stAct g a s = stClo s := (if_neg (by omega)).trans ((if_neg (by omega)).trans (if_pos (by omega)))
             rw [e]
             exact p94hST2)
          | (have e : stAct g a s = stDrp (g (a + 1)).toNat s := (if_neg (by omega)).trans ((if_neg (by omega)).trans ((if_neg (by omega)).trans (if_pos (by omega))))
             rw [e]
             exact p109hST2)
          | (have e : stAct g a s = stSwp s := (if_neg (by omega)).trans ((if_neg (by omega)).trans ((if_neg (by omega)).trans (if_neg (by omega))))
             rw [e]
             exact p116hST2)
          | (exfalso; omega)
        · first
          | (have e : stAct g a s = stApp (sB s) (stNw (a + 2) (g (a + 1)).toNat s) := if_pos (by omega)
             rw [e]
             exact p72bhCY2)
          | (have e : stAct g a s = stApp (g (a + 1)).toNat s := (if_neg (by omega)).trans (if_pos (by omega))
             rw [e]
             exact (fun b i h1 h2 => (p87bfr 147 _ (by omega) (by omega)).trans (hCY b i h1 h2)))
          | (have e : stAct g a s = stClo s := (if_neg (by omega)).trans ((if_neg (by omega)).trans (if_pos (by omega)))
             rw [e]
             exact (fun b i h1 h2 => (p94bfr 147 _ (by omega) (by omega) (by omega)).trans (hCY b i h1 h2)))
          | (have e : stAct g a s = stDrp (g (a + 1)).toNat s := (if_neg (by omega)).trans ((if_neg (by omega)).trans ((if_neg (by omega)).trans (if_pos (by omega))))
             rw [e]
             exact (fun b i h1 h2 => (p109bfr 147 _ (by omega) (by omega)).trans (hCY b i h1 h2)))
          | (have e : stAct g a s = stSwp s := (if_neg (by omega)).trans ((if_neg (by omega)).trans ((if_neg (by omega)).trans (if_neg (by omega))))
             rw [e]
             exact (fun b i h1 h2 => (p116bbfr 147 _ (by omega)).trans (hCY b i h1 h2)))
          | (exfalso; omega)
      · exact False.elim (by omega)
    · refine And.intro ⟨(zRb rfl), (zRb rfl)⟩ (zbf rfl ?_)
      refine And.intro (zA_145 hS) (zrd (v := z) hzl ?_)
      refine And.intro ⟨(by omega), (by omega)⟩ ⟨fun h18 => ?_, (fun h18 => False.elim (by omega))⟩
      refine And.intro (zA_145 hS) (zrdR (v := some 146) (zR_145_0 hR) ?_)
      refine And.intro (zP_146 hS (by omega) (by omega)) (fun v28 e28 r28 => ?_)
      have f28 : v28 = g a := (e28.trans ((congrArg (I 146) (by omega)).trans (hlg a (by omega))))
      refine And.intro r28 (And.intro (And.intro (fun h29 => False.elim (by omega)) (And.intro (fun h29 => False.elim (by omega)) (And.intro (fun h29 => False.elim (by omega)) (And.intro (fun h29 => False.elim (by omega)) True.intro)))) (fun h29 => ?_))
      refine And.intro (zA_145 hS) ⟨_, sn_A_swp.up (by decide), ?_⟩
      refine ⟨s, a, rfl, hS, hR, (by first | exact hG | (clear hQ; grind [xu])), (by first | exact (zCS_fr hST (fun c j h => rfl)) | (clear hQ; grind [xu])), ?_⟩
      intro v116o I116o p116hST2 p116bhv p116bbfr
      refine hQ _ _ (by first | omega | (exfalso; omega)) ?_ ?_ (fun c j h0 h1 h2 h3 h4 h5 h6 h7 => ((p116bbfr c j (by omega)).trans rfl))
      · first
        | (have e : stAct g a s = stApp (sB s) (stNw (a + 2) (g (a + 1)).toNat s) := if_pos (by omega)
           rw [e]
           exact p72hST2)
        | (have e : stAct g a s = stApp (g (a + 1)).toNat s := (if_neg (by omega)).trans (if_pos (by omega))
           rw [e]
           exact p87hST2)
        | (have e : stAct g a s = stClo s := (if_neg (by omega)).trans ((if_neg (by omega)).trans (if_pos (by omega)))
           rw [e]
           exact p94hST2)
        | (have e : stAct g a s = stDrp (g (a + 1)).toNat s := (if_neg (by omega)).trans ((if_neg (by omega)).trans ((if_neg (by omega)).trans (if_pos (by omega))))
           rw [e]
           exact p109hST2)
        | (have e : stAct g a s = stSwp s := (if_neg (by omega)).trans ((if_neg (by omega)).trans ((if_neg (by omega)).trans (if_neg (by omega))))
           rw [e]
           exact p116hST2)
        | (exfalso; omega)
      · first
        | (have e : stAct g a s = stApp (sB s) (stNw (a + 2) (g (a + 1)).toNat s) := if_pos (by omega)
           rw [e]
           exact p72bhCY2)
        | (have e : stAct g a s = stApp (g (a + 1)).toNat s := (if_neg (by omega)).trans (if_pos (by omega))
           rw [e]
           exact (fun b i h1 h2 => (p87bfr 147 _ (by omega) (by omega)).trans (hCY b i h1 h2)))
        | (have e : stAct g a s = stClo s := (if_neg (by omega)).trans ((if_neg (by omega)).trans (if_pos (by omega)))
           rw [e]
           exact (fun b i h1 h2 => (p94bfr 147 _ (by omega) (by omega) (by omega)).trans (hCY b i h1 h2)))
        | (have e : stAct g a s = stDrp (g (a + 1)).toNat s := (if_neg (by omega)).trans ((if_neg (by omega)).trans ((if_neg (by omega)).trans (if_pos (by omega))))
           rw [e]
           exact (fun b i h1 h2 => (p109bfr 147 _ (by omega) (by omega)).trans (hCY b i h1 h2)))
        | (have e : stAct g a s = stSwp s := (if_neg (by omega)).trans ((if_neg (by omega)).trans ((if_neg (by omega)).trans (if_neg (by omega))))
           rw [e]
           exact (fun b i h1 h2 => (p116bbfr 147 _ (by omega)).trans (hCY b i h1 h2)))
        | (exfalso; omega)
    · refine And.intro ⟨(zRb rfl), (zRb rfl)⟩ (zbt rfl ?_)
      refine hQ _ _ (by first | omega | (exfalso; omega)) ?_ ?_ (fun c j h0 h1 h2 h3 h4 h5 h6 h7 => rfl)
      · first
        | (have e : stAct g a s = stApp (sB s) (stNw (a + 2) (g (a + 1)).toNat s) := if_pos (by omega)
           rw [e]
           exact p72hST2)
        | (have e : stAct g a s = stApp (g (a + 1)).toNat s := (if_neg (by omega)).trans (if_pos (by omega))
           rw [e]
           exact p87hST2)
        | (have e : stAct g a s = stClo s := (if_neg (by omega)).trans ((if_neg (by omega)).trans (if_pos (by omega)))
           rw [e]
           exact p94hST2)
        | (have e : stAct g a s = stDrp (g (a + 1)).toNat s := (if_neg (by omega)).trans ((if_neg (by omega)).trans ((if_neg (by omega)).trans (if_pos (by omega))))
           rw [e]
           exact p109hST2)
        | (have e : stAct g a s = stSwp s := (if_neg (by omega)).trans ((if_neg (by omega)).trans ((if_neg (by omega)).trans (if_neg (by omega))))
           rw [e]
           exact p116hST2)
        | (exfalso; omega)
      · first
        | (have e : stAct g a s = stApp (sB s) (stNw (a + 2) (g (a + 1)).toNat s) := if_pos (by omega)
           rw [e]
           exact p72bhCY2)
        | (have e : stAct g a s = stApp (g (a + 1)).toNat s := (if_neg (by omega)).trans (if_pos (by omega))
           rw [e]
           exact (fun b i h1 h2 => (p87bfr 147 _ (by omega) (by omega)).trans (hCY b i h1 h2)))
        | (have e : stAct g a s = stClo s := (if_neg (by omega)).trans ((if_neg (by omega)).trans (if_pos (by omega)))
           rw [e]
           exact (fun b i h1 h2 => (p94bfr 147 _ (by omega) (by omega) (by omega)).trans (hCY b i h1 h2)))
        | (have e : stAct g a s = stDrp (g (a + 1)).toNat s := (if_neg (by omega)).trans ((if_neg (by omega)).trans ((if_neg (by omega)).trans (if_pos (by omega))))
           rw [e]
           exact (fun b i h1 h2 => (p109bfr 147 _ (by omega) (by omega)).trans (hCY b i h1 h2)))
        | (have e : stAct g a s = stSwp s := (if_neg (by omega)).trans ((if_neg (by omega)).trans ((if_neg (by omega)).trans (if_neg (by omega))))
           rw [e]
           exact (fun b i h1 h2 => (p116bbfr 147 _ (by omega)).trans (hCY b i h1 h2)))
        | (exfalso; omega)
  · refine And.intro ⟨(zRb rfl), (zRb rfl)⟩ (zbt rfl ?_)
    refine hQ _ _ (by first | omega | (exfalso; omega)) ?_ ?_ (fun c j h0 h1 h2 h3 h4 h5 h6 h7 => rfl)
    · first
      | (have e : stAct g a s = stApp (sB s) (stNw (a + 2) (g (a + 1)).toNat s) := if_pos (by omega)
         rw [e]
         exact p72hST2)
      | (have e : stAct g a s = stApp (g (a + 1)).toNat s := (if_neg (by omega)).trans (if_pos (by omega))
         rw [e]
         exact p87hST2)
      | (have e : stAct g a s = stClo s := (if_neg (by omega)).trans ((if_neg (by omega)).trans (if_pos (by omega)))
         rw [e]
         exact p94hST2)
      | (have e : stAct g a s = stDrp (g (a + 1)).toNat s := (if_neg (by omega)).trans ((if_neg (by omega)).trans ((if_neg (by omega)).trans (if_pos (by omega))))
         rw [e]
         exact p109hST2)
      | (have e : stAct g a s = stSwp s := (if_neg (by omega)).trans ((if_neg (by omega)).trans ((if_neg (by omega)).trans (if_neg (by omega))))
         rw [e]
         exact p116hST2)
      | (exfalso; omega)
    · first
      | (have e : stAct g a s = stApp (sB s) (stNw (a + 2) (g (a + 1)).toNat s) := if_pos (by omega)
         rw [e]
         exact p72bhCY2)
      | (have e : stAct g a s = stApp (g (a + 1)).toNat s := (if_neg (by omega)).trans (if_pos (by omega))
         rw [e]
         exact (fun b i h1 h2 => (p87bfr 147 _ (by omega) (by omega)).trans (hCY b i h1 h2)))
      | (have e : stAct g a s = stClo s := (if_neg (by omega)).trans ((if_neg (by omega)).trans (if_pos (by omega)))
         rw [e]
         exact (fun b i h1 h2 => (p94bfr 147 _ (by omega) (by omega) (by omega)).trans (hCY b i h1 h2)))
      | (have e : stAct g a s = stDrp (g (a + 1)).toNat s := (if_neg (by omega)).trans ((if_neg (by omega)).trans ((if_neg (by omega)).trans (if_pos (by omega))))
         rw [e]
         exact (fun b i h1 h2 => (p109bfr 147 _ (by omega) (by omega)).trans (hCY b i h1 h2)))
      | (have e : stAct g a s = stSwp s := (if_neg (by omega)).trans ((if_neg (by omega)).trans ((if_neg (by omega)).trans (if_neg (by omega))))
         rw [e]
         exact (fun b i h1 h2 => (p116bbfr 147 _ (by omega)).trans (hCY b i h1 h2)))
      | (exfalso; omega))
