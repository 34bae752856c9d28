/-! stom -/
def T_B_held : ZT := fun args I L R S Q => ∃ (b : Int) (s : StS) (a : Nat), args = [zvr 268, zvi b] ∧ (zSh S) ∧ (zRs R) ∧ (stG a s) ∧ (I 268 15 = sV s) ∧ (∀ v : Nat, v ≤ sV s → I 277 v = sC s v ∧ ∀ k : Nat, k < sC s v → I 278 (8 * v + k) = sR s v k) ∧ (0 ≤ b ∧ b ≤ 1000) ∧ ∀ (v : Int), ((v = 1 ∧ stHeld s b.toNat) ∨ (v = 0 ∧ ¬ stHeld s b.toNat)) → Q (some (zvi (v))) I L R S
theorem sn_B_held : ZSnd 1 13 7 T_B_held := ZSnd.loops (zT13_7 0) (by
  rintro args I L R S Q hz ⟨b, s, a, rfl, hS, hR, hG, hsv, hsc, hb0, hQ⟩
  obtain ⟨g1, g2, g3, g4⟩ := id hG
  refine ⟨[4, 15], fun nM tM lsM stM I1 L1 R1 S1 => match tM with
      | 4 => ∃ (u : Int) (r : Nat), nM = ((13 - r), 10, 0) ∧ lsM = [some (zvr (268)), some (zvi (b)), some (zvi (u)), some (zvi (r)), none] ∧ stM = [] ∧ I1 = I ∧ L1 = L ∧ R1 = R ∧ S1 = S ∧ (r ≤ sV s + 1) ∧ (u = 0 ∨ u = 1) ∧ (u = 1 → stHeld s b.toNat) ∧ (u = 0 → ∀ v k : Nat, v < r → k < sC s v → sR s v k ≠ b.toNat)
      | 15 => ∃ (u : Int) (r : Nat) (n : Nat), nM = ((13 - r), (9 - n), 0) ∧ lsM = [some (zvr (268)), some (zvi (b)), some (zvi (u)), some (zvi (r)), some (zvi (n))] ∧ stM = [] ∧ I1 = I ∧ L1 = L ∧ R1 = R ∧ S1 = S ∧ (r ≤ sV s) ∧ (n ≤ sC s r ∧ sC s r ≤ 8) ∧ (u = 0 ∨ u = 1) ∧ (u = 1 → stHeld s b.toNat) ∧ (u = 0 → (∀ v k : Nat, v < r → k < sC s v → sR s v k ≠ b.toNat) ∧ ∀ k : Nat, k < n → sR s r k ≠ b.toNat)
      | _ => False, rfl, ?_, ⟨?_, ?_, True.intro⟩⟩
  · refine ⟨((13 - (0 : Nat)), 10, 0), [some (zvr (268)), some (zvi (b)), some (zvi ((0 : Int))), some (zvi ((0 : Nat))), none], ⟨rfl, rfl, rfl, rfl, rfl⟩, 0, 0, rfl, rfl, rfl, rfl, rfl, rfl, rfl, (by omega), (Or.inl rfl), (fun h => absurd h (by decide)), (fun _ v k h => absurd h (Nat.not_lt_zero v))⟩
  · rintro nM lsM stM I1 L1 R1 S1 hz1 ⟨u, r, rfl, rfl, rfl, rfl, rfl, rfl, rfl, hr, hu0, hu1, hu2⟩
    refine And.intro (zA_268 hS) (zrd (v := (sV s)) hsv ?_)
    refine And.intro ⟨(by omega), (by omega)⟩ ⟨fun h9 => ?_, fun h9 => ?_⟩
    · refine And.intro (by omega) ?_
      refine hQ _ ?_
      · rcases hu0 with e | e
        · refine Or.inr ⟨e, ?_⟩
          rintro ⟨v, k, q1, q2, q3⟩
          exact hu2 e v k (by omega) q2 q3
        · exact Or.inl ⟨e, hu1 e⟩
    · refine ⟨((13 - r), (9 - (0 : Nat)), 0), zlt6 (by omega), [some (zvr (268)), some (zvi (b)), some (zvi (u)), some (zvi (r)), some (zvi ((0 : Nat)))], ⟨rfl, rfl, rfl, rfl, rfl, rfl⟩, u, r, 0, rfl, rfl, rfl, rfl, rfl, rfl, rfl, (by omega), ⟨Nat.zero_le _, (g3 r (by omega)).1⟩, (by first | exact hu0 | (clear hQ; grind [xu])), hu1, (fun h => ⟨hu2 h, fun k hk => absurd hk (Nat.not_lt_zero k)⟩)⟩
  · rintro nM lsM stM I1 L1 R1 S1 hz1 ⟨u, r, n, rfl, rfl, rfl, rfl, rfl, rfl, rfl, hr, hn, hu0, hu1, hu2⟩
    refine And.intro (zA_268 hS) (zrdR (v := some 277) (zR_268_16 hR) ?_)
    refine And.intro (zP_277 hS (by omega) (by omega)) (fun v22 e22 r22 => ?_)
    have f22 : v22 = sC s r := (e22.trans (hsc r (by omega)).1)
    have f22b : v22 ≤ 8 := (by have := (g3 r (by omega)).1; omega)
    refine And.intro ⟨(by omega), r22⟩ ⟨fun h23 => ?_, fun h23 => ?_⟩
    · refine ⟨((13 - (r + 1)), 10, 0), zlt6 (by omega), [some (zvr (268)), some (zvi (b)), some (zvi (u)), some (zvi ((r + 1))), none], ⟨rfl, rfl, rfl, rfl, rfl⟩, u, (r + 1), rfl, rfl, rfl, rfl, rfl, rfl, rfl, (by omega), (by first | exact hu0 | (clear hQ; grind [xu])), hu1, ?_⟩
      · intro h v k a1 a2
        by_cases e : v = r
        · subst e
          exact (hu2 h).2 k (by omega)
        · exact (hu2 h).1 v k (by omega) a2
    · refine And.intro (by omega) ⟨fun h27 => ?_, fun h27 => ?_⟩
      · refine ⟨((13 - r), (9 - (n + 1)), 0), zlt6 (by omega), [some (zvr (268)), some (zvi (b)), some (zvi ((1 : Int))), some (zvi (r)), some (zvi ((n + 1)))], ⟨rfl, rfl, rfl, rfl, rfl, rfl⟩, 1, r, (n + 1), rfl, rfl, rfl, rfl, rfl, rfl, rfl, (by omega), (by omega), (by first | exact Or.inl rfl | exact Or.inr rfl), (by first | exact (fun h => absurd h (by decide)) | exact (fun _ => hu1 (by omega)) | exact (fun _ => ⟨r, n, by omega, by omega, by omega⟩)), ?_⟩
        · intro h
          first
          | exact absurd h (by decide)
          | (refine ⟨(hu2 (by omega)).1, fun k hk => ?_⟩
             by_cases e : k = n
             · subst e
               omega
             · exact (hu2 (by omega)).2 k (by omega))
      · refine And.intro (zA_268 hS) (zrdR (v := some 278) (zR_268_17 hR) ?_)
        refine And.intro (zP_278 hS (by omega) (by omega)) (fun v41 e41 r41 => ?_)
        have f41 : v41 = sR s r n := (e41.trans ((congrArg (I1 278) (by omega)).trans ((hsc r (by omega)).2 n (by omega))))
        refine And.intro ⟨r41, (by omega)⟩ ⟨fun h43 => ?_, fun h43 => ?_⟩
        · refine ⟨((13 - r), (9 - (n + 1)), 0), zlt6 (by omega), [some (zvr (268)), some (zvi (b)), some (zvi ((0 : Int))), some (zvi (r)), some (zvi ((n + 1)))], ⟨rfl, rfl, rfl, rfl, rfl, rfl⟩, 0, r, (n + 1), rfl, rfl, rfl, rfl, rfl, rfl, rfl, (by omega), (by omega), (by first | exact Or.inl rfl | exact Or.inr rfl), (by first | exact (fun h => absurd h (by decide)) | exact (fun _ => hu1 (by omega)) | exact (fun _ => ⟨r, n, by omega, by omega, by omega⟩)), ?_⟩
          · intro h
            first
            | exact absurd h (by decide)
            | (refine ⟨(hu2 (by omega)).1, fun k hk => ?_⟩
               by_cases e : k = n
               · subst e
                 omega
               · exact (hu2 (by omega)).2 k (by omega))
        · refine ⟨((13 - r), (9 - (n + 1)), 0), zlt6 (by omega), [some (zvr (268)), some (zvi (b)), some (zvi ((1 : Int))), some (zvi (r)), some (zvi ((n + 1)))], ⟨rfl, rfl, rfl, rfl, rfl, rfl⟩, 1, r, (n + 1), rfl, rfl, rfl, rfl, rfl, rfl, rfl, (by omega), (by omega), (by first | exact Or.inl rfl | exact Or.inr rfl), (by first | exact (fun h => absurd h (by decide)) | exact (fun _ => hu1 (by omega)) | exact (fun _ => ⟨r, n, by omega, by omega, by omega⟩)), ?_⟩
          · intro h
            first
            | exact absurd h (by decide)
            | (refine ⟨(hu2 (by omega)).1, fun k hk => ?_⟩
               by_cases e : k = n
               · subst e
                 omega
               · exact (hu2 (by omega)).2 k (by omega)))
def T_B_swp : ZT := fun args I L R S Q => ∃ (s : StS) (a : Nat), args = [zvr 268] ∧ (zSh S) ∧ (zRs R) ∧ (stG a s) ∧ (zMS s I) ∧ ∀ (I' : ZI), (zMS (stSwp s) I') → (I' 268 20 = stSwN s (sB s)) → (∀ c j : Nat, ¬ c = 276 → ¬ (c = 268 ∧ j = 20) → I' c j = I c j) → Q none I' L R S
theorem sn_B_swp : ZSnd 2 13 14 T_B_swp := ZSnd.loops (zT13_14 1) (by
  rintro args I L R S Q hz ⟨s, a, rfl, hS, hR, hG, hST, hQ⟩
  obtain ⟨g1, g2, g3, g4⟩ := id hG
  obtain ⟨hsb, hsv, hsl, hsc⟩ := id hST
  refine ⟨[7], fun nM tM lsM stM I1 L1 R1 S1 => match tM with
      | 7 => ∃ (x : Nat), nM = ((25 - x), 0, 0) ∧ lsM = [some (zvr (268)), some (zvi (x))] ∧ stM = [] ∧ L1 = L ∧ R1 = R ∧ S1 = S ∧ (x ≤ sB s) ∧ (∀ b : Nat, b < sB s → I1 276 b = if b < x then ((zite (stHeld s b) (sT s b) 0 : Nat) : Int) else sT s b) ∧ (I1 268 20 = stSwN s x) ∧ (∀ c j : Nat, ¬ c = 276 → ¬ (c = 268 ∧ j = 20) → I1 c j = I c j)
      | _ => False, rfl, ?_, ⟨?_, True.intro⟩⟩
  · refine And.intro (zA_268 hS) ⟨_, (zWi (zRb rfl)), ?_⟩
    refine ⟨((25 - (0 : Nat)), 0, 0), [some (zvr (268)), some (zvi ((0 : Nat)))], ⟨rfl, rfl, rfl⟩, 0, rfl, rfl, rfl, rfl, rfl, rfl, (by omega), (fun b hb => (hsl b hb).2.trans (if_neg (Nat.not_lt_zero b)).symm), rfl, (fun c j h0 h1 => (zxcj h1 rfl))⟩
  · rintro nM lsM stM I1 L1 R1 S1 hz1 ⟨x, rfl, rfl, rfl, rfl, rfl, rfl, hx, hth, hsw, fr⟩
    have hsn := stSwN_le s x
    refine And.intro (zA_268 hS) (zrd (v := (sB s)) ((fr 268 11 (by omega) (by omega)).trans hsb) ?_)
    refine And.intro ⟨(by omega), (by omega)⟩ ⟨fun h12 => ?_, fun h12 => ?_⟩
    · refine hQ _ (by obtain rfl : x = sB s := (by omega); exact ⟨(fr 268 11 (by omega) (by omega)).trans hsb, (fr 268 15 (by omega) (by omega)).trans hsv, fun b hb => ⟨(fr 275 _ (by omega) (by omega)).trans (hsl b hb).1, (hth b hb).trans (if_pos hb)⟩, fun v hv => ⟨(fr 277 _ (by omega) (by omega)).trans (hsc v hv).1, (fr 279 _ (by omega) (by omega)).trans (hsc v hv).2.1, fun k hk => (fr 278 _ (by omega) (by omega)).trans ((hsc v hv).2.2 k hk)⟩⟩) (by obtain rfl : x = sB s := (by omega); exact hsw) (fun c j h0 h1 => ((fr c j (by omega) (by omega)).trans rfl))
    · refine And.intro (zA_268 hS) (zrdR (v := some 276) (zR_268_14 hR) ?_)
      refine And.intro (Or.inr (zP_276 hS (by omega) (by omega))) (fun v20 e20 r20 => ?_)
      have f20 : v20 = sT s x := (e20.trans ((hth x (by omega)).trans (if_neg (Nat.lt_irrefl x))))
      have f20b : v20 ≤ 1 := (by have := (g4 x (by omega)).2.1; omega)
      refine And.intro r20 ⟨fun h21 => ?_, fun h21 => ?_⟩
      · refine ⟨((25 - (x + 1)), 0, 0), zlt6 (by omega), [some (zvr (268)), some (zvi ((x + 1)))], ⟨rfl, rfl, rfl⟩, (x + 1), rfl, rfl, rfl, rfl, rfl, rfl, (by omega), ?_, (by first
  | (have q : stSwN s (x + 1) = stSwN s x + 0 := by show stSwN s x + zite _ 1 0 = _; rw [zite_f (fun q => by have := q.1; omega)]
     rw [q]; exact (by first | exact hsw | rfl))
  | (rcases p26hv with w | w
     · have q : stSwN s (x + 1) = stSwN s x + 0 := by show stSwN s x + zite _ 1 0 = _; rw [zite_f (fun q => q.2 w.2)]
       rw [q]; exact (by first | exact hsw | rfl)
     · exfalso; omega)
  | (rcases p26hv with w | w
     · exfalso; omega
     · have q : stSwN s (x + 1) = stSwN s x + 1 := by show stSwN s x + zite _ 1 0 = _; rw [zite_t ⟨by omega, w.2⟩]
       rw [q]; exact (by first | exact hsw | rfl))), (fun c j h0 h1 => ((fr c j (by omega) (by omega)).trans rfl))⟩
        · intro b hb
          have w0 := hth b hb
          first
          | (refine (show _ = I1 276 b from rfl).trans (w0.trans ?_)
             by_cases e : b = x
             · subst e
               rw [if_neg (Nat.lt_irrefl b), if_pos (Nat.lt_succ_self b)]
               have w := g4 b hb
               by_cases q : stHeld s b
               · rw [zite_t q]
               · rw [zite_f q]
                 first
                 | (show (sT s b : Int) = ((0 : Nat) : Int); omega)
                 | (exfalso; rcases p26hv with w9 | w9
                    · exact q w9.2
                    · omega)
             · by_cases e2 : b < x
               · rw [if_pos e2, if_pos (by omega)]
               · rw [if_neg e2, if_neg (by omega)])
          | (refine (show _ = xu I1 276 (x : Int).toNat 0 276 b from rfl).trans ?_
             by_cases e : b = x
             · subst e
               rw [if_pos (Nat.lt_succ_self b)]
               rcases p26hv with w9 | w9
               · exfalso; omega
               · rw [zite_f (show ¬ stHeld s b from w9.2)]
                 exact zxe
             · refine (zxs e w0).trans ?_
               by_cases e2 : b < x
               · rw [if_pos e2, if_pos (by omega)]
               · rw [if_neg e2, if_neg (by omega)])
      · refine And.intro (zA_268 hS) ⟨_, sn_B_held.up (by decide), ?_⟩
        refine ⟨(x : Int), s, a, rfl, hS, hR, (by first | exact hG | (clear hQ; grind [xu])), ((fr 268 15 (by omega) (by omega)).trans hsv), (fun v hv => ⟨(fr 277 _ (by omega) (by omega)).trans (hsc v hv).1, fun k hk => (fr 278 _ (by omega) (by omega)).trans ((hsc v hv).2.2 k hk)⟩), (by omega), ?_⟩
        intro v26o p26hv
        refine And.intro (by omega) ⟨fun h29 => ?_, fun h29 => ?_⟩
        · refine And.intro (zA_268 hS) (zrdR (v := some 276) (zR_268_14 hR) ?_)
          refine And.intro ⟨(zx0 rfl), Or.inr ⟨(zP_276 hS (by omega) (by omega)), (Or.inl rfl)⟩⟩ ?_
          refine And.intro (zA_268 hS) (zrd (v := (stSwN s x)) hsw ?_)
          refine And.intro (zA_268 hS) ⟨_, (zWi (by omega)), ?_⟩
          refine ⟨((25 - (x + 1)), 0, 0), zlt6 (by omega), [some (zvr (268)), some (zvi ((x + 1)))], ⟨rfl, rfl, rfl⟩, (x + 1), rfl, rfl, rfl, rfl, rfl, rfl, (by omega), ?_, (by first
  | (have q : stSwN s (x + 1) = stSwN s x + 0 := by show stSwN s x + zite _ 1 0 = _; rw [zite_f (fun q => by have := q.1; omega)]
     rw [q]; exact (by first | exact hsw | rfl))
  | (rcases p26hv with w | w
     · have q : stSwN s (x + 1) = stSwN s x + 0 := by show stSwN s x + zite _ 1 0 = _; rw [zite_f (fun q => q.2 w.2)]
       rw [q]; exact (by first | exact hsw | rfl)
     · exfalso; omega)
  | (rcases p26hv with w | w
     · exfalso; omega
     · have q : stSwN s (x + 1) = stSwN s x + 1 := by show stSwN s x + zite _ 1 0 = _; rw [zite_t ⟨by omega, w.2⟩]
       rw [q]; exact (by first | exact hsw | rfl))), (fun c j h0 h1 => (zxcj h1 (zxu h0 ((fr c j (by omega) (by omega)).trans rfl))))⟩
          · intro b hb
            have w0 := hth b hb
            first
            | (refine (show _ = I1 276 b from rfl).trans (w0.trans ?_)
               by_cases e : b = x
               · subst e
                 rw [if_neg (Nat.lt_irrefl b), if_pos (Nat.lt_succ_self b)]
                 have w := g4 b hb
                 by_cases q : stHeld s b
                 · rw [zite_t q]
                 · rw [zite_f q]
                   first
                   | (show (sT s b : Int) = ((0 : Nat) : Int); omega)
                   | (exfalso; rcases p26hv with w9 | w9
                      · exact q w9.2
                      · omega)
               · by_cases e2 : b < x
                 · rw [if_pos e2, if_pos (by omega)]
                 · rw [if_neg e2, if_neg (by omega)])
            | (refine (show _ = xu I1 276 (x : Int).toNat 0 276 b from rfl).trans ?_
               by_cases e : b = x
               · subst e
                 rw [if_pos (Nat.lt_succ_self b)]
                 rcases p26hv with w9 | w9
                 · exfalso; omega
                 · rw [zite_f (show ¬ stHeld s b from w9.2)]
                   exact zxe
               · refine (zxs e w0).trans ?_
                 by_cases e2 : b < x
                 · rw [if_pos e2, if_pos (by omega)]
                 · rw [if_neg e2, if_neg (by omega)])
        · refine ⟨((25 - (x + 1)), 0, 0), zlt6 (by omega), [some (zvr (268)), some (zvi ((x + 1)))], ⟨rfl, rfl, rfl⟩, (x + 1), rfl, rfl, rfl, rfl, rfl, rfl, (by omega), ?_, (by first
  | (have q : stSwN s (x + 1) = stSwN s x + 0 := by show stSwN s x + zite _ 1 0 = _; rw [zite_f (fun q => by have := q.1; omega)]
     rw [q]; exact (by first | exact hsw | rfl))
  | (rcases p26hv with w | w
     · have q : stSwN s (x + 1) = stSwN s x + 0 := by show stSwN s x + zite _ 1 0 = _; rw [zite_f (fun q => q.2 w.2)]
       rw [q]; exact (by first | exact hsw | rfl)
     · exfalso; omega)
  | (rcases p26hv with w | w
     · exfalso; omega
     · have q : stSwN s (x + 1) = stSwN s x + 1 := by show stSwN s x + zite _ 1 0 = _; rw [zite_t ⟨by omega, w.2⟩]
       rw [q]; exact (by first | exact hsw | rfl))), (fun c j h0 h1 => ((fr c j (by omega) (by omega)).trans rfl))⟩
          · intro b hb
            have w0 := hth b hb
            first
            | (refine (show _ = I1 276 b from rfl).trans (w0.trans ?_)
               by_cases e : b = x
               · subst e
                 rw [if_neg (Nat.lt_irrefl b), if_pos (Nat.lt_succ_self b)]
                 have w := g4 b hb
                 by_cases q : stHeld s b
                 · rw [zite_t q]
                 · rw [zite_f q]
                   first
                   | (show (sT s b : Int) = ((0 : Nat) : Int); omega)
                   | (exfalso; rcases p26hv with w9 | w9
                      · exact q w9.2
                      · omega)
               · by_cases e2 : b < x
                 · rw [if_pos e2, if_pos (by omega)]
                 · rw [if_neg e2, if_neg (by omega)])
            | (refine (show _ = xu I1 276 (x : Int).toNat 0 276 b from rfl).trans ?_
               by_cases e : b = x
               · subst e
                 rw [if_pos (Nat.lt_succ_self b)]
                 rcases p26hv with w9 | w9
                 · exfalso; omega
                 · rw [zite_f (show ¬ stHeld s b from w9.2)]
                   exact zxe
               · refine (zxs e w0).trans ?_
                 by_cases e2 : b < x
                 · rw [if_pos e2, if_pos (by omega)]
                 · rw [if_neg e2, if_neg (by omega)]))
def T_B_app : ZT := fun args I L R S Q => ∃ (b : Int) (k : Nat) (s : StS) (a : Nat), args = [zvr 268, zvi b] ∧ (zSh S) ∧ (zRs R) ∧ (stG a s) ∧ (zMS s I) ∧ (b = k ∧ k < 24) ∧ (sC s (sV s) < 8) ∧ ∀ (I' : ZI), (zMS (stApp k s) I') → (∀ c j : Nat, ¬ c = 277 → ¬ c = 278 → I' c j = I c j) → Q none I' L R S
theorem sn_B_app : ZSnd 1 13 1 T_B_app := ZSnd.of (zT13_1 0) (by
  rintro args I L R S Q hz ⟨b, k, s, a, rfl, hS, hR, hG, hST, hk, hc8, hQ⟩
  obtain ⟨g1, g2, g3, g4⟩ := id hG
  obtain ⟨hsb, hsv, hsl, hsc⟩ := id hST
  refine And.intro rfl ?_
  refine And.intro (zA_268 hS) (zrdR (v := some 278) (zR_268_17 hR) ?_)
  refine And.intro (zA_268 hS) (zrd (v := (sV s)) hsv ?_)
  refine And.intro (zA_268 hS) (zrdR (v := some 277) (zR_268_16 hR) ?_)
  refine And.intro (zA_268 hS) (zrd (v := (sV s)) hsv ?_)
  refine And.intro (zP_277 hS (by omega) (by omega)) (fun v19 e19 r19 => ?_)
  have f19 : v19 = sC s (sV s) := (e19.trans (hsc (sV s) (by omega)).1)
  refine And.intro ⟨(zx0 rfl), (zP_278 hS (by omega) (by omega))⟩ ⟨_, (zWi (by omega)), ?_⟩
  refine And.intro (zA_268 hS) (zrdR (v := some 277) (zR_268_16 hR) ?_)
  refine And.intro (zA_268 hS) (zrd (v := (sV s)) hsv ?_)
  refine And.intro (zP_277 hS (by omega) (by omega)) (fun v32 e32 r32 => ?_)
  have f32 : v32 = sC s (sV s) := (e32.trans (hsc (sV s) (by omega)).1)
  refine And.intro ⟨(zx0 rfl), (zP_277 hS (by omega) (by omega))⟩ ⟨_, (zWi (by omega)), ?_⟩
  refine hQ _ ?_ (fun c j h0 h1 => (zxu h0 (zxu h1 rfl)))
  · refine zST_app hST (zxe.trans (by omega)) ?_ (fun v hv => (g3 v hv).1) (fun x j q => zxcj (by omega) (zxcj (by omega) rfl)) hc8
    rw [show 8 * sV s + sC s (sV s) = (8 * (sV s : Int) + v19).toNat by omega]
    exact zxu (by decide) (zxe.trans hk.1))
def T_B_size : ZT := fun args I L R S Q => ∃ (x : Int) (a : Nat) (s : StS) (g : Nat → Int) (z : Nat), args = [zvr 268, zvi x] ∧ (zSh S) ∧ (zRs R) ∧ (∀ j : Nat, j < 400 → I 270 j = g j) ∧ (x = a) ∧ (I 268 5 = z) ∧ (a < z ∧ z ≤ 400) ∧ (stOk g a s) ∧ ∀ (v : Int), ((v = stSz g a) ∨ (z ≤ a + 1 ∧ 1 < stSz g a ∧ v = 2)) → Q (some (zvi (v))) I L R S
theorem sn_B_size : ZSnd 1 13 12 T_B_size := ZSnd.of (zT13_12 0) (by
  rintro args I L R S Q hz ⟨x, a, s, g, z, rfl, hS, hR, hlg, hx, hzl, hz4, hok, hQ⟩
  have hsz : (g a = 1 ∧ stSz g a = 2 + (g (a + 1)).toNat) ∨ (g a = 2 ∧ stSz g a = 2) ∨ (g a = 3 ∧ stSz g a = 1) ∨ (g a = 4 ∧ stSz g a = 2) ∨ (g a = 5 ∧ stSz g a = 1) := stSz_k hok
  have hok2 := hok.1
  have hg1 : g a = 1 → 0 ≤ g (a + 1) ∧ g (a + 1) ≤ 24 := fun h => by rcases hok.2 with q | q | q | q | q <;> omega
  refine And.intro rfl ?_
  refine And.intro (zA_268 hS) (zrdR (v := some 270) (zR_268_6 hR) ?_)
  refine And.intro (zP_270 hS (by omega) (by omega)) (fun v5 e5 r5 => ?_)
  have f5 : v5 = g a := (e5.trans ((congrArg (I 270) (by omega)).trans (hlg a (by omega))))
  refine And.intro ⟨r5, (zRb rfl)⟩ ⟨fun h9 => ?_, fun h9 => ?_⟩
  · refine And.intro ⟨r5, (zRb rfl)⟩ ⟨fun h41 => ?_, fun h41 => ?_⟩
    · refine hQ _ (by omega)
    · refine And.intro ⟨r5, (zRb rfl)⟩ ⟨fun h46 => ?_, fun h46 => ?_⟩
      · refine hQ _ (by omega)
      · refine hQ _ (by omega)
  · refine And.intro (zA_268 hS) (zrd (v := z) hzl ?_)
    refine And.intro ⟨(by omega), (by omega)⟩ ⟨fun h19 => ?_, fun h19 => ?_⟩
    · refine hQ _ (by omega)
    · refine And.intro (zA_268 hS) (zrdR (v := some 270) (zR_268_6 hR) ?_)
      refine And.intro (zP_270 hS (by omega) (by omega)) (fun v30 e30 r30 => ?_)
      have f30 : v30 = g (a + 1) := (e30.trans ((congrArg (I 270) (by omega)).trans (hlg (a + 1) (by omega))))
      refine hQ _ (by omega))
def T_B_act : ZT := fun args I L R S Q => ∃ (x : Int) (a : Nat) (s : StS) (g : Nat → Int), args = [zvr 268, zvi x] ∧ (zSh S) ∧ (zRs R) ∧ (stG a s) ∧ (zMS s I) ∧ (zMF s I) ∧ (∀ j : Nat, j < 400 → I 270 j = g j) ∧ (x = a) ∧ (stOk g a s) ∧ ∀ (I' : ZI), (zMS (stAct g a s) I') → (zMF (stAct g a s) I') → (∀ c j : Nat, ¬ c = 274 → ¬ c = 275 → ¬ c = 276 → ¬ c = 277 → ¬ c = 278 → ¬ c = 279 → ¬ (c = 268 ∧ j = 11) → ¬ (c = 268 ∧ j = 15) → ¬ (c = 268 ∧ j = 20) → I' c j = I c j) → Q none I' L R S
theorem sn_B_act : ZSnd 3 13 0 T_B_act := ZSnd.of (zT13_0 2) (by
  rintro args I L R S Q hz ⟨x, a, s, g, rfl, hS, hR, hG, hST, hMF, hlg, hx, hok, hQ⟩
  obtain ⟨g1, g2, g3, g4⟩ := id hG
  obtain ⟨hsb, hsv, hsl, hsc⟩ := id hST
  have hsz : (g a = 1 ∧ stSz g a = 2 + (g (a + 1)).toNat) ∨ (g a = 2 ∧ stSz g a = 2) ∨ (g a = 3 ∧ stSz g a = 1) ∨ (g a = 4 ∧ stSz g a = 2) ∨ (g a = 5 ∧ stSz g a = 1) := stSz_k hok
  obtain ⟨ho1, ho2⟩ := id hok
  have ha1 := stSz_1 g a
  refine And.intro rfl ?_
  refine And.intro (zA_268 hS) (zrdR (v := some 270) (zR_268_6 hR) ?_)
  refine And.intro (zP_270 hS (by omega) (by omega)) (fun v5 e5 r5 => ?_)
  have f5 : v5 = g a := (e5.trans ((congrArg (I 270) (by omega)).trans (hlg a (by omega))))
  refine And.intro ⟨r5, (zRb rfl)⟩ ⟨fun h9 => ?_, fun h9 => ?_⟩
  · refine And.intro ⟨r5, (zRb rfl)⟩ ⟨fun h74 => ?_, fun h74 => ?_⟩
    · refine And.intro ⟨r5, (zRb rfl)⟩ ⟨fun h94 => ?_, fun h94 => ?_⟩
      · refine And.intro ⟨r5, (zRb rfl)⟩ ⟨fun h132 => ?_, fun h132 => ?_⟩
        · refine And.intro (zA_268 hS) ⟨_, sn_B_swp.up (by decide), ?_⟩
          refine ⟨s, a, rfl, hS, hR, hG, hST, ?_⟩
          intro I167o p167hST2 p167bhv p167bbfr
          refine hQ _ ?_ ?_ (fun c j h0 h1 h2 h3 h4 h5 h6 h7 h8 => ((p167bbfr c j (by omega) (by omega)).trans rfl))
          · first
            | (rw [stAct_5 (by omega)]
               exact p167hST2)
            | (rw [stAct_4 (by omega)]
               obtain ⟨k, hk⟩ : ∃ k, k = (g (a + 1)).toNat := ⟨_, rfl⟩
               rw [← hk]
               obtain rfl : k = v146.toNat := by omega
               exact zST_drp hST (by rw [show v146 = v160 by omega]; exact zxe) (zxu (by decide) zxe) (fun x j q => zxcj (by omega) (zxcj (by omega) rfl)))
            | (rw [stAct_3 (by omega)]
               exact zST_clo hST rfl (zxu (by decide) zxe) zxe (fun x j q => zxcj (by omega) (zxcj (by omega) (zxcj (by omega) rfl))))
            | (rw [stAct_2 (by omega)]
               exact p86hST2)
            | (rw [stAct_1 (by omega)]
               exact zST_nw (a := a + 2) (n := (g (a + 1)).toNat) p56hST2 rfl ((p56bfr 275 _ (by omega) (by omega)).trans (zxu (by decide) (zxe.trans (by omega)))) ((p56bfr 276 _ (by omega) (by omega)).trans zxe) (fun x j q => zxcj (by omega) rfl))
          · first
            | (rw [stAct_5 (by omega)]
               exact fun b hb => (p167bbfr 274 _ (by omega) (by omega)).trans (hMF b hb))
            | (rw [stAct_4 (by omega)]
               exact fun b hb => hMF b hb)
            | (rw [stAct_3 (by omega)]
               exact fun b hb => hMF b hb)
            | (rw [stAct_2 (by omega)]
               exact fun b hb => (p86bfr 274 _ (by omega) (by omega)).trans (hMF b hb))
            | (rw [stAct_1 (by omega)]
               intro b hb
               have hb2 : b < sB s + 1 := hb
               refine (show _ = I56o 274 b from rfl).trans ((p56bfr 274 b (by omega) (by omega)).trans ?_)
               show xu I 274 _ _ 274 b = ((upF (sF s) (sB s) (a + 2) b : Nat) : Int)
               by_cases e : b = sB s
               · subst e
                 rw [upF_at]
                 exact zxe.trans (by omega)
               · rw [upF_ne e]
                 exact zxs e (hMF b (by omega)))
        · have t132 : 0 ≤ g (a + 1) ∧ g (a + 1) < sV s := (by omega)
          refine And.intro (zA_268 hS) (zrdR (v := some 279) (zR_268_18 hR) ?_)
          refine And.intro (zA_268 hS) (zrdR (v := some 270) (zR_268_6 hR) ?_)
          refine And.intro (zP_270 hS (by omega) (by omega)) (fun v146 e146 r146 => ?_)
          have f146 : v146 = g (a + 1) := (e146.trans ((congrArg (I 270) (by omega)).trans (hlg (a + 1) (by omega))))
          refine And.intro ⟨(zx0 rfl), Or.inr ⟨(zP_279 hS (by omega) (by omega)), (Or.inr rfl)⟩⟩ ?_
          refine And.intro (zA_268 hS) (zrdR (v := some 277) (zR_268_16 hR) ?_)
          refine And.intro (zA_268 hS) (zrdR (v := some 270) (zR_268_6 hR) ?_)
          refine And.intro (zP_270 hS (by omega) (by omega)) (fun v160 e160 r160 => ?_)
          have f160 : v160 = g (a + 1) := (e160.trans ((congrArg (I 270) (by omega)).trans (hlg (a + 1) (by omega))))
          refine And.intro ⟨(zx0 rfl), (zP_277 hS (by omega) (by omega))⟩ ⟨_, (zWi (zRb rfl)), ?_⟩
          refine hQ _ ?_ ?_ (fun c j h0 h1 h2 h3 h4 h5 h6 h7 h8 => (zxu h3 (zxu h5 rfl)))
          · first
            | (rw [stAct_5 (by omega)]
               exact p167hST2)
            | (rw [stAct_4 (by omega)]
               obtain ⟨k, hk⟩ : ∃ k, k = (g (a + 1)).toNat := ⟨_, rfl⟩
               rw [← hk]
               obtain rfl : k = v146.toNat := by omega
               exact zST_drp hST (by rw [show v146 = v160 by omega]; exact zxe) (zxu (by decide) zxe) (fun x j q => zxcj (by omega) (zxcj (by omega) rfl)))
            | (rw [stAct_3 (by omega)]
               exact zST_clo hST rfl (zxu (by decide) zxe) zxe (fun x j q => zxcj (by omega) (zxcj (by omega) (zxcj (by omega) rfl))))
            | (rw [stAct_2 (by omega)]
               exact p86hST2)
            | (rw [stAct_1 (by omega)]
               exact zST_nw (a := a + 2) (n := (g (a + 1)).toNat) p56hST2 rfl ((p56bfr 275 _ (by omega) (by omega)).trans (zxu (by decide) (zxe.trans (by omega)))) ((p56bfr 276 _ (by omega) (by omega)).trans zxe) (fun x j q => zxcj (by omega) rfl))
          · first
            | (rw [stAct_5 (by omega)]
               exact fun b hb => (p167bbfr 274 _ (by omega) (by omega)).trans (hMF b hb))
            | (rw [stAct_4 (by omega)]
               exact fun b hb => hMF b hb)
            | (rw [stAct_3 (by omega)]
               exact fun b hb => hMF b hb)
            | (rw [stAct_2 (by omega)]
               exact fun b hb => (p86bfr 274 _ (by omega) (by omega)).trans (hMF b hb))
            | (rw [stAct_1 (by omega)]
               intro b hb
               have hb2 : b < sB s + 1 := hb
               refine (show _ = I56o 274 b from rfl).trans ((p56bfr 274 b (by omega) (by omega)).trans ?_)
               show xu I 274 _ _ 274 b = ((upF (sF s) (sB s) (a + 2) b : Nat) : Int)
               by_cases e : b = sB s
               · subst e
                 rw [upF_at]
                 exact zxe.trans (by omega)
               · rw [upF_ne e]
                 exact zxs e (hMF b (by omega)))
      · have t94 : sV s ≤ 11 := (by omega)
        refine And.intro (zA_268 hS) (zrd (v := (sV s)) hsv ?_)
        refine And.intro (zA_268 hS) ⟨_, (zWi (by omega)), ?_⟩
        refine And.intro (zA_268 hS) (zrdR (v := some 277) (zR_268_16 hR) ?_)
        refine And.intro (zA_268 hS) (zrd (v := ((sV s) + 1)) rfl ?_)
        refine And.intro ⟨(zx0 rfl), (zP_277 hS (by omega) (by omega))⟩ ⟨_, (zWi (zRb rfl)), ?_⟩
        refine And.intro (zA_268 hS) (zrdR (v := some 279) (zR_268_18 hR) ?_)
        refine And.intro (zA_268 hS) (zrd (v := ((sV s) + 1)) rfl ?_)
        refine And.intro ⟨(zx0 rfl), Or.inr ⟨(zP_279 hS (by omega) (by omega)), (Or.inl rfl)⟩⟩ ?_
        refine hQ _ ?_ ?_ (fun c j h0 h1 h2 h3 h4 h5 h6 h7 h8 => (zxu h5 (zxu h3 (zxcj h7 rfl))))
        · first
          | (rw [stAct_5 (by omega)]
             exact p167hST2)
          | (rw [stAct_4 (by omega)]
             obtain ⟨k, hk⟩ : ∃ k, k = (g (a + 1)).toNat := ⟨_, rfl⟩
             rw [← hk]
             obtain rfl : k = v146.toNat := by omega
             exact zST_drp hST (by rw [show v146 = v160 by omega]; exact zxe) (zxu (by decide) zxe) (fun x j q => zxcj (by omega) (zxcj (by omega) rfl)))
          | (rw [stAct_3 (by omega)]
             exact zST_clo hST rfl (zxu (by decide) zxe) zxe (fun x j q => zxcj (by omega) (zxcj (by omega) (zxcj (by omega) rfl))))
          | (rw [stAct_2 (by omega)]
             exact p86hST2)
          | (rw [stAct_1 (by omega)]
             exact zST_nw (a := a + 2) (n := (g (a + 1)).toNat) p56hST2 rfl ((p56bfr 275 _ (by omega) (by omega)).trans (zxu (by decide) (zxe.trans (by omega)))) ((p56bfr 276 _ (by omega) (by omega)).trans zxe) (fun x j q => zxcj (by omega) rfl))
        · first
          | (rw [stAct_5 (by omega)]
             exact fun b hb => (p167bbfr 274 _ (by omega) (by omega)).trans (hMF b hb))
          | (rw [stAct_4 (by omega)]
             exact fun b hb => hMF b hb)
          | (rw [stAct_3 (by omega)]
             exact fun b hb => hMF b hb)
          | (rw [stAct_2 (by omega)]
             exact fun b hb => (p86bfr 274 _ (by omega) (by omega)).trans (hMF b hb))
          | (rw [stAct_1 (by omega)]
             intro b hb
             have hb2 : b < sB s + 1 := hb
             refine (show _ = I56o 274 b from rfl).trans ((p56bfr 274 b (by omega) (by omega)).trans ?_)
             show xu I 274 _ _ 274 b = ((upF (sF s) (sB s) (a + 2) b : Nat) : Int)
             by_cases e : b = sB s
             · subst e
               rw [upF_at]
               exact zxe.trans (by omega)
             · rw [upF_ne e]
               exact zxs e (hMF b (by omega)))
    · have t74 : 0 ≤ g (a + 1) ∧ g (a + 1) < sB s := (by omega)
      refine And.intro (zA_268 hS) (zrdR (v := some 270) (zR_268_6 hR) ?_)
      refine And.intro (zP_270 hS (by omega) (by omega)) (fun v85 e85 r85 => ?_)
      have f85 : v85 = g (a + 1) := (e85.trans ((congrArg (I 270) (by omega)).trans (hlg (a + 1) (by omega))))
      refine And.intro (zA_268 hS) ⟨_, sn_B_app.up (by decide), ?_⟩
      refine ⟨(v85 : Int), (g (a + 1)).toNat, s, a, rfl, hS, hR, hG, hST, ⟨by omega, by omega⟩, (by omega), ?_⟩
      intro I86o p86hST2 p86bfr
      refine hQ _ ?_ ?_ (fun c j h0 h1 h2 h3 h4 h5 h6 h7 h8 => ((p86bfr c j (by omega) (by omega)).trans rfl))
      · first
        | (rw [stAct_5 (by omega)]
           exact p167hST2)
        | (rw [stAct_4 (by omega)]
           obtain ⟨k, hk⟩ : ∃ k, k = (g (a + 1)).toNat := ⟨_, rfl⟩
           rw [← hk]
           obtain rfl : k = v146.toNat := by omega
           exact zST_drp hST (by rw [show v146 = v160 by omega]; exact zxe) (zxu (by decide) zxe) (fun x j q => zxcj (by omega) (zxcj (by omega) rfl)))
        | (rw [stAct_3 (by omega)]
           exact zST_clo hST rfl (zxu (by decide) zxe) zxe (fun x j q => zxcj (by omega) (zxcj (by omega) (zxcj (by omega) rfl))))
        | (rw [stAct_2 (by omega)]
           exact p86hST2)
        | (rw [stAct_1 (by omega)]
           exact zST_nw (a := a + 2) (n := (g (a + 1)).toNat) p56hST2 rfl ((p56bfr 275 _ (by omega) (by omega)).trans (zxu (by decide) (zxe.trans (by omega)))) ((p56bfr 276 _ (by omega) (by omega)).trans zxe) (fun x j q => zxcj (by omega) rfl))
      · first
        | (rw [stAct_5 (by omega)]
           exact fun b hb => (p167bbfr 274 _ (by omega) (by omega)).trans (hMF b hb))
        | (rw [stAct_4 (by omega)]
           exact fun b hb => hMF b hb)
        | (rw [stAct_3 (by omega)]
           exact fun b hb => hMF b hb)
        | (rw [stAct_2 (by omega)]
           exact fun b hb => (p86bfr 274 _ (by omega) (by omega)).trans (hMF b hb))
        | (rw [stAct_1 (by omega)]
           intro b hb
           have hb2 : b < sB s + 1 := hb
           refine (show _ = I56o 274 b from rfl).trans ((p56bfr 274 b (by omega) (by omega)).trans ?_)
           show xu I 274 _ _ 274 b = ((upF (sF s) (sB s) (a + 2) b : Nat) : Int)
           by_cases e : b = sB s
           · subst e
             rw [upF_at]
             exact zxe.trans (by omega)
           · rw [upF_ne e]
             exact zxs e (hMF b (by omega)))
  · have t9 : sB s ≤ 23 ∧ g (a + 1) ≤ 24 ∧ 0 ≤ g (a + 1) := (by omega)
    refine And.intro (zA_268 hS) (zrdR (v := some 274) (zR_268_12 hR) ?_)
    refine And.intro (zA_268 hS) (zrd (v := (sB s)) hsb ?_)
    refine And.intro ⟨(zx0 rfl), (zP_274 hS (by omega) (by omega))⟩ ⟨_, (zWi (by omega)), ?_⟩
    refine And.intro (zA_268 hS) (zrdR (v := some 275) (zR_268_13 hR) ?_)
    refine And.intro (zA_268 hS) (zrd (v := (sB s)) hsb ?_)
    refine And.intro (zA_268 hS) (zrdR (v := some 270) (zR_268_6 hR) ?_)
    refine And.intro (zP_270 hS (by omega) (by omega)) (fun v39 e39 r39 => ?_)
    have f39 : v39 = g (a + 1) := (e39.trans ((congrArg (I 270) (by omega)).trans (hlg (a + 1) (by omega))))
    refine And.intro ⟨(zx0 rfl), (zP_275 hS (by omega) (by omega))⟩ ⟨_, (zWi r39), ?_⟩
    refine And.intro (zA_268 hS) (zrdR (v := some 276) (zR_268_14 hR) ?_)
    refine And.intro (zA_268 hS) (zrd (v := (sB s)) hsb ?_)
    refine And.intro ⟨(zx0 rfl), Or.inr ⟨(zP_276 hS (by omega) (by omega)), (Or.inr rfl)⟩⟩ ?_
    refine And.intro (zA_268 hS) (zrd (v := (sB s)) hsb ?_)
    refine And.intro (zA_268 hS) ⟨_, sn_B_app.up (by decide), ?_⟩
    refine ⟨((sB s) : Int), (sB s), s, a, rfl, hS, hR, hG, (zST_f2 hST (fun x j q => zxcj (by omega) (zxcj (by omega) (zxcj (by omega) rfl)))), ⟨rfl, by omega⟩, (by omega), ?_⟩
    intro I56o p56hST2 p56bfr
    refine And.intro (zA_268 hS) (zrd (v := (sB s)) ((p56bfr 268 11 (by omega) (by omega)).trans hsb) ?_)
    refine And.intro (zA_268 hS) ⟨_, (zWi (by omega)), ?_⟩
    refine hQ _ ?_ ?_ (fun c j h0 h1 h2 h3 h4 h5 h6 h7 h8 => (zxcj h6 ((p56bfr c j (by omega) (by omega)).trans (zxu h2 (zxu h1 (zxu h0 rfl))))))
    · first
      | (rw [stAct_5 (by omega)]
         exact p167hST2)
      | (rw [stAct_4 (by omega)]
         obtain ⟨k, hk⟩ : ∃ k, k = (g (a + 1)).toNat := ⟨_, rfl⟩
         rw [← hk]
         obtain rfl : k = v146.toNat := by omega
         exact zST_drp hST (by rw [show v146 = v160 by omega]; exact zxe) (zxu (by decide) zxe) (fun x j q => zxcj (by omega) (zxcj (by omega) rfl)))
      | (rw [stAct_3 (by omega)]
         exact zST_clo hST rfl (zxu (by decide) zxe) zxe (fun x j q => zxcj (by omega) (zxcj (by omega) (zxcj (by omega) rfl))))
      | (rw [stAct_2 (by omega)]
         exact p86hST2)
      | (rw [stAct_1 (by omega)]
         exact zST_nw (a := a + 2) (n := (g (a + 1)).toNat) p56hST2 rfl ((p56bfr 275 _ (by omega) (by omega)).trans (zxu (by decide) (zxe.trans (by omega)))) ((p56bfr 276 _ (by omega) (by omega)).trans zxe) (fun x j q => zxcj (by omega) rfl))
    · first
      | (rw [stAct_5 (by omega)]
         exact fun b hb => (p167bbfr 274 _ (by omega) (by omega)).trans (hMF b hb))
      | (rw [stAct_4 (by omega)]
         exact fun b hb => hMF b hb)
      | (rw [stAct_3 (by omega)]
         exact fun b hb => hMF b hb)
      | (rw [stAct_2 (by omega)]
         exact fun b hb => (p86bfr 274 _ (by omega) (by omega)).trans (hMF b hb))
      | (rw [stAct_1 (by omega)]
         intro b hb
         have hb2 : b < sB s + 1 := hb
         refine (show _ = I56o 274 b from rfl).trans ((p56bfr 274 b (by omega) (by omega)).trans ?_)
         show xu I 274 _ _ 274 b = ((upF (sF s) (sB s) (a + 2) b : Nat) : Int)
         by_cases e : b = sB s
         · subst e
           rw [upF_at]
           exact zxe.trans (by omega)
         · rw [upF_ne e]
           exact zxs e (hMF b (by omega))))
def T_B_walk : ZT := fun args I L R S Q => ∃ (g : Nat → Int) (m : Nat) (s : StS) (z : Nat), args = [zvr 268] ∧ (zSh S) ∧ (zRs R) ∧ (I 268 5 = z) ∧ (∀ j : Nat, j < 400 → I 270 j = g j) ∧ (s = (stN g m).2) ∧ (stLg g m z) ∧ ∀ (I' : ZI), (zMS s I') → (zMF s I') → (I' 268 19 = (stN g m).1) → (stG (stN g m).1 s ∧ (stN g m).1 ≤ z ∧ z ≤ 400) → (∀ c j : Nat, ¬ c = 274 → ¬ c = 275 → ¬ c = 276 → ¬ c = 277 → ¬ c = 278 → ¬ c = 279 → ¬ (c = 268 ∧ j = 11) → ¬ (c = 268 ∧ j = 15) → ¬ (c = 268 ∧ j = 20) → ¬ (c = 268 ∧ j = 19) → I' c j = I c j) → Q none I' L R S
theorem sn_B_walk : ZSnd 4 13 17 T_B_walk := ZSnd.loops (zT13_17 3) (by
  rintro args I L R S Q hz ⟨g, m, s, z, rfl, hS, hR, hzl, hlg, hsm, hLg, hQ⟩
  have hGm := stN_G hLg.1
  have hz40 := hLg.2.2.1
  have hz41 := hLg.2.1
  refine ⟨[29], fun nM tM lsM stM I1 L1 R1 S1 => match tM with
      | 29 => ∃ (n : Nat) (p : Nat), nM = ((m - n), 0, 0) ∧ lsM = [some (zvr (268))] ∧ stM = [] ∧ L1 = L ∧ R1 = R ∧ S1 = S ∧ (n ≤ m) ∧ (p = (stN g n).1) ∧ (I1 268 19 = p) ∧ (zMS (stN g n).2 I1) ∧ (zMF (stN g n).2 I1) ∧ (∀ c j : Nat, ¬ c = 274 → ¬ c = 275 → ¬ c = 276 → ¬ c = 277 → ¬ c = 278 → ¬ c = 279 → ¬ (c = 268 ∧ j = 11) → ¬ (c = 268 ∧ j = 15) → ¬ (c = 268 ∧ j = 20) → ¬ (c = 268 ∧ j = 19) → I1 c j = I c j)
      | _ => False, rfl, ?_, ⟨?_, True.intro⟩⟩
  · refine And.intro (zA_268 hS) ⟨_, (zWi (zRb rfl)), ?_⟩
    refine And.intro (zA_268 hS) ⟨_, (zWi (zRb rfl)), ?_⟩
    refine And.intro (zA_268 hS) (zrdR (v := some 277) (zR_268_16 hR) ?_)
    refine And.intro ⟨(zx0 rfl), (zP_277 hS (by omega) (by omega))⟩ ⟨_, (zWi (zRb rfl)), ?_⟩
    refine And.intro (zA_268 hS) (zrdR (v := some 279) (zR_268_18 hR) ?_)
    refine And.intro ⟨(zx0 rfl), Or.inr ⟨(zP_279 hS (by omega) (by omega)), (Or.inl rfl)⟩⟩ ?_
    refine And.intro (zA_268 hS) ⟨_, (zWi (zRb rfl)), ?_⟩
    refine ⟨((m - (0 : Nat)), 0, 0), [some (zvr (268))], ⟨rfl, rfl⟩, 0, 0, rfl, rfl, rfl, rfl, rfl, rfl, (by omega), rfl, rfl, ?_, (fun b hb => absurd hb (Nat.not_lt_zero b)), (fun c j h0 h1 h2 h3 h4 h5 h6 h7 h8 h9 => (zxcj h9 (zxu h5 (zxu h3 (zxcj h7 (zxcj h6 rfl))))))⟩
    · refine ⟨rfl, rfl, fun b hb => absurd hb (Nat.not_lt_zero b), fun v hv => ?_⟩
      obtain rfl : v = 0 := Nat.le_zero.mp hv
      exact ⟨rfl, rfl, fun k hk => absurd hk (Nat.not_lt_zero k)⟩
  · rintro nM lsM stM I1 L1 R1 S1 hz1 ⟨n, p, rfl, rfl, rfl, rfl, rfl, rfl, hn, hp0, he1, hst, hmf, fr⟩
    have hs1 : (stN g (n + 1)).1 = (stN g n).1 + stSz g (stN g n).1 := rfl
    have hp : n < m → p + stSz g p ≤ z := fun h => by rw [hp0]; have w := stN_1 g (show n + 1 ≤ m from h); omega
    have hp9 : p ≤ z := by have w := stN_1 g hn; omega
    have hs9 := stSz_1 g p
    have hpz : n < m ∨ (n = m ∧ (p = z ∨ z < p + stSz g p)) := by
      rcases Nat.lt_or_ge n m with q | q
      · exact Or.inl q
      · right
        obtain rfl : n = m := by omega
        rw [hp0]
        refine ⟨rfl, ?_⟩
        rcases hLg.2.2.2 with q | q
        · exact Or.inl q
        · exact Or.inr q.2
    have hok : p < z → stOk g p (stN g n).2 := fun h => by
      rcases Nat.lt_or_ge n m with q | q
      · rw [hp0]
        exact hLg.1 n q
      · obtain rfl : n = m := by omega
        rcases hLg.2.2.2 with q | q
        · exfalso
          omega
        · rw [hp0]
          exact q.1
    have hG : n ≤ m → stG p (stN g n).2 := fun h => by rw [hp0]; exact (stN_G (fun i hi => hLg.1 i (by omega))).1
    refine And.intro (zA_268 hS) (zrd (v := p) he1 ?_)
    refine And.intro (zA_268 hS) (zrd (v := z) ((fr 268 5 (by omega) (by omega) (by omega) (by omega) (by omega) (by omega) (by omega) (by omega) (by omega) (by omega)).trans hzl) ?_)
    refine And.intro ⟨(by omega), (by omega)⟩ ⟨fun h37 => ?_, fun h37 => ?_⟩
    · have t37 : n = m := (by omega)
      refine hQ _ (by obtain rfl : n = m := (by omega); rw [hsm]; exact hst) (by obtain rfl : n = m := (by omega); rw [hsm]; exact hmf) (by obtain rfl : n = m := (by omega); exact he1.trans (by rw [hp0])) ⟨by rw [hsm]; exact hGm.1, hz41, hz40⟩ (fun c j h0 h1 h2 h3 h4 h5 h6 h7 h8 h9 => ((fr c j (by omega) (by omega) (by omega) (by omega) (by omega) (by omega) (by omega) (by omega) (by omega) (by omega)).trans rfl))
    · have t37 : stSz g p ≤ 400 ∧ 1 ≤ stSz g p := (by have := (hok (by omega)).1; omega)
      refine And.intro (zA_268 hS) (zrd (v := p) he1 ?_)
      refine And.intro (zA_268 hS) (zrd (v := p) he1 ?_)
      refine And.intro (zA_268 hS) ⟨_, sn_B_size.up (by decide), ?_⟩
      refine ⟨(p : Int), p, (stN g n).2, g, z, rfl, hS, hR, (by first | exact hlg | exact (fun j h1 => ((fr 270 _ (by omega) (by omega) (by omega) (by omega) (by omega) (by omega) (by omega) (by omega) (by omega) (by omega)).trans rfl).trans (hlg j h1)) | (clear hQ; grind [xu])), (by omega), ((fr 268 5 (by omega) (by omega) (by omega) (by omega) (by omega) (by omega) (by omega) (by omega) (by omega) (by omega)).trans hzl), (by omega), (hok (by omega)), ?_⟩
      intro v49o p49hv
      refine And.intro (zA_268 hS) (zrd (v := z) ((fr 268 5 (by omega) (by omega) (by omega) (by omega) (by omega) (by omega) (by omega) (by omega) (by omega) (by omega)).trans hzl) ?_)
      refine And.intro ⟨(by omega), (by omega)⟩ ⟨fun h57 => ?_, fun h57 => ?_⟩
      · have t57 : n = m := (by omega)
        refine hQ _ (by obtain rfl : n = m := (by omega); rw [hsm]; exact hst) (by obtain rfl : n = m := (by omega); rw [hsm]; exact hmf) (by obtain rfl : n = m := (by omega); exact he1.trans (by rw [hp0])) ⟨by rw [hsm]; exact hGm.1, hz41, hz40⟩ (fun c j h0 h1 h2 h3 h4 h5 h6 h7 h8 h9 => ((fr c j (by omega) (by omega) (by omega) (by omega) (by omega) (by omega) (by omega) (by omega) (by omega) (by omega)).trans rfl))
      · have t57 : n + 1 ≤ m := (by omega)
        refine And.intro (zA_268 hS) (zrd (v := p) he1 ?_)
        refine And.intro (zA_268 hS) ⟨_, sn_B_act.up (by decide), ?_⟩
        refine ⟨(p : Int), p, (stN g n).2, g, rfl, hS, hR, (hG hn), hst, hmf, (by first | exact hlg | exact (fun j h1 => ((fr 270 _ (by omega) (by omega) (by omega) (by omega) (by omega) (by omega) (by omega) (by omega) (by omega) (by omega)).trans rfl).trans (hlg j h1)) | (clear hQ; grind [xu])), (by omega), (hok (by omega)), ?_⟩
        intro I65o p65hST2 p65bhMF2 p65bbfr
        refine And.intro (zA_268 hS) (zrd (v := p) ((p65bbfr 268 19 (by omega) (by omega) (by omega) (by omega) (by omega) (by omega) (by omega) (by omega) (by omega)).trans he1) ?_)
        refine And.intro (zA_268 hS) (zrd (v := p) ((p65bbfr 268 19 (by omega) (by omega) (by omega) (by omega) (by omega) (by omega) (by omega) (by omega) (by omega)).trans he1) ?_)
        refine And.intro (zA_268 hS) ⟨_, sn_B_size.up (by decide), ?_⟩
        refine ⟨(p : Int), p, (stN g n).2, g, z, rfl, hS, hR, (by first | exact hlg | exact (fun j h1 => ((p65bbfr 270 _ (by omega) (by omega) (by omega) (by omega) (by omega) (by omega) (by omega) (by omega) (by omega)).trans ((fr 270 _ (by omega) (by omega) (by omega) (by omega) (by omega) (by omega) (by omega) (by omega) (by omega) (by omega)).trans rfl)).trans (hlg j h1)) | (clear hQ; grind [xu])), (by omega), ((p65bbfr 268 5 (by omega) (by omega) (by omega) (by omega) (by omega) (by omega) (by omega) (by omega) (by omega)).trans ((fr 268 5 (by omega) (by omega) (by omega) (by omega) (by omega) (by omega) (by omega) (by omega) (by omega) (by omega)).trans hzl)), (by omega), (hok (by omega)), ?_⟩
        intro v78o p78hv
        refine And.intro (zA_268 hS) ⟨_, (zWi (by omega)), ?_⟩
        refine ⟨((m - (n + 1)), 0, 0), zlt6 (by omega), [some (zvr (268))], ⟨rfl, rfl⟩, (n + 1), (p + stSz g p), rfl, rfl, rfl, rfl, rfl, rfl, (by omega), (by rw [hs1, ← hp0]), (zxe.trans (by omega)), ?_, ?_, (fun c j h0 h1 h2 h3 h4 h5 h6 h7 h8 h9 => (zxcj h9 ((p65bbfr c j (by omega) (by omega) (by omega) (by omega) (by omega) (by omega) (by omega) (by omega) (by omega)).trans ((fr c j (by omega) (by omega) (by omega) (by omega) (by omega) (by omega) (by omega) (by omega) (by omega) (by omega)).trans rfl))))⟩
        · show zMS (stAct g (stN g n).1 (stN g n).2) _
          rw [← hp0]
          exact zMS_fr p65hST2 (fun c j h => zxcj (by omega) rfl)
        · show zMF (stAct g (stN g n).1 (stN g n).2) _
          rw [← hp0]
          exact zMF_fr p65bhMF2 (fun c j h => zxcj (by omega) rfl))
def T_B_reopen : ZT := fun args I L R S Q => ∃ (g : Nat → Int) (m : Nat) (s : StS) (z : Nat) (cr : Nat), args = [zvr 268] ∧ (zSh S) ∧ (zRs R) ∧ (zML g m s z cr I) ∧ ∀ (v : Int) (z2 : Nat) (I' : ZI), ((cr = 0 ∧ z2 = z) ∨ (cr = 1 ∧ v = sV s ∧ z2 = (stN g m).1)) → (zML g m s z2 0 I') → (∀ c j : Nat, ¬ c = 274 → ¬ c = 275 → ¬ c = 276 → ¬ c = 277 → ¬ c = 278 → ¬ c = 279 → ¬ (c = 268 ∧ j = 11) → ¬ (c = 268 ∧ j = 15) → ¬ (c = 268 ∧ j = 20) → ¬ (c = 268 ∧ j = 19) → ¬ (c = 268 ∧ j = 0) → ¬ (c = 268 ∧ j = 2) → ¬ (c = 268 ∧ j = 5) → I' c j = I c j) → Q (some (zvi (v))) I' L R S
theorem sn_B_reopen : ZSnd 5 13 11 T_B_reopen := ZSnd.of (zT13_11 4) (by
  rintro args I L R S Q hz ⟨g, m, s, z, cr, rfl, hS, hR, hML, hQ⟩
  obtain ⟨hzl, hcr, hlg, ⟨hc1, hsm, hLg⟩, h6⟩ := id hML
  refine And.intro rfl ?_
  refine And.intro (zA_268 hS) (zrd (v := cr) hcr ?_)
  refine And.intro (by omega) ⟨fun h5 => ?_, fun h5 => ?_⟩
  · refine And.intro (zA_268 hS) ⟨_, (zWi (zRb rfl)), ?_⟩
    refine And.intro (zA_268 hS) (zrd (v := cr) hcr ?_)
    refine And.intro (by omega) ⟨(fun h20 => False.elim (by omega)), fun h20 => ?_⟩
    refine hQ _ z _ (Or.inl ⟨by omega, rfl⟩) (by obtain rfl : cr = 0 := (by omega); exact zML_fr hML (fun c j h => zxcj (by omega) rfl)) (fun c j h0 h1 h2 h3 h4 h5 h6 h7 h8 h9 h10 h11 h12 => (zxcj h10 rfl))
  · refine And.intro (zA_268 hS) ⟨_, (zWi (zRb rfl)), ?_⟩
    refine And.intro (zA_268 hS) (zrd (v := cr) hcr ?_)
    refine And.intro (by omega) ⟨fun h20 => ?_, (fun h20 => False.elim (by omega))⟩
    refine And.intro ⟨(zA_268 hS), (Or.inl rfl)⟩ ?_
    refine And.intro (zA_268 hS) ⟨_, sn_B_walk.up (by decide), ?_⟩
    refine ⟨g, m, s, z, rfl, hS, hR, hzl, (by first | exact hlg | exact (fun j h1 => (zxu (by omega) (zxu (by omega) rfl)).trans (hlg j h1)) | (clear hQ; grind [xu])), hsm, hLg, ?_⟩
    intro I31o p31hST2 p31bhMF2 p31bbhe2 p31bbbhG2 p31bbbbfr
    refine And.intro (zA_268 hS) (zrd (v := ((stN g m).1)) p31bbhe2 ?_)
    refine And.intro (zA_268 hS) ⟨_, (zWi (by omega)), ?_⟩
    refine And.intro (zA_268 hS) (fun v43 e43 r43 => ?_)
    refine hQ _ (stN g m).1 _ (Or.inr ⟨by omega, e43.trans p31hST2.2.1, rfl⟩) ?_ (fun c j h0 h1 h2 h3 h4 h5 h6 h7 h8 h9 h10 h11 h12 => (zxcj h12 ((p31bbbbfr c j (by omega) (by omega) (by omega) (by omega) (by omega) (by omega) (by omega) (by omega) (by omega) (by omega)).trans (zxcj h11 (zxcj h10 rfl)))))
    · refine ⟨rfl, (p31bbbbfr 268 2 (by omega) (by omega) (by omega) (by omega) (by omega) (by omega) (by omega) (by omega) (by omega) (by omega)).trans rfl, fun j hj => (p31bbbbfr 270 j (by omega) (by omega) (by omega) (by omega) (by omega) (by omega) (by omega) (by omega) (by omega) (by omega)).trans (hlg j hj), ⟨Nat.zero_le _, hsm, hLg.1, Nat.le_refl _, (stN_G hLg.1).2, Or.inl rfl⟩, fun _ => rfl⟩)
