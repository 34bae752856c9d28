/-! reld -/
def T_B_lay : ZT := fun args I L R S Q => ∃ (r : Int) (w : Nat) (d : Nat → Nat → Int), args = [zvr 280, zvi r] ∧ (zSh S) ∧ (zRs R) ∧ (0 ≤ r ∧ r < 10) ∧ (I 287 r.toNat = w) ∧ (w ≤ 8) ∧ (∀ k i : Nat, k < w → i < 32 → I 291 (256 * r.toNat + 32 * k + i) = d k i) ∧ ∀ (I' : ZI), (I' 280 15 = w) → (∀ k i : Nat, k < w → i < 32 → I' 293 (32 * k + i) = d k i) → (∀ c j : Nat, ¬ c = 293 → ¬ (c = 280 ∧ j = 15) → I' c j = I c j) → Q none I' L R S
theorem sn_B_lay : ZSnd 1 19 19 T_B_lay := ZSnd.loops (zT19_19 0) (by
  rintro args I L R S Q hz ⟨r, w, d, rfl, hS, hR, h0, hw, h1, hd, hQ⟩
  refine ⟨[12], fun nM tM lsM stM I1 L1 R1 S1 => match tM with
      | 12 => ∃ (x : Int), nM = ((257 - x).toNat, 0, 0) ∧ lsM = [some (zvr (280)), some (zvi (r)), some (zvi (x))] ∧ stM = [] ∧ L1 = L ∧ R1 = R ∧ S1 = S ∧ (0 ≤ x ∧ x ≤ 32 * w) ∧ (I1 280 15 = w) ∧ (∀ j : Nat, (j : Int) < x → I1 293 j = I 291 (256 * r.toNat + j)) ∧ (∀ c j : Nat, ¬ c = 293 → ¬ (c = 280 ∧ j = 15) → I1 c j = I c j)
      | _ => False, rfl, ?_, ⟨?_, True.intro⟩⟩
  · refine And.intro (zA_280 hS) (zrdR (v := some 287) (zR_280_9 hR) ?_)
    refine And.intro (zP_287 hS (by omega) (by omega)) (fun v6 e6 r6 => ?_)
    have f6 : v6 = w := (e6.trans hw)
    refine And.intro (zA_280 hS) ⟨_, (zWi r6), ?_⟩
    refine ⟨((257 - (0 : Int)).toNat, 0, 0), [some (zvr (280)), some (zvi (r)), some (zvi ((0 : Int)))], ⟨rfl, rfl, rfl, rfl⟩, 0, rfl, rfl, rfl, rfl, rfl, rfl, (by omega), (show v6 = _ from f6), (fun j h => absurd h (by omega)), (fun c j h0 h1 => (zxcj h1 rfl))⟩
  · rintro nM lsM stM I1 L1 R1 S1 hz1 ⟨x, rfl, rfl, rfl, rfl, rfl, rfl, hx, hw1, hd1, fr⟩
    refine And.intro (zA_280 hS) (zrd (v := w) hw1 ?_)
    refine And.intro ⟨(by omega), (by omega)⟩ ⟨fun h20 => ?_, fun h20 => ?_⟩
    · refine hQ _ hw1 ?_ (fun c j h0 h1 => ((fr c j (by omega) (by omega)).trans rfl))
      · intro k i hk hi
        rw [hd1 _ (by omega), ← hd k i hk hi]
        congr 1 <;> omega
    · refine And.intro (zA_280 hS) (zrdR (v := some 293) (zR_280_16 hR) ?_)
      refine And.intro (zA_280 hS) (zrdR (v := some 291) (zR_280_13 hR) ?_)
      refine And.intro (zP_291 hS (by omega) (by omega)) (fun v39 e39 r39 => ?_)
      refine And.intro ⟨(zx0 rfl), (zP_293 hS (by omega) (by omega))⟩ ⟨_, (zWi r39), ?_⟩
      refine ⟨((257 - (x + 1)).toNat, 0, 0), zlt6 (by omega), [some (zvr (280)), some (zvi (r)), some (zvi ((x + 1)))], ⟨rfl, rfl, rfl, rfl⟩, (x + 1), rfl, rfl, rfl, rfl, rfl, rfl, (by omega), hw1, ?_, (fun c j h0 h1 => (zxu h0 ((fr c j (by omega) (by omega)).trans rfl)))⟩
      · intro j hj
        by_cases h : (j : Int) = x
        · rw [show j = x.toNat by omega, zxe, e39, fr _ _ (by omega) (by omega)]
          congr 1 <;> omega
        · exact zxs (by omega) (hd1 j (by omega)))
def T_B_isApp : ZT := fun args I L R S Q => ∃ (r : Int) (ro : Nat → Int), args = [zvr 280, zvi r] ∧ (zSh S) ∧ (zRs R) ∧ (0 ≤ r ∧ r < 10) ∧ (∀ p : Nat, p < 16 → I 295 (16 * r.toNat + p) = ro p + 1 ∧ -1 ≤ ro p ∧ ro p ≤ 3) ∧ ∀ (v : Int), ((v = 1 ∧ apr ro) ∨ (v = 0 ∧ ¬ apr ro)) → Q (some (zvi (v))) I L R S
theorem sn_B_isApp : ZSnd 1 19 15 T_B_isApp := ZSnd.loops (zT19_15 0) (by
  rintro args I L R S Q hz ⟨r, ro, rfl, hS, hR, h0, hro, hQ⟩
  refine ⟨[4], fun nM tM lsM stM I1 L1 R1 S1 => match tM with
      | 4 => ∃ (b : Int) (p : Int), nM = ((16 - p).toNat, 0, 0) ∧ lsM = [some (zvr (280)), some (zvi (r)), some (zvi (b)), some (zvi (p))] ∧ stM = [] ∧ I1 = I ∧ L1 = L ∧ R1 = R ∧ S1 = S ∧ (0 ≤ p ∧ p ≤ 16) ∧ (0 ≤ b ∧ b < 32) ∧ (b.toNat % 2 = 0) ∧ (∀ q : Nat, (q : Int) < p → ro q ≠ -1 → b.toNat / 2 ^ (ro q + 1).toNat % 2 = 1) ∧ (∀ i : Nat, i < 5 → b.toNat / 2 ^ i % 2 = 1 → zex (fun q => (q : Int) < p ∧ ro q ≠ -1 ∧ (ro q + 1).toNat = i))
      | _ => False, rfl, ?_, ⟨?_, True.intro⟩⟩
  · refine ⟨((16 - (0 : Int)).toNat, 0, 0), [some (zvr (280)), some (zvi (r)), some (zvi ((0 : Int))), some (zvi ((0 : Int)))], ⟨rfl, rfl, rfl, rfl, rfl⟩, 0, 0, rfl, rfl, rfl, rfl, rfl, rfl, rfl, (by omega), (by omega), rfl, (fun q h => absurd h (by omega)), ?_⟩
    · intro i hi h
      have e : (0 : Int).toNat / 2 ^ i = 0 := Nat.zero_div _
      rw [e] at h
      exact absurd h (by decide)
  · rintro nM lsM stM I1 L1 R1 S1 hz1 ⟨b, p, rfl, rfl, rfl, rfl, rfl, rfl, rfl, hp, hb, hb2, h1, h2⟩
    refine And.intro ⟨(by omega), (zRb rfl)⟩ ⟨fun h7 => ?_, fun h7 => ?_⟩
    · refine And.intro zr_and ⟨fun h55 => ?_, fun h55 => ?_⟩
      · refine And.intro (Or.inl rfl) ?_
        refine hQ _ ?_
        · first
          | (refine Or.inl ⟨rfl, ?_⟩
             obtain ⟨i, hi, j, hj, hij, w1, w2⟩ := (bit_twoI hb hb2).mp h55
             obtain ⟨q1, a1, a2, a3⟩ := h2 i hi w1
             obtain ⟨q2, c1, c2, c3⟩ := h2 j hj w2
             exact ⟨q1, q2, by omega, by omega, a2, c2, fun e => hij (by rw [← a3, ← c3, e])⟩)
          | (refine Or.inr ⟨rfl, ?_⟩
             rintro ⟨q1, q2, a1, a2, a3, a4, a5⟩
             have r1 := hro q1 a1
             have r2 := hro q2 a2
             exact ((bit_twoI hb hb2).mpr ⟨(ro q1 + 1).toNat, by omega, (ro q2 + 1).toNat, by omega, by omega, h1 q1 (by omega) a3, h1 q2 (by omega) a4⟩) h55)
      · refine And.intro (Or.inr rfl) ?_
        refine hQ _ ?_
        · first
          | (refine Or.inl ⟨rfl, ?_⟩
             obtain ⟨i, hi, j, hj, hij, w1, w2⟩ := (bit_twoI hb hb2).mp h55
             obtain ⟨q1, a1, a2, a3⟩ := h2 i hi w1
             obtain ⟨q2, c1, c2, c3⟩ := h2 j hj w2
             exact ⟨q1, q2, by omega, by omega, a2, c2, fun e => hij (by rw [← a3, ← c3, e])⟩)
          | (refine Or.inr ⟨rfl, ?_⟩
             rintro ⟨q1, q2, a1, a2, a3, a4, a5⟩
             have r1 := hro q1 a1
             have r2 := hro q2 a2
             exact ((bit_twoI hb hb2).mpr ⟨(ro q1 + 1).toNat, by omega, (ro q2 + 1).toNat, by omega, by omega, h1 q1 (by omega) a3, h1 q2 (by omega) a4⟩) h55)
    · refine And.intro (zA_280 hS) (zrdR (v := some 295) (zR_280_19 hR) ?_)
      refine And.intro (zP_295 hS (by omega) (by omega)) (fun v20 e20 r20 => ?_)
      have f20 : 0 ≤ v20 ∧ v20 ≤ 4 ∧ v20 = ro p.toNat + 1 := (by have := hro p.toNat (by omega); rw [show (16 * r + p).toNat = 16 * r.toNat + p.toNat by omega] at e20; omega)
      refine And.intro r20 ⟨fun h21 => ?_, fun h21 => ?_⟩
      · refine ⟨((16 - (p + 1)).toNat, 0, 0), zlt6 (by omega), [some (zvr (280)), some (zvi (r)), some (zvi (b)), some (zvi ((p + 1)))], ⟨rfl, rfl, rfl, rfl, rfl⟩, b, (p + 1), rfl, rfl, rfl, rfl, rfl, rfl, rfl, (by omega), (by first | exact hb | (obtain ⟨w1, w2, -⟩ := f36b; omega)), (by first | exact hb2 | exact f36b.2.2.1), ?_, ?_⟩
        · intro q hq h9
          first
          | (rw [f36b.2.2.2 _ (by have := hro q (by omega); omega)]
             by_cases e : (q : Int) = p
             · right
               have e2 : q = p.toNat := by omega
               subst e2
               rw [f36.2.2]
             · left
               exact h1 q (by omega) h9)
          | (by_cases e : (q : Int) = p
             · exfalso
               have e2 : q = p.toNat := by omega
               subst e2
               omega
             · exact h1 q (by omega) h9)
        · intro i hi h
          first
          | (rcases (f36b.2.2.2 i hi).mp h with w | w
             · obtain ⟨q, q1, q2, q3⟩ := h2 i hi w
               exact Exists.intro q ⟨by omega, q2, q3⟩
             · exact Exists.intro p.toNat ⟨by omega, by omega, by rw [w, f36.2.2]⟩)
          | (obtain ⟨q, q1, q2, q3⟩ := h2 i hi h
             exact Exists.intro q ⟨by omega, q2, q3⟩)
      · refine And.intro (zA_280 hS) (zrdR (v := some 295) (zR_280_19 hR) ?_)
        refine And.intro (zP_295 hS (by omega) (by omega)) (fun v36 e36 r36 => ?_)
        have f36 : 0 ≤ v36 ∧ v36 ≤ 4 ∧ v36 = ro p.toNat + 1 := (by have := hro p.toNat (by omega); rw [show (16 * r + p).toNat = 16 * r.toNat + p.toNat by omega] at e36; omega)
        have f36b : 0 ≤ zor b (zshl 1 v36) ∧ (zor b (zshl 1 v36)).toNat < 32 ∧ (zor b (zshl 1 v36)).toNat % 2 = 0 ∧ ∀ i : Nat, i < 5 → ((zor b (zshl 1 v36)).toNat / 2 ^ i % 2 = 1 ↔ b.toNat / 2 ^ i % 2 = 1 ∨ i = v36.toNat) := (by have w := bit_or b.toNat (by omega) hb2 v36.toNat (by omega) (by omega); rw [show ((b.toNat : Nat) : Int) = b by omega, show ((v36.toNat : Nat) : Int) = v36 by omega] at w; exact w)
        refine ⟨((16 - (p + 1)).toNat, 0, 0), zlt6 (by omega), [some (zvr (280)), some (zvi (r)), some (zvi ((zor b (zshl 1 v36)))), some (zvi ((p + 1)))], ⟨rfl, rfl, rfl, rfl, rfl⟩, (zor b (zshl 1 v36)), (p + 1), rfl, rfl, rfl, rfl, rfl, rfl, rfl, (by omega), (by first | exact hb | (obtain ⟨w1, w2, -⟩ := f36b; omega)), (by first | exact hb2 | exact f36b.2.2.1), ?_, ?_⟩
        · intro q hq h9
          first
          | (rw [f36b.2.2.2 _ (by have := hro q (by omega); omega)]
             by_cases e : (q : Int) = p
             · right
               have e2 : q = p.toNat := by omega
               subst e2
               rw [f36.2.2]
             · left
               exact h1 q (by omega) h9)
          | (by_cases e : (q : Int) = p
             · exfalso
               have e2 : q = p.toNat := by omega
               subst e2
               omega
             · exact h1 q (by omega) h9)
        · intro i hi h
          first
          | (rcases (f36b.2.2.2 i hi).mp h with w | w
             · obtain ⟨q, q1, q2, q3⟩ := h2 i hi w
               exact Exists.intro q ⟨by omega, q2, q3⟩
             · exact Exists.intro p.toNat ⟨by omega, by omega, by rw [w, f36.2.2]⟩)
          | (obtain ⟨q, q1, q2, q3⟩ := h2 i hi h
             exact Exists.intro q ⟨by omega, q2, q3⟩))
