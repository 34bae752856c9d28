/-! rel2 -/
def T_A_addProof : ZT := fun args I L R S Q => ∃ (r : Int) (k : Int) (o : Int) (cn : Nat) (t : Nat → Nat → Int) (n : Nat → Nat), args = [zvr 154, zvi r, zvi k] ∧ (zSh S) ∧ (zRs R) ∧ (zRA cn t n I) ∧ (0 ≤ r ∧ r < cn) ∧ (0 ≤ k ∧ k < rW (n r.toNat) 0) ∧ (I 154 13 = o) ∧ (0 ≤ o ∧ o ≤ 68) ∧ ∀ (I' : ZI), (I' 154 13 = o + 1 + 33 * pfN (n r.toNat) k.toNat (rT (n r.toNat))) → (∀ j : Nat, j < 1 + 33 * pfN (n r.toNat) k.toNat (rT (n r.toNat)) → I' 164 (o.toNat + j) = pfB (t r.toNat) (n r.toNat) k.toNat (rT (n r.toNat)) j) → (∀ c j : Nat, ¬ (c = 164 ∧ o ≤ j) → ¬ (c = 154 ∧ j = 13) → I' c j = I c j) → Q none I' L R S
theorem sn_A_addProof : ZSnd 3 5 2 T_A_addProof := ZSnd.loops (zT5_2 2) (by
  rintro args I L R S Q hz ⟨r, k, o, cn, t, n, rfl, hS, hR, hRA, h0, h1, ho, h2, hQ⟩
  obtain ⟨hc, hcn, hr⟩ := id hRA
  obtain ⟨⟨hq1, hq2, hn⟩, -, hd⟩ := hr r.toNat (by omega)
  generalize hN : n r.toNat = N at *
  generalize hT : t r.toNat = tt at *
  have hw0 : rW N 0 = (N + 63) / 64 := rfl
  have hwu : ∀ l, rW N (l + 1) = (rW N l + 1) / 2 := fun _ => rfl
  have hou : ∀ l, rO N (l + 1) = rO N l + rW N l := fun _ => rfl
  have hk0 : k.toNat < rW N 0 := by omega
  refine ⟨[30, 100], fun nM tM lsM stM I1 L1 R1 S1 => match tM with
      | 30 => ∃ (l : Nat), nM = ((rW N l), 0, 0) ∧ lsM = [some (zvr (154)), some (zvi (r)), some (zvi (k)), some (zvi (o)), some (zvi (rW N l)), some (zvi (480 * r + 32 * rO N l)), some (zvi (pfK k.toNat l)), some (zvi (l)), none, none] ∧ stM = [] ∧ L1 = L ∧ R1 = R ∧ S1 = S ∧ ((l = 0 ∧ rW N l ≤ 8 ∧ rO N l = 0) ∨ (l = 1 ∧ rW N l ≤ 4 ∧ rO N l ≤ 8) ∨ (l = 2 ∧ rW N l ≤ 2 ∧ rO N l ≤ 12) ∨ (l = 3 ∧ rW N l ≤ 1 ∧ rO N l ≤ 14)) ∧ (∀ m, m < l → 1 < rW N m) ∧ (I1 154 13 = o + 1 + 33 * pfN N k.toNat l) ∧ (∀ j : Nat, j < 1 + 33 * pfN N k.toNat l → I1 164 (o.toNat + j) = pfB tt N k.toNat l j) ∧ (∀ c j : Nat, ¬ (c = 164 ∧ o ≤ j) → ¬ (c = 154 ∧ j = 13) → I1 c j = I c j)
      | 100 => ∃ (l : Nat) (i : Int), nM = ((rW N l - 1), (33 - i).toNat, 0) ∧ lsM = [some (zvr (154)), some (zvi (r)), some (zvi (k)), some (zvi (o)), some (zvi (rW N l)), some (zvi (480 * r + 32 * rO N l)), some (zvi (pfK k.toNat l)), some (zvi (l)), some (zvi (pfO (pfK k.toNat l))), some (zvi (i))] ∧ stM = [] ∧ L1 = L ∧ R1 = R ∧ S1 = S ∧ ((l = 0 ∧ rW N l ≤ 8 ∧ rO N l = 0) ∨ (l = 1 ∧ rW N l ≤ 4 ∧ rO N l ≤ 8) ∨ (l = 2 ∧ rW N l ≤ 2 ∧ rO N l ≤ 12) ∨ (l = 3 ∧ rW N l ≤ 1 ∧ rO N l ≤ 14)) ∧ (∀ m, m < l → 1 < rW N m) ∧ (1 < rW N l) ∧ (pfO (pfK k.toNat l) < rW N l) ∧ (0 ≤ i ∧ i ≤ 32) ∧ (I1 154 13 = o + 2 + 33 * pfN N k.toNat l + i) ∧ (∀ j : Nat, (j : Int) < 2 + 33 * pfN N k.toNat l + i → I1 164 (o.toNat + j) = pfB tt N k.toNat (l + 1) j) ∧ (∀ c j : Nat, ¬ (c = 164 ∧ o ≤ j) → ¬ (c = 154 ∧ j = 13) → I1 c j = I c j)
      | _ => False, rfl, ?_, ⟨?_, ?_, True.intro⟩⟩
  · refine And.intro (zA_154 hS) (zrd (v := o) ho ?_)
    refine And.intro (zA_154 hS) (Exists.intro _ (And.intro (zinl_ok (zT5_12 1)) (And.intro rfl ?_)))
    refine And.intro (zA_154 hS) (zrd (v := o) ho ?_)
    refine And.intro ⟨(by omega), (zRb rfl)⟩ ⟨(fun h7_7 => False.elim (by omega)), fun h7_7 => ?_⟩
    refine And.intro (zA_154 hS) (zrdR (v := some 164) (zR_154_12 hR) ?_)
    refine And.intro (zA_154 hS) (zrd (v := o) ho ?_)
    refine And.intro ⟨(zx0 rfl), (zP_164 hS (by omega) (by omega))⟩ ⟨_, (zWi (zRb rfl)), ?_⟩
    refine And.intro (zA_154 hS) (zrd (v := o) ho ?_)
    refine And.intro (zA_154 hS) ⟨_, (zWi (by omega)), ?_⟩
    refine And.intro (zA_154 hS) (Exists.intro _ (And.intro (zinl_ok (zT5_14 1)) (And.intro rfl ?_)))
    refine And.intro (zA_154 hS) (Exists.intro _ (And.intro (zinl_ok (zT5_11 0)) (And.intro rfl ?_)))
    refine And.intro (by omega) ⟨(fun h1_12_2 => False.elim (by omega)), fun h1_12_2 => ?_⟩
    refine And.intro (zA_154 hS) (zrd (v := cn) hc ?_)
    refine And.intro ⟨(by omega), (by omega)⟩ ⟨(fun h9_12_2 => False.elim (by omega)), fun h9_12_2 => ?_⟩
    refine And.intro (Or.inr rfl) ?_
    refine And.intro (zRb rfl) (zbf rfl ?_)
    refine And.intro (zA_154 hS) (zrdR (v := some 156) (zR_154_2 hR) ?_)
    refine And.intro (zP_156 hS (by omega) (by omega)) (fun v13_12 e13_12 r13_12 => ?_)
    have f13_12 : v13_12 = N := e13_12.trans hn
    refine And.intro ⟨(by omega), (zRb rfl), (by decide)⟩ (zdv (by omega) (fun q21_12 e21_12 => ?_))
    refine ⟨((rW N (0 : Nat)), 0, 0), [some (zvr (154)), some (zvi (r)), some (zvi (k)), some (zvi (o)), some (zvi (rW N (0 : Nat))), some (zvi (480 * r + 32 * rO N (0 : Nat))), some (zvi (pfK k.toNat (0 : Nat))), some (zvi ((0 : Nat))), none, none], ⟨rfl, rfl, rfl, rfl, (congrArg (fun z => some (zvi z)) (by omega)), (congrArg (fun z => some (zvi z)) (by have h5 : rO N 0 = 0 := rfl; omega)), (congrArg (fun z => some (zvi z)) (by show k = ((k.toNat : Nat) : Int); omega)), rfl, rfl⟩, 0, rfl, rfl, rfl, rfl, rfl, rfl, (Or.inl ⟨rfl, by omega, rfl⟩), (fun m h => absurd h (Nat.not_lt_zero m)), (show o + 1 = _ by have h5 : pfN N k.toNat 0 = 0 := rfl; omega), ?_, (fun c j h0 h1 => (zxcj h1 (zxcj (by omega) rfl)))⟩
    · intro j hj
      have h5 : pfN N k.toNat 0 = 0 := rfl
      obtain rfl : j = 0 := by omega
      exact zxu (by decide) zxe
  · rintro nM lsM stM I1 L1 R1 S1 hz1 ⟨l, rfl, rfl, rfl, rfl, rfl, rfl, hl, hu, hp, hb, fr⟩
    have hwl := hwu l
    have hol := hou l
    have hn1 := pfN_le N k.toNat l
    have hkl := pfK_lt hk0 l
    have hn2 : pfN N k.toNat (l + 1) = pfN N k.toNat l + (if pfO (pfK k.toNat l) < rW N l then 1 else 0) := rfl
    have hk2 : pfK k.toNat (l + 1) = pfK k.toNat l / 2 := rfl
    refine And.intro ⟨(by omega), (zRb rfl)⟩ ⟨(fun h35 => False.elim (by omega)), fun h35 => ?_⟩
    refine And.intro ⟨(by omega), (zRb rfl)⟩ ⟨fun h41 => ?_, fun h41 => ?_⟩
    · refine hQ _ (by have e := rT_of ⟨hq1, hq2⟩ (l := l) (by omega) hu (by omega); rw [e]; exact hp) (by have e := rT_of ⟨hq1, hq2⟩ (l := l) (by omega) hu (by omega); rw [e]; exact hb) (fun c j h0 h1 => ((fr c j (by omega) (by omega)).trans rfl))
    · refine And.intro ⟨(by omega), (zRb rfl), (by decide)⟩ (zdv (by omega) (fun q47 e47 => ?_))
      refine And.intro (by omega) ⟨fun h48 => ?_, fun h48 => ?_⟩
      · refine And.intro ⟨(by omega), (by omega)⟩ ⟨fun h68 => ?_, fun h68 => ?_⟩
        · refine And.intro ⟨(by omega), (zRb rfl), (by decide)⟩ (zdv (by omega) (fun q148 e148 => ?_))
          refine And.intro ⟨(by omega), (zRb rfl), (by decide)⟩ (zdv (by omega) (fun q154 e154 => ?_))
          refine ⟨((rW N (l + 1)), 0, 0), zlt6 (by omega), [some (zvr (154)), some (zvi (r)), some (zvi (k)), some (zvi (o)), some (zvi (rW N (l + 1))), some (zvi (480 * r + 32 * rO N (l + 1))), some (zvi (pfK k.toNat (l + 1))), some (zvi ((l + 1))), none, none], ⟨rfl, rfl, rfl, rfl, (congrArg (fun z => some (zvi z)) (by omega)), (congrArg (fun z => some (zvi z)) (by omega)), (congrArg (fun z => some (zvi z)) (by omega)), rfl, rfl⟩, (l + 1), rfl, rfl, rfl, rfl, rfl, rfl, (by omega), ?_, (hp.trans (by rw [hn2, if_neg (by unfold pfO; split <;> omega)]; omega)), ?_, (fun c j h0 h1 => ((fr c j (by omega) (by omega)).trans rfl))⟩
          · intro m hm
            by_cases h : m = l
            · rw [h]; omega
            · exact hu m (by omega)
          · intro j hj
            have ho : ¬ pfO (pfK k.toNat l) < rW N l := by unfold pfO; split <;> omega
            rw [hn2, if_neg ho] at hj
            rw [hb j (by omega)]
            show _ = (if j = 0 then ((pfN N k.toNat (l + 1) : Nat) : Int) else if pfO (pfK k.toNat l) < rW N l then _ else pfB tt N k.toNat l j)
            rw [if_neg ho]
            split
            · next h => rw [h, pfB_0, hn2, if_neg ho]; rfl
            · rfl
        · refine And.intro (zA_154 hS) (zrdR (v := some 164) (zR_154_12 hR) ?_)
          refine And.intro (zP_164 hS (by omega) (by omega)) (fun v77 e77 r77 => ?_)
          have f77 : v77 = pfN N k.toNat l := (e77.trans ((hb 0 (by omega)).trans (pfB_0 _ _ _ _)))
          refine And.intro ⟨(zx0 rfl), (zP_164 hS (by omega) (by omega))⟩ ⟨_, (zWi (by omega)), ?_⟩
          refine And.intro ⟨(by omega), (by omega)⟩ ⟨(fun h86 => False.elim (by omega)), fun h86 => ?_⟩
          refine And.intro (zA_154 hS) (Exists.intro _ (And.intro (zinl_ok (zT5_12 1)) (And.intro rfl ?_)))
          refine And.intro (zA_154 hS) (zrd (v := (o + 1 + 33 * pfN N k.toNat l)) hp ?_)
          refine And.intro ⟨(by omega), (zRb rfl)⟩ ⟨(fun h7_94 => False.elim (by omega)), fun h7_94 => ?_⟩
          refine And.intro (zA_154 hS) (zrdR (v := some 164) (zR_154_12 hR) ?_)
          refine And.intro (zA_154 hS) (zrd (v := (o + 1 + 33 * pfN N k.toNat l)) hp ?_)
          refine And.intro ⟨(zx0 rfl), (zP_164 hS (by omega) (by omega))⟩ ⟨_, (zWi (zRb rfl)), ?_⟩
          refine And.intro (zA_154 hS) (zrd (v := (o + 1 + 33 * pfN N k.toNat l)) hp ?_)
          refine And.intro (zA_154 hS) ⟨_, (zWi (by omega)), ?_⟩
          refine ⟨((rW N l - 1), (33 - (0 : Int)).toNat, 0), zlt6 (by omega), [some (zvr (154)), some (zvi (r)), some (zvi (k)), some (zvi (o)), some (zvi (rW N l)), some (zvi (480 * r + 32 * rO N l)), some (zvi (pfK k.toNat l)), some (zvi (l)), some (zvi (pfO (pfK k.toNat l))), some (zvi ((0 : Int)))], ⟨rfl, rfl, rfl, rfl, rfl, rfl, rfl, rfl, (congrArg (fun z => some (zvi z)) (by unfold pfO; split <;> omega)), rfl, rfl⟩, l, 0, rfl, rfl, rfl, rfl, rfl, rfl, hl, hu, (by omega), (by unfold pfO; split <;> omega), (by omega), (Eq.trans (b := (((o + 1 + 33 * pfN N k.toNat l) + 1) : Int)) rfl (by omega)), ?_, (fun c j h0 h1 => (zxcj h1 (zxcj (by omega) (zxcj (by omega) ((fr c j (by omega) (by omega)).trans rfl)))))⟩
          · intro j hj
            have ho : pfO (pfK k.toNat l) < rW N l := by unfold pfO; split <;> omega
            have e9 : pfB tt N k.toNat (l + 1) j = (if j = 0 then ((pfN N k.toNat (l + 1) : Nat) : Int) else if pfO (pfK k.toNat l) < rW N l then (if j = 1 + 33 * pfN N k.toNat l then (if pfO (pfK k.toNat l) < pfK k.toNat l then 0 else 1) else if 1 + 33 * pfN N k.toNat l < j ∧ j < 34 + 33 * pfN N k.toNat l then rD tt N l (pfO (pfK k.toNat l)) (j - 2 - 33 * pfN N k.toNat l) else pfB tt N k.toNat l j) else pfB tt N k.toNat l j) := rfl
            rw [e9, if_pos ho]
            have e8 := hb 0 (by omega)
            rw [pfB_0, Nat.add_zero] at e8
            by_cases h : j = 0
            · subst h
              rw [if_pos rfl, hn2, if_pos ho]
              refine zxu (by decide) (zxs (by omega) ?_)
              rw [Nat.add_zero]
              refine zxe.trans ?_
              rw [e77, e8]
              rfl
            · rw [if_neg h]
              by_cases h2 : j = 1 + 33 * pfN N k.toNat l
              · rw [if_pos h2, show o.toNat + j = (o + 1 + 33 * (pfN N k.toNat l : Int)).toNat by omega]
                refine (zxu (by decide) zxe).trans ?_
                have h86' := h86
                unfold pfO
                split <;> split <;> omega
              · rw [if_neg h2, if_neg (by omega)]
                exact zxu (by decide) (zxs (by omega) (zxs (by omega) (hb j (by omega))))
      · refine And.intro ⟨(by omega), (by omega)⟩ ⟨fun h68 => ?_, fun h68 => ?_⟩
        · refine And.intro ⟨(by omega), (zRb rfl), (by decide)⟩ (zdv (by omega) (fun q148 e148 => ?_))
          refine And.intro ⟨(by omega), (zRb rfl), (by decide)⟩ (zdv (by omega) (fun q154 e154 => ?_))
          refine ⟨((rW N (l + 1)), 0, 0), zlt6 (by omega), [some (zvr (154)), some (zvi (r)), some (zvi (k)), some (zvi (o)), some (zvi (rW N (l + 1))), some (zvi (480 * r + 32 * rO N (l + 1))), some (zvi (pfK k.toNat (l + 1))), some (zvi ((l + 1))), none, none], ⟨rfl, rfl, rfl, rfl, (congrArg (fun z => some (zvi z)) (by omega)), (congrArg (fun z => some (zvi z)) (by omega)), (congrArg (fun z => some (zvi z)) (by omega)), rfl, rfl⟩, (l + 1), rfl, rfl, rfl, rfl, rfl, rfl, (by omega), ?_, (hp.trans (by rw [hn2, if_neg (by unfold pfO; split <;> omega)]; omega)), ?_, (fun c j h0 h1 => ((fr c j (by omega) (by omega)).trans rfl))⟩
          · intro m hm
            by_cases h : m = l
            · rw [h]; omega
            · exact hu m (by omega)
          · intro j hj
            have ho : ¬ pfO (pfK k.toNat l) < rW N l := by unfold pfO; split <;> omega
            rw [hn2, if_neg ho] at hj
            rw [hb j (by omega)]
            show _ = (if j = 0 then ((pfN N k.toNat (l + 1) : Nat) : Int) else if pfO (pfK k.toNat l) < rW N l then _ else pfB tt N k.toNat l j)
            rw [if_neg ho]
            split
            · next h => rw [h, pfB_0, hn2, if_neg ho]; rfl
            · rfl
        · refine And.intro (zA_154 hS) (zrdR (v := some 164) (zR_154_12 hR) ?_)
          refine And.intro (zP_164 hS (by omega) (by omega)) (fun v77 e77 r77 => ?_)
          have f77 : v77 = pfN N k.toNat l := (e77.trans ((hb 0 (by omega)).trans (pfB_0 _ _ _ _)))
          refine And.intro ⟨(zx0 rfl), (zP_164 hS (by omega) (by omega))⟩ ⟨_, (zWi (by omega)), ?_⟩
          refine And.intro ⟨(by omega), (by omega)⟩ ⟨fun h86 => ?_, (fun h86 => False.elim (by omega))⟩
          refine And.intro (zA_154 hS) (Exists.intro _ (And.intro (zinl_ok (zT5_12 1)) (And.intro rfl ?_)))
          refine And.intro (zA_154 hS) (zrd (v := (o + 1 + 33 * pfN N k.toNat l)) hp ?_)
          refine And.intro ⟨(by omega), (zRb rfl)⟩ ⟨(fun h7_94 => False.elim (by omega)), fun h7_94 => ?_⟩
          refine And.intro (zA_154 hS) (zrdR (v := some 164) (zR_154_12 hR) ?_)
          refine And.intro (zA_154 hS) (zrd (v := (o + 1 + 33 * pfN N k.toNat l)) hp ?_)
          refine And.intro ⟨(zx0 rfl), (zP_164 hS (by omega) (by omega))⟩ ⟨_, (zWi (zRb rfl)), ?_⟩
          refine And.intro (zA_154 hS) (zrd (v := (o + 1 + 33 * pfN N k.toNat l)) hp ?_)
          refine And.intro (zA_154 hS) ⟨_, (zWi (by omega)), ?_⟩
          refine ⟨((rW N l - 1), (33 - (0 : Int)).toNat, 0), zlt6 (by omega), [some (zvr (154)), some (zvi (r)), some (zvi (k)), some (zvi (o)), some (zvi (rW N l)), some (zvi (480 * r + 32 * rO N l)), some (zvi (pfK k.toNat l)), some (zvi (l)), some (zvi (pfO (pfK k.toNat l))), some (zvi ((0 : Int)))], ⟨rfl, rfl, rfl, rfl, rfl, rfl, rfl, rfl, (congrArg (fun z => some (zvi z)) (by unfold pfO; split <;> omega)), rfl, rfl⟩, l, 0, rfl, rfl, rfl, rfl, rfl, rfl, hl, hu, (by omega), (by unfold pfO; split <;> omega), (by omega), (Eq.trans (b := (((o + 1 + 33 * pfN N k.toNat l) + 1) : Int)) rfl (by omega)), ?_, (fun c j h0 h1 => (zxcj h1 (zxcj (by omega) (zxcj (by omega) ((fr c j (by omega) (by omega)).trans rfl)))))⟩
          · intro j hj
            have ho : pfO (pfK k.toNat l) < rW N l := by unfold pfO; split <;> omega
            have e9 : pfB tt N k.toNat (l + 1) j = (if j = 0 then ((pfN N k.toNat (l + 1) : Nat) : Int) else if pfO (pfK k.toNat l) < rW N l then (if j = 1 + 33 * pfN N k.toNat l then (if pfO (pfK k.toNat l) < pfK k.toNat l then 0 else 1) else if 1 + 33 * pfN N k.toNat l < j ∧ j < 34 + 33 * pfN N k.toNat l then rD tt N l (pfO (pfK k.toNat l)) (j - 2 - 33 * pfN N k.toNat l) else pfB tt N k.toNat l j) else pfB tt N k.toNat l j) := rfl
            rw [e9, if_pos ho]
            have e8 := hb 0 (by omega)
            rw [pfB_0, Nat.add_zero] at e8
            by_cases h : j = 0
            · subst h
              rw [if_pos rfl, hn2, if_pos ho]
              refine zxu (by decide) (zxs (by omega) ?_)
              rw [Nat.add_zero]
              refine zxe.trans ?_
              rw [e77, e8]
              rfl
            · rw [if_neg h]
              by_cases h2 : j = 1 + 33 * pfN N k.toNat l
              · rw [if_pos h2, show o.toNat + j = (o + 1 + 33 * (pfN N k.toNat l : Int)).toNat by omega]
                refine (zxu (by decide) zxe).trans ?_
                have h86' := h86
                unfold pfO
                split <;> split <;> omega
              · rw [if_neg h2, if_neg (by omega)]
                exact zxu (by decide) (zxs (by omega) (zxs (by omega) (hb j (by omega))))
  · rintro nM lsM stM I1 L1 R1 S1 hz1 ⟨l, i, rfl, rfl, rfl, rfl, rfl, rfl, hl, hu, hw1, hot, hi, hp, hb, fr⟩
    have hwl := hwu l
    have hol := hou l
    have hn1 := pfN_le N k.toNat l
    have hkl := pfK_lt hk0 l
    have hn2 : pfN N k.toNat (l + 1) = pfN N k.toNat l + 1 := congrArg _ (if_pos hot)
    have hk2 : pfK k.toNat (l + 1) = pfK k.toNat l / 2 := rfl
    refine And.intro ⟨(by omega), (zRb rfl)⟩ ⟨fun h104 => ?_, fun h104 => ?_⟩
    · refine And.intro ⟨(by omega), (zRb rfl), (by decide)⟩ (zdv (by omega) (fun q148 e148 => ?_))
      refine And.intro ⟨(by omega), (zRb rfl), (by decide)⟩ (zdv (by omega) (fun q154 e154 => ?_))
      refine ⟨((rW N (l + 1)), 0, 0), zlt6 (by omega), [some (zvr (154)), some (zvi (r)), some (zvi (k)), some (zvi (o)), some (zvi (rW N (l + 1))), some (zvi (480 * r + 32 * rO N (l + 1))), some (zvi (pfK k.toNat (l + 1))), some (zvi ((l + 1))), none, none], ⟨rfl, rfl, rfl, rfl, (congrArg (fun z => some (zvi z)) (by omega)), (congrArg (fun z => some (zvi z)) (by omega)), (congrArg (fun z => some (zvi z)) (by omega)), rfl, rfl⟩, (l + 1), rfl, rfl, rfl, rfl, rfl, rfl, (by omega), ?_, (Eq.trans (b := ((o + 2 + 33 * pfN N k.toNat l + i) : Int)) hp (by omega)), (fun j hj => hb j (by omega)), (fun c j h0 h1 => ((fr c j (by omega) (by omega)).trans rfl))⟩
      · intro m hm
        by_cases h : m = l
        · rw [h]; omega
        · exact hu m (by omega)
    · refine And.intro (zA_154 hS) (zrdR (v := some 157) (zR_154_3 hR) ?_)
      refine And.intro (zP_157 hS (by omega) (by omega)) (fun v123 e123 r123 => ?_)
      refine And.intro (zA_154 hS) (Exists.intro _ (And.intro (zinl_ok (zT5_12 1)) (And.intro rfl ?_)))
      refine And.intro (zA_154 hS) (zrd (v := (o + 2 + 33 * pfN N k.toNat l + i)) hp ?_)
      refine And.intro ⟨(by omega), (zRb rfl)⟩ ⟨(fun h7_124 => False.elim (by omega)), fun h7_124 => ?_⟩
      refine And.intro (zA_154 hS) (zrdR (v := some 164) (zR_154_12 hR) ?_)
      refine And.intro (zA_154 hS) (zrd (v := (o + 2 + 33 * pfN N k.toNat l + i)) hp ?_)
      refine And.intro ⟨(zx0 rfl), (zP_164 hS (by omega) (by omega))⟩ ⟨_, (zWi r123), ?_⟩
      refine And.intro (zA_154 hS) (zrd (v := (o + 2 + 33 * pfN N k.toNat l + i)) hp ?_)
      refine And.intro (zA_154 hS) ⟨_, (zWi (by omega)), ?_⟩
      refine ⟨((rW N l - 1), (33 - (i + 1)).toNat, 0), zlt6 (by omega), [some (zvr (154)), some (zvi (r)), some (zvi (k)), some (zvi (o)), some (zvi (rW N l)), some (zvi (480 * r + 32 * rO N l)), some (zvi (pfK k.toNat l)), some (zvi (l)), some (zvi (pfO (pfK k.toNat l))), some (zvi ((i + 1)))], ⟨rfl, rfl, rfl, rfl, rfl, rfl, rfl, rfl, rfl, rfl, rfl⟩, l, (i + 1), rfl, rfl, rfl, rfl, rfl, rfl, hl, hu, hw1, hot, (by omega), (Eq.trans (b := (((o + 2 + 33 * pfN N k.toNat l + i) + 1) : Int)) rfl (by omega)), ?_, (fun c j h0 h1 => (zxcj h1 (zxcj (by omega) ((fr c j (by omega) (by omega)).trans rfl))))⟩
      · intro j hj
        by_cases h : (j : Int) = 2 + 33 * pfN N k.toNat l + i
        · rw [show o.toNat + j = (o + 2 + 33 * (pfN N k.toNat l : Int) + i).toNat by omega]
          refine (zxu (by decide) zxe).trans ?_
          have e9 : pfB tt N k.toNat (l + 1) j = (if j = 0 then ((pfN N k.toNat (l + 1) : Nat) : Int) else if pfO (pfK k.toNat l) < rW N l then (if j = 1 + 33 * pfN N k.toNat l then (if pfO (pfK k.toNat l) < pfK k.toNat l then 0 else 1) else if 1 + 33 * pfN N k.toNat l < j ∧ j < 34 + 33 * pfN N k.toNat l then rD tt N l (pfO (pfK k.toNat l)) (j - 2 - 33 * pfN N k.toNat l) else pfB tt N k.toNat l j) else pfB tt N k.toNat l j) := rfl
          rw [e9, if_neg (by omega), if_pos hot, if_neg (by omega), if_pos (by omega), ← hd l _ _ hu hot (by omega), e123, fr _ _ (by omega) (by omega)]
          congr 1
          omega
        · exact zxu (by decide) (zxs (by omega) (hb j (by omega))))
def T_A_proofByte : ZT := fun args I L R S Q => ∃ (a : Int) (k : Int) (i : Int) (cn : Nat) (t : Nat → Nat → Int) (n : Nat → Nat), args = [zvr 154, zvi a, zvi k, zvi i] ∧ (zSh S) ∧ (zRs R) ∧ (r32 a ∧ r32 k ∧ r32 i) ∧ (zRA cn t n I) ∧ ∀ (v : Int) (I' : ZI), (v = if 0 ≤ a ∧ a < cn ∧ 0 ≤ k ∧ k < rW (n a.toNat) 0 ∧ 0 ≤ i ∧ i < 1 + 33 * pfN (n a.toNat) k.toNat (rT (n a.toNat)) then pfB (t a.toNat) (n a.toNat) k.toNat (rT (n a.toNat)) i.toNat else -1) → (∀ c j : Nat, ¬ c = 164 → ¬ (c = 154 ∧ j = 13) → I' c j = I c j) → Q (some (zvi (v))) I' L R S
theorem sn_A_proofByte : ZSnd 4 5 19 T_A_proofByte := ZSnd.of (zT5_19 3) (by
  rintro args I L R S Q hz ⟨a, k, i, cn, t, n, rfl, hS, hR, ra, hRA, hQ⟩
  obtain ⟨hc, hcn, hr⟩ := id hRA
  refine And.intro rfl ?_
  refine And.intro (zA_154 hS) (Exists.intro _ (And.intro (zinl_ok (zT5_10 2)) (And.intro rfl ?_)))
  refine And.intro (by omega) ⟨fun h1_3 => ?_, fun h1_3 => ?_⟩
  · refine And.intro (Or.inl rfl) ?_
    refine And.intro (zRb rfl) (zbf rfl ?_)
    refine hQ _ _ ?_ (fun c j h0 h1 => rfl)
    · first
      | exact (if_neg (by omega)).symm
      | (have h3 := rT_le (n a.toNat)
         have h4 := pfN_le (n a.toNat) k.toNat (rT (n a.toNat))
         rw [if_pos (by omega), e39, ← p19bhb i.toNat (by omega)]
         congr 1
         show i.toNat = 0 + i.toNat
         omega)
      | (have h3 := rT_le (n a.toNat)
         rw [if_neg (by omega)])
  · refine And.intro (zA_154 hS) (Exists.intro _ (And.intro (zinl_ok (zT5_14 1)) (And.intro rfl ?_)))
    refine And.intro (zA_154 hS) (Exists.intro _ (And.intro (zinl_ok (zT5_11 0)) (And.intro rfl ?_)))
    refine And.intro (by omega) ⟨fun h1_3_7_2 => ?_, fun h1_3_7_2 => ?_⟩
    · refine And.intro (Or.inl rfl) ?_
      refine And.intro (zRb rfl) (zbt rfl ?_)
      refine And.intro ⟨(by omega), (zRb rfl)⟩ ⟨fun h10_3 => ?_, (fun h10_3 => False.elim (by omega))⟩
      refine And.intro (Or.inl rfl) ?_
      refine And.intro (zRb rfl) (zbf rfl ?_)
      refine hQ _ _ ?_ (fun c j h0 h1 => rfl)
      · first
        | exact (if_neg (by omega)).symm
        | (have h3 := rT_le (n a.toNat)
           have h4 := pfN_le (n a.toNat) k.toNat (rT (n a.toNat))
           rw [if_pos (by omega), e39, ← p19bhb i.toNat (by omega)]
           congr 1
           show i.toNat = 0 + i.toNat
           omega)
        | (have h3 := rT_le (n a.toNat)
           rw [if_neg (by omega)])
    · refine And.intro (zA_154 hS) (zrd (v := cn) hc ?_)
      refine And.intro ⟨(by omega), (by omega)⟩ ⟨fun h9_3_7_2 => ?_, fun h9_3_7_2 => ?_⟩
      · refine And.intro (Or.inl rfl) ?_
        refine And.intro (zRb rfl) (zbt rfl ?_)
        refine And.intro ⟨(by omega), (zRb rfl)⟩ ⟨fun h10_3 => ?_, (fun h10_3 => False.elim (by omega))⟩
        refine And.intro (Or.inl rfl) ?_
        refine And.intro (zRb rfl) (zbf rfl ?_)
        refine hQ _ _ ?_ (fun c j h0 h1 => rfl)
        · first
          | exact (if_neg (by omega)).symm
          | (have h3 := rT_le (n a.toNat)
             have h4 := pfN_le (n a.toNat) k.toNat (rT (n a.toNat))
             rw [if_pos (by omega), e39, ← p19bhb i.toNat (by omega)]
             congr 1
             show i.toNat = 0 + i.toNat
             omega)
          | (have h3 := rT_le (n a.toNat)
             rw [if_neg (by omega)])
      · have t9_3_7_2 : 1 ≤ n a.toNat ∧ n a.toNat ≤ 512 ∧ rW (n a.toNat) 0 = (n a.toNat + 63) / 64 := ⟨(hr a.toNat (by omega)).1.1, (hr a.toNat (by omega)).1.2.1, rfl⟩
        have t9_3_7_2b : pfN (n a.toNat) k.toNat (rT (n a.toNat)) ≤ 3 := (Nat.le_trans (pfN_le _ _ _) (rT_le _))
        refine And.intro (Or.inr rfl) ?_
        refine And.intro (zRb rfl) (zbf rfl ?_)
        refine And.intro (zA_154 hS) (zrdR (v := some 156) (zR_154_2 hR) ?_)
        refine And.intro (zP_156 hS (by omega) (by omega)) (fun v13_3_7 e13_3_7 r13_3_7 => ?_)
        have f13_3_7 : v13_3_7 = n a.toNat := e13_3_7.trans (hr a.toNat (by omega)).1.2.2
        refine And.intro ⟨(by omega), (zRb rfl), (by decide)⟩ (fun q21_3_7 e21_3_7 e21_3_7' => ?_)
        refine And.intro ⟨(by omega), (by omega)⟩ ⟨fun h10_3 => ?_, fun h10_3 => ?_⟩
        · refine And.intro (Or.inl rfl) ?_
          refine And.intro (zRb rfl) (zbf rfl ?_)
          refine hQ _ _ ?_ (fun c j h0 h1 => rfl)
          · first
            | exact (if_neg (by omega)).symm
            | (have h3 := rT_le (n a.toNat)
               have h4 := pfN_le (n a.toNat) k.toNat (rT (n a.toNat))
               rw [if_pos (by omega), e39, ← p19bhb i.toNat (by omega)]
               congr 1
               show i.toNat = 0 + i.toNat
               omega)
            | (have h3 := rT_le (n a.toNat)
               rw [if_neg (by omega)])
        · refine And.intro (Or.inr rfl) ?_
          refine And.intro (zRb rfl) (zbt rfl ?_)
          refine And.intro (zA_154 hS) ⟨_, (zWi (zRb rfl)), ?_⟩
          refine And.intro (zA_154 hS) ⟨_, sn_A_addProof.up (by decide), ?_⟩
          refine ⟨(a : Int), (k : Int), (0 : Int), _, _, _, rfl, hS, hR, (zRA_fr hRA (fun c j h => zxcj (by omega) rfl)), (by omega), (by omega), rfl, (by omega), ?_⟩
          intro I19o p19hp p19bhb p19bbfr
          refine And.intro (by omega) ⟨fun h23 => ?_, fun h23 => ?_⟩
          · refine hQ _ _ ?_ (fun c j h0 h1 => ((p19bbfr c j (by omega) (by omega)).trans (zxcj h1 rfl)))
            · first
              | exact (if_neg (by omega)).symm
              | (have h3 := rT_le (n a.toNat)
                 have h4 := pfN_le (n a.toNat) k.toNat (rT (n a.toNat))
                 rw [if_pos (by omega), e39, ← p19bhb i.toNat (by omega)]
                 congr 1
                 show i.toNat = 0 + i.toNat
                 omega)
              | (have h3 := rT_le (n a.toNat)
                 rw [if_neg (by omega)])
          · refine And.intro (zA_154 hS) (zrd (v := (0 + 1 + 33 * pfN (n a.toNat) k.toNat (rT (n a.toNat)))) p19hp ?_)
            refine And.intro ⟨(by omega), (by omega)⟩ ⟨fun h31 => ?_, fun h31 => ?_⟩
            · refine hQ _ _ ?_ (fun c j h0 h1 => ((p19bbfr c j (by omega) (by omega)).trans (zxcj h1 rfl)))
              · first
                | exact (if_neg (by omega)).symm
                | (have h3 := rT_le (n a.toNat)
                   have h4 := pfN_le (n a.toNat) k.toNat (rT (n a.toNat))
                   rw [if_pos (by omega), e39, ← p19bhb i.toNat (by omega)]
                   congr 1
                   show i.toNat = 0 + i.toNat
                   omega)
                | (have h3 := rT_le (n a.toNat)
                   rw [if_neg (by omega)])
            · refine And.intro (zA_154 hS) (zrdR (v := some 164) (zR_154_12 hR) ?_)
              refine And.intro (zP_164 hS (by omega) (by omega)) (fun v39 e39 r39 => ?_)
              refine hQ _ _ ?_ (fun c j h0 h1 => ((p19bbfr c j (by omega) (by omega)).trans (zxcj h1 rfl)))
              · first
                | exact (if_neg (by omega)).symm
                | (have h3 := rT_le (n a.toNat)
                   have h4 := pfN_le (n a.toNat) k.toNat (rT (n a.toNat))
                   rw [if_pos (by omega), e39, ← p19bhb i.toNat (by omega)]
                   congr 1
                   show i.toNat = 0 + i.toNat
                   omega)
                | (have h3 := rT_le (n a.toNat)
                   rw [if_neg (by omega)]))
def T_A_step : ZT := fun args I L R S Q => ∃ (a : Int) (bc : Nat) (b : Nat → Int) (d : Nat → Int), args = [zvr 154, zvi a] ∧ (zSh S) ∧ (zRs R) ∧ (zSt I L) ∧ (0 ≤ a ∧ a + 33 ≤ bc ∧ bc ≤ 201) ∧ (∀ i : Nat, i < bc → I 164 i = b i ∧ 0 ≤ b i ∧ b i ≤ 255) ∧ (∀ i : Nat, i < 32 → I 163 i = d i ∧ 0 ≤ d i ∧ d i ≤ 255) ∧ ∀ (I' : ZI), (∀ j : Nat, j < 32 → I' 163 j = shD (if b a.toNat = 0 then rnM (fun i => b (a.toNat + 1 + i)) d else rnM d (fun i => b (a.toNat + 1 + i))) 65 j) → (∀ c j : Nat, ¬ c = 160 → ¬ c = 161 → ¬ c = 162 → ¬ c = 163 → ¬ (c = 154 ∧ j = 8) → I' c j = I c j) → Q none I' L R S
theorem sn_A_step : ZSnd 4 5 25 T_A_step := ZSnd.loops (zT5_25 3) (by
  rintro args I L R S Q hz ⟨a, bc, b, d, rfl, hS, hR, hT, h0, hb, hd, hQ⟩
  refine ⟨[27], fun nM tM lsM stM I1 L1 R1 S1 => match tM with
      | 27 => ∃ (z : Int) (i : Int), nM = ((64 - i).toNat, 0, 0) ∧ lsM = [some (zvr (154)), some (zvi (a)), some (zvi (z)), some (zvi (i)), none] ∧ stM = [] ∧ L1 = L ∧ R1 = R ∧ S1 = S ∧ ((z = 1 ∧ b a.toNat = 0) ∨ (z = 0 ∧ ¬ b a.toNat = 0)) ∧ (0 ≤ z ∧ z ≤ 1) ∧ (0 ≤ i ∧ i ≤ 64) ∧ (I1 154 8 = 1 + i) ∧ (∀ j : Nat, (j : Int) < 1 + i → I1 160 j = (if b a.toNat = 0 then rnM (fun i => b (a.toNat + 1 + i)) d else rnM d (fun i => b (a.toNat + 1 + i))) j) ∧ (∀ c j : Nat, ¬ c = 160 → ¬ (c = 154 ∧ j = 8) → I1 c j = I c j)
      | _ => False, rfl, ?_, ⟨?_, True.intro⟩⟩
  · refine And.intro (zA_154 hS) (zrdR (v := some 164) (zR_154_12 hR) ?_)
    refine And.intro (zP_164 hS (by omega) (by omega)) (fun v5 e5 r5 => ?_)
    refine And.intro r5 ⟨fun h6 => ?_, fun h6 => ?_⟩
    · refine And.intro (zA_154 hS) ⟨_, (zWi (zRb rfl)), ?_⟩
      refine And.intro (zA_154 hS) (Exists.intro _ (And.intro (zinl_ok (zT5_1 2)) (And.intro rfl ?_)))
      refine And.intro (zA_154 hS) (zrd (v := 0) rfl ?_)
      refine And.intro (zA_154 hS) (zrdR (v := some 160) (zR_154_7 hR) ?_)
      refine And.intro (zN_160 hS) (zrdN (v := 128) (zV_160 hS) ?_)
      refine And.intro ⟨(zRb rfl), (zRb rfl)⟩ (zbf rfl ?_)
      refine And.intro (zA_154 hS) (zrdR (v := some 160) (zR_154_7 hR) ?_)
      refine And.intro (zA_154 hS) (zrd (v := 0) rfl ?_)
      have b24_22 : (zand 1 255) = 1 % 256 := zand255 _
      refine And.intro ⟨(zx0 rfl), (zP_160 hS (by omega) (by omega))⟩ ⟨_, (zWi zr_and), ?_⟩
      refine And.intro (zA_154 hS) (zrd (v := 0) rfl ?_)
      refine And.intro (zA_154 hS) ⟨_, (zWi (zRb rfl)), ?_⟩
      refine ⟨((64 - (0 : Int)).toNat, 0, 0), [some (zvr (154)), some (zvi (a)), some (zvi ((0 : Int))), some (zvi ((0 : Int))), none], ⟨rfl, rfl, rfl, rfl, rfl⟩, 0, 0, rfl, rfl, rfl, rfl, rfl, rfl, (by have := e5.trans (hb _ (by omega)).1; omega), (by omega), (by omega), (Eq.trans (b := ((0 + 1) : Int)) rfl (by omega)), ?_, (fun c j h0 h1 => (zxcj h1 (zxu h0 (zxcj h1 rfl))))⟩
      · intro j hj
        obtain rfl : j = 0 := by omega
        refine ((zxu (by decide) zxe).trans b24_22).trans ?_
        split <;> rfl
    · refine And.intro (zA_154 hS) ⟨_, (zWi (zRb rfl)), ?_⟩
      refine And.intro (zA_154 hS) (Exists.intro _ (And.intro (zinl_ok (zT5_1 2)) (And.intro rfl ?_)))
      refine And.intro (zA_154 hS) (zrd (v := 0) rfl ?_)
      refine And.intro (zA_154 hS) (zrdR (v := some 160) (zR_154_7 hR) ?_)
      refine And.intro (zN_160 hS) (zrdN (v := 128) (zV_160 hS) ?_)
      refine And.intro ⟨(zRb rfl), (zRb rfl)⟩ (zbf rfl ?_)
      refine And.intro (zA_154 hS) (zrdR (v := some 160) (zR_154_7 hR) ?_)
      refine And.intro (zA_154 hS) (zrd (v := 0) rfl ?_)
      have b24_22 : (zand 1 255) = 1 % 256 := zand255 _
      refine And.intro ⟨(zx0 rfl), (zP_160 hS (by omega) (by omega))⟩ ⟨_, (zWi zr_and), ?_⟩
      refine And.intro (zA_154 hS) (zrd (v := 0) rfl ?_)
      refine And.intro (zA_154 hS) ⟨_, (zWi (zRb rfl)), ?_⟩
      refine ⟨((64 - (0 : Int)).toNat, 0, 0), [some (zvr (154)), some (zvi (a)), some (zvi ((1 : Int))), some (zvi ((0 : Int))), none], ⟨rfl, rfl, rfl, rfl, rfl⟩, 1, 0, rfl, rfl, rfl, rfl, rfl, rfl, (by have := e5.trans (hb _ (by omega)).1; omega), (by omega), (by omega), (Eq.trans (b := ((0 + 1) : Int)) rfl (by omega)), ?_, (fun c j h0 h1 => (zxcj h1 (zxu h0 (zxcj h1 rfl))))⟩
      · intro j hj
        obtain rfl : j = 0 := by omega
        refine ((zxu (by decide) zxe).trans b24_22).trans ?_
        split <;> rfl
  · rintro nM lsM stM I1 L1 R1 S1 hz1 ⟨z, i, rfl, rfl, rfl, rfl, rfl, rfl, hz0, hz2, hi, hp, hm1, fr⟩
    refine And.intro ⟨(by omega), (zRb rfl)⟩ ⟨fun h30 => ?_, fun h30 => ?_⟩
    · refine And.intro (zA_154 hS) ⟨_, sn_A_dig.up (by decide), ?_⟩
      refine ⟨_, (if b a.toNat = 0 then rnM (fun i => b (a.toNat + 1 + i)) d else rnM d (fun i => b (a.toNat + 1 + i))), rfl, hS, hR, (zStf hT (fun c j h1 h2 => ⟨((fr c j (by omega) (by omega)).trans rfl), rfl⟩)), hp, (by omega), (fun j hj => hm1 j (by omega)), ?_⟩
      intro I96o p96hd p96bfr
      refine hQ _ (fun j hj => by have := p96hd j hj; rwa [show (1 + i).toNat = 65 by omega] at this) (fun c j h0 h1 h2 h3 h4 => ((p96bfr c j (by omega) (by omega) (by omega) (by omega) (by omega)).trans ((fr c j (by omega) (by omega)).trans rfl)))
    · refine And.intro ⟨(by omega), (zRb rfl)⟩ ⟨fun h36 => ?_, fun h36 => ?_⟩
      · refine And.intro ⟨(zRb rfl), (by omega)⟩ ⟨fun h45 => ?_, fun h45 => ?_⟩
        · refine And.intro (zRb rfl) (zbt rfl ?_)
          refine And.intro (zA_154 hS) (zrdR (v := some 163) (zR_154_11 hR) ?_)
          refine And.intro ⟨(by omega), (zRb rfl), (by decide)⟩ (zdv (by omega) (fun q84 e84 => ?_))
          refine And.intro (zP_163 hS (by omega) (by omega)) (fun v85 e85 r85 => ?_)
          refine And.intro (zA_154 hS) (Exists.intro _ (And.intro (zinl_ok (zT5_1 2)) (And.intro rfl ?_)))
          refine And.intro (zA_154 hS) (zrd (v := (1 + i)) hp ?_)
          refine And.intro (zA_154 hS) (zrdR (v := some 160) (zR_154_7 hR) ?_)
          refine And.intro (zN_160 hS) (zrdN (v := 128) (zV_160 hS) ?_)
          refine And.intro ⟨(by omega), (zRb rfl)⟩ ⟨(fun h9_86 => False.elim (by omega)), fun h9_86 => ?_⟩
          refine And.intro (zA_154 hS) (zrdR (v := some 160) (zR_154_7 hR) ?_)
          refine And.intro (zA_154 hS) (zrd (v := (1 + i)) hp ?_)
          have b24_86 : (zand v85 255) = v85 % 256 := zand255 _
          refine And.intro ⟨(zx0 rfl), (zP_160 hS (by omega) (by omega))⟩ ⟨_, (zWi zr_and), ?_⟩
          refine And.intro (zA_154 hS) (zrd (v := (1 + i)) hp ?_)
          refine And.intro (zA_154 hS) ⟨_, (zWi (by omega)), ?_⟩
          refine ⟨((64 - (i + 1)).toNat, 0, 0), zlt6 (by omega), [some (zvr (154)), some (zvi (a)), some (zvi (z)), some (zvi ((i + 1))), none], ⟨rfl, rfl, rfl, rfl, rfl⟩, z, (i + 1), rfl, rfl, rfl, rfl, rfl, rfl, hz0, (by omega), (by omega), (Eq.trans (b := (((1 + i) + 1) : Int)) rfl (by omega)), ?_, (fun c j h0 h1 => (zxcj h1 (zxu h0 ((fr c j (by omega) (by omega)).trans rfl))))⟩
          · intro j hj
            by_cases h : j = (1 + i).toNat
            · subst h
              refine (zxu (by decide) zxe).trans ?_
              first
              | (obtain ⟨q1, q2, q3⟩ := hb (a + 1 + q71).toNat (by omega)
                 rw [b24_86, e73, fr _ _ (by omega) (by omega), q1]
                 have q4 : b (a + 1 + q71).toNat % 256 = b (a + 1 + q71).toNat := by omega
                 rw [q4]
                 split
                 · unfold rnM
                   rw [if_neg (by omega), if_pos (by omega)]
                   congr 1
                   omega
                 · unfold rnM
                   rw [if_neg (by omega), if_neg (by omega)]
                   congr 1
                   omega)
              | (obtain ⟨q1, q2, q3⟩ := hd q84.toNat (by omega)
                 rw [b24_86, e85, fr _ _ (by omega) (by omega), q1]
                 have q4 : d q84.toNat % 256 = d q84.toNat := by omega
                 rw [q4]
                 split
                 · unfold rnM
                   rw [if_neg (by omega), if_neg (by omega)]
                   congr 1
                   omega
                 · unfold rnM
                   rw [if_neg (by omega), if_pos (by omega)]
                   congr 1
                   omega)
            · exact zxu (by decide) (zxs h (hm1 j (by omega)))
        · refine And.intro (zRb rfl) (zbf rfl ?_)
          refine And.intro (zA_154 hS) (zrdR (v := some 164) (zR_154_12 hR) ?_)
          refine And.intro ⟨(by omega), (zRb rfl), (by decide)⟩ (zdv (by omega) (fun q71 e71 => ?_))
          refine And.intro (zP_164 hS (by omega) (by omega)) (fun v73 e73 r73 => ?_)
          refine And.intro (zA_154 hS) (Exists.intro _ (And.intro (zinl_ok (zT5_1 2)) (And.intro rfl ?_)))
          refine And.intro (zA_154 hS) (zrd (v := (1 + i)) hp ?_)
          refine And.intro (zA_154 hS) (zrdR (v := some 160) (zR_154_7 hR) ?_)
          refine And.intro (zN_160 hS) (zrdN (v := 128) (zV_160 hS) ?_)
          refine And.intro ⟨(by omega), (zRb rfl)⟩ ⟨(fun h9_86 => False.elim (by omega)), fun h9_86 => ?_⟩
          refine And.intro (zA_154 hS) (zrdR (v := some 160) (zR_154_7 hR) ?_)
          refine And.intro (zA_154 hS) (zrd (v := (1 + i)) hp ?_)
          have b24_86 : (zand v73 255) = v73 % 256 := zand255 _
          refine And.intro ⟨(zx0 rfl), (zP_160 hS (by omega) (by omega))⟩ ⟨_, (zWi zr_and), ?_⟩
          refine And.intro (zA_154 hS) (zrd (v := (1 + i)) hp ?_)
          refine And.intro (zA_154 hS) ⟨_, (zWi (by omega)), ?_⟩
          refine ⟨((64 - (i + 1)).toNat, 0, 0), zlt6 (by omega), [some (zvr (154)), some (zvi (a)), some (zvi (z)), some (zvi ((i + 1))), none], ⟨rfl, rfl, rfl, rfl, rfl⟩, z, (i + 1), rfl, rfl, rfl, rfl, rfl, rfl, hz0, (by omega), (by omega), (Eq.trans (b := (((1 + i) + 1) : Int)) rfl (by omega)), ?_, (fun c j h0 h1 => (zxcj h1 (zxu h0 ((fr c j (by omega) (by omega)).trans rfl))))⟩
          · intro j hj
            by_cases h : j = (1 + i).toNat
            · subst h
              refine (zxu (by decide) zxe).trans ?_
              first
              | (obtain ⟨q1, q2, q3⟩ := hb (a + 1 + q71).toNat (by omega)
                 rw [b24_86, e73, fr _ _ (by omega) (by omega), q1]
                 have q4 : b (a + 1 + q71).toNat % 256 = b (a + 1 + q71).toNat := by omega
                 rw [q4]
                 split
                 · unfold rnM
                   rw [if_neg (by omega), if_pos (by omega)]
                   congr 1
                   omega
                 · unfold rnM
                   rw [if_neg (by omega), if_neg (by omega)]
                   congr 1
                   omega)
              | (obtain ⟨q1, q2, q3⟩ := hd q84.toNat (by omega)
                 rw [b24_86, e85, fr _ _ (by omega) (by omega), q1]
                 have q4 : d q84.toNat % 256 = d q84.toNat := by omega
                 rw [q4]
                 split
                 · unfold rnM
                   rw [if_neg (by omega), if_neg (by omega)]
                   congr 1
                   omega
                 · unfold rnM
                   rw [if_neg (by omega), if_pos (by omega)]
                   congr 1
                   omega)
            · exact zxu (by decide) (zxs h (hm1 j (by omega)))
      · refine And.intro ⟨(zRb rfl), (by omega)⟩ ⟨fun h45 => ?_, fun h45 => ?_⟩
        · refine And.intro (zRb rfl) (zbt rfl ?_)
          refine And.intro (zA_154 hS) (zrdR (v := some 163) (zR_154_11 hR) ?_)
          refine And.intro ⟨(by omega), (zRb rfl), (by decide)⟩ (zdv (by omega) (fun q84 e84 => ?_))
          refine And.intro (zP_163 hS (by omega) (by omega)) (fun v85 e85 r85 => ?_)
          refine And.intro (zA_154 hS) (Exists.intro _ (And.intro (zinl_ok (zT5_1 2)) (And.intro rfl ?_)))
          refine And.intro (zA_154 hS) (zrd (v := (1 + i)) hp ?_)
          refine And.intro (zA_154 hS) (zrdR (v := some 160) (zR_154_7 hR) ?_)
          refine And.intro (zN_160 hS) (zrdN (v := 128) (zV_160 hS) ?_)
          refine And.intro ⟨(by omega), (zRb rfl)⟩ ⟨(fun h9_86 => False.elim (by omega)), fun h9_86 => ?_⟩
          refine And.intro (zA_154 hS) (zrdR (v := some 160) (zR_154_7 hR) ?_)
          refine And.intro (zA_154 hS) (zrd (v := (1 + i)) hp ?_)
          have b24_86 : (zand v85 255) = v85 % 256 := zand255 _
          refine And.intro ⟨(zx0 rfl), (zP_160 hS (by omega) (by omega))⟩ ⟨_, (zWi zr_and), ?_⟩
          refine And.intro (zA_154 hS) (zrd (v := (1 + i)) hp ?_)
          refine And.intro (zA_154 hS) ⟨_, (zWi (by omega)), ?_⟩
          refine ⟨((64 - (i + 1)).toNat, 0, 0), zlt6 (by omega), [some (zvr (154)), some (zvi (a)), some (zvi (z)), some (zvi ((i + 1))), none], ⟨rfl, rfl, rfl, rfl, rfl⟩, z, (i + 1), rfl, rfl, rfl, rfl, rfl, rfl, hz0, (by omega), (by omega), (Eq.trans (b := (((1 + i) + 1) : Int)) rfl (by omega)), ?_, (fun c j h0 h1 => (zxcj h1 (zxu h0 ((fr c j (by omega) (by omega)).trans rfl))))⟩
          · intro j hj
            by_cases h : j = (1 + i).toNat
            · subst h
              refine (zxu (by decide) zxe).trans ?_
              first
              | (obtain ⟨q1, q2, q3⟩ := hb (a + 1 + q71).toNat (by omega)
                 rw [b24_86, e73, fr _ _ (by omega) (by omega), q1]
                 have q4 : b (a + 1 + q71).toNat % 256 = b (a + 1 + q71).toNat := by omega
                 rw [q4]
                 split
                 · unfold rnM
                   rw [if_neg (by omega), if_pos (by omega)]
                   congr 1
                   omega
                 · unfold rnM
                   rw [if_neg (by omega), if_neg (by omega)]
                   congr 1
                   omega)
              | (obtain ⟨q1, q2, q3⟩ := hd q84.toNat (by omega)
                 rw [b24_86, e85, fr _ _ (by omega) (by omega), q1]
                 have q4 : d q84.toNat % 256 = d q84.toNat := by omega
                 rw [q4]
                 split
                 · unfold rnM
                   rw [if_neg (by omega), if_neg (by omega)]
                   congr 1
                   omega
                 · unfold rnM
                   rw [if_neg (by omega), if_pos (by omega)]
                   congr 1
                   omega)
            · exact zxu (by decide) (zxs h (hm1 j (by omega)))
        · refine And.intro (zRb rfl) (zbf rfl ?_)
          refine And.intro (zA_154 hS) (zrdR (v := some 164) (zR_154_12 hR) ?_)
          refine And.intro ⟨(by omega), (zRb rfl), (by decide)⟩ (zdv (by omega) (fun q71 e71 => ?_))
          refine And.intro (zP_164 hS (by omega) (by omega)) (fun v73 e73 r73 => ?_)
          refine And.intro (zA_154 hS) (Exists.intro _ (And.intro (zinl_ok (zT5_1 2)) (And.intro rfl ?_)))
          refine And.intro (zA_154 hS) (zrd (v := (1 + i)) hp ?_)
          refine And.intro (zA_154 hS) (zrdR (v := some 160) (zR_154_7 hR) ?_)
          refine And.intro (zN_160 hS) (zrdN (v := 128) (zV_160 hS) ?_)
          refine And.intro ⟨(by omega), (zRb rfl)⟩ ⟨(fun h9_86 => False.elim (by omega)), fun h9_86 => ?_⟩
          refine And.intro (zA_154 hS) (zrdR (v := some 160) (zR_154_7 hR) ?_)
          refine And.intro (zA_154 hS) (zrd (v := (1 + i)) hp ?_)
          have b24_86 : (zand v73 255) = v73 % 256 := zand255 _
          refine And.intro ⟨(zx0 rfl), (zP_160 hS (by omega) (by omega))⟩ ⟨_, (zWi zr_and), ?_⟩
          refine And.intro (zA_154 hS) (zrd (v := (1 + i)) hp ?_)
          refine And.intro (zA_154 hS) ⟨_, (zWi (by omega)), ?_⟩
          refine ⟨((64 - (i + 1)).toNat, 0, 0), zlt6 (by omega), [some (zvr (154)), some (zvi (a)), some (zvi (z)), some (zvi ((i + 1))), none], ⟨rfl, rfl, rfl, rfl, rfl⟩, z, (i + 1), rfl, rfl, rfl, rfl, rfl, rfl, hz0, (by omega), (by omega), (Eq.trans (b := (((1 + i) + 1) : Int)) rfl (by omega)), ?_, (fun c j h0 h1 => (zxcj h1 (zxu h0 ((fr c j (by omega) (by omega)).trans rfl))))⟩
          · intro j hj
            by_cases h : j = (1 + i).toNat
            · subst h
              refine (zxu (by decide) zxe).trans ?_
              first
              | (obtain ⟨q1, q2, q3⟩ := hb (a + 1 + q71).toNat (by omega)
                 rw [b24_86, e73, fr _ _ (by omega) (by omega), q1]
                 have q4 : b (a + 1 + q71).toNat % 256 = b (a + 1 + q71).toNat := by omega
                 rw [q4]
                 split
                 · unfold rnM
                   rw [if_neg (by omega), if_pos (by omega)]
                   congr 1
                   omega
                 · unfold rnM
                   rw [if_neg (by omega), if_neg (by omega)]
                   congr 1
                   omega)
              | (obtain ⟨q1, q2, q3⟩ := hd q84.toNat (by omega)
                 rw [b24_86, e85, fr _ _ (by omega) (by omega), q1]
                 have q4 : d q84.toNat % 256 = d q84.toNat := by omega
                 rw [q4]
                 split
                 · unfold rnM
                   rw [if_neg (by omega), if_neg (by omega)]
                   congr 1
                   omega
                 · unfold rnM
                   rw [if_neg (by omega), if_pos (by omega)]
                   congr 1
                   omega)
            · exact zxu (by decide) (zxs h (hm1 j (by omega))))
