
/-! run: the demands of a run are orders of the program -/
theorem mRa_12 {k p v : Int} {x : MsT} : (mRa k p v x).1.2 = x.1.2 := by
  unfold mRa
  split <;> rfl
def dmP (k : Int) (i : Nat) (x y : MsT) : Prop := y.1.2.2 = x.1.2.2 ∨ (k = 14 ∧ y.1.2.2 = (x.1.2.2.1 + 1, upF x.1.2.2.2 x.1.2.2.1 i))
theorem dmP_i {k : Int} {i : Nat} {x : MsT} {c : Prop} {d : Decidable c} {a b : MsT} (ha : c → dmP k i x a) (hb : ¬ c → dmP k i x b) : dmP k i x (@ite MsT c d a b) := by
  by_cases h : c
  · rw [if_pos h]; exact ha h
  · rw [if_neg h]; exact hb h
theorem dmP_r {k : Int} {i : Nat} {x y : MsT} {a b c : Int} (h : y.1.2 = x.1.2) : dmP k i x (mRa a b c y) := Or.inl (congrArg Prod.snd (mRa_12.trans h))
theorem mAc_dm {i : Nat} {o : OrT} {u : Nat → Int} {x : MsT} : dmP o.1 i x (mAc i o u x) := by
  unfold mAc
  dsimp only
  repeat' first
  | exact dmP_r rfl
  | refine dmP_i (fun _ => ?_) (fun _ => ?_)
  | exact Or.inl rfl
  | exact Or.inr ⟨by assumption, rfl⟩
theorem mSt_dm {R : Nat → OrT} {u : Nat → Int} {lim : Nat} {x : MsT} (hx : ¬ x.2.2.1.1 = 1) : (mSt R u lim x).1.2.2 = x.1.2.2 ∨ ((R x.2.2.2.2.1.toNat).1 = 14 ∧ (mSt R u lim x).1.2.2 = (x.1.2.2.1 + 1, upF x.1.2.2.2 x.1.2.2.1 x.2.2.2.2.1.toNat)) := by
  unfold mSt
  rw [if_neg hx]
  dsimp only
  repeat' split
  all_goals first
  | exact Or.inl rfl
  | exact Or.inl (congrArg Prod.snd mRa_12)
  | exact mAc_dm
def dmO (M : WkM) (D : DtT) : Prop := ∀ j, j < D.2.2.1 → D.2.2.2 j < M.2.2.2
theorem dmO_run {M : WkM} (hT : (M.1 M.2.2.2).1 = 20) {x0 : MsT} (h0 : dmO M x0.1) (hC : ∀ k, ¬ (itN (mSt M.1 M.2.1 M.2.2.1) k x0).2.2.1.1 = 1 → wkC M (itN (mSt M.1 M.2.1 M.2.2.1) k x0)) : ∀ k, dmO M (itN (mSt M.1 M.2.1 M.2.2.1) k x0).1
  | 0 => h0
  | k + 1 => by
    have ih := dmO_run hT h0 hC k
    have e : itN (mSt M.1 M.2.1 M.2.2.1) (k + 1) x0 = mSt M.1 M.2.1 M.2.2.1 (itN (mSt M.1 M.2.1 M.2.2.1) k x0) := itN_add (a := k) (b := 1)
    rw [e]
    have hc := hC k
    generalize itN (mSt M.1 M.2.1 M.2.2.1) k x0 = x at *
    by_cases hd : x.2.2.1.1 = 1
    · rw [mSt_d hd]; exact ih
    · have c := (hc hd).1
      rcases mSt_dm (R := M.1) (u := M.2.1) (lim := M.2.2.1) hd with w | ⟨w1, w2⟩
      · intro j hj
        have e1 : (mSt M.1 M.2.1 M.2.2.1 x).1.2.2.1 = x.1.2.2.1 := congrArg Prod.fst w
        have e2 : (mSt M.1 M.2.1 M.2.2.1 x).1.2.2.2 = x.1.2.2.2 := congrArg Prod.snd w
        rw [e2]
        exact ih j (by omega)
      · intro j hj
        have e1 : (mSt M.1 M.2.1 M.2.2.1 x).1.2.2.1 = x.1.2.2.1 + 1 := congrArg Prod.fst w2
        have e2 : (mSt M.1 M.2.1 M.2.2.1 x).1.2.2.2 = upF x.1.2.2.2 x.1.2.2.1 x.2.2.2.2.1.toNat := congrArg Prod.snd w2
        rw [e2]
        by_cases q : j = x.1.2.2.1
        · rw [q, upF_at]
          have n : x.2.2.2.2.1.toNat ≠ M.2.2.2 := fun z => by
            rw [z, hT] at w1
            exact absurd w1 (by decide)
          omega
        · rw [upF_i q]
          exact ih j (by omega)
theorem scRn_dm {n : Nat} {c clo fn : Nat → Int} {M : WkM} {G : WkG} {E : EvE} (h : scOk n c clo fn M G) : dmO M (scRn M E).1 := by
  obtain ⟨N, h1, h2, h3⟩ := scRn_m (E := E) h (fun _ => 0)
  have w := dmO_run h.2.2.2.1 (x0 := mS0 E (fun _ => 0)) (fun j hj => absurd hj (Nat.not_lt_zero j)) h3 N
  have e := congrArg (fun z => z.1) h2
  rw [← e]
  exact w
/-- run -/
noncomputable def lwRu (σ : LwS) (a : Int) : DtT × Int × (Int × Int × Int) := scRn (scP (scX (lwSc σ).1) a.toNat) (lwSc σ).2.1.1
noncomputable def lf30y (σ : LwS) (a : Int) : LwS × Int := (lws σ 0 ((lwSc σ).1, (lwRu σ a).1, (lwRu σ a).2.2), (lwRu σ a).2.1)
noncomputable def lf30 : ZSpf := fun σ a _ _ _ _ => if a < 1 ∨ 300 < a then (lws σ 2 (lwSc σ), -1) else lf30y σ a
theorem lwA30 : lwCA 30 lf30 := ZSnd.alt3 (sn_Z_rnM.up (by decide)) (sn_Z_rnN.up (by decide)) (sn_Z_rnY.up (by decide)) (by
  rintro args I L R S Q hz ⟨σ, a1, a2, a3, a4, a5, he, hr, hS, hcc, hP, hQ⟩
  have hs : iS (lwSc σ) := hP.1.2.2.2.2.2.1
  have hsc : scA (lwSc σ).1 (lwSc σ).2.1 (lwSc σ).2.2 I L R := hP.2.2.2.2.2.2.2.1
  by_cases ha : a1 < 1 ∨ 300 < a1
  · rw [show lf30 σ a1 a2 a3 a4 a5 = (lws σ 2 (lwSc σ), -1) from if_pos ha] at hQ
    have fin : ∀ I' : ZI, I' 40 3 = 2 → (∀ c j : Nat, ¬ (c = 40 ∧ j = 3) → I' c j = I c j) → Q (some (zvi (-1))) I' L R S := fun I' h3 hf => hQ I' L R S (lwA_d hP (by decide) h3 hf) (zfA_I (fun c j w => hf c j (by omega))) (zRb rfl)
    by_cases h3 : 300 < a1
    · exact Or.inl ⟨a1, he, hS, hP.2.1.1, hr.1, h3, fin⟩
    · exact Or.inr (Or.inl ⟨a1, he, hS, hP.2.1.1, hr.1, by omega, fin⟩)
  · rw [show lf30 σ a1 a2 a3 a4 a5 = lf30y σ a1 from if_neg ha] at hQ
    have ea : a1 = ((a1.toNat : Nat) : Int) := by omega
    refine Or.inr (Or.inr ⟨(lwSc σ).1, (lwSc σ).2.1, (lwSc σ).2.2, a1.toNat, he.trans (congrArg (fun z => [zvr 40, zvi z]) ea), hS, hP.2.1.1, hsc, by omega, ?_⟩)
    rintro v I' L' rfl h3 hx hf hl
    obtain ⟨k0, k20, _, _, _, cl0, fn0, vv0, G0, _, hok0, _⟩ := hsc
    have hok1 := scOk_l hok0 a1.toNat
    refine hQ _ _ _ _ (lwA_sc (y := ((lwSc σ).1, (lwRu σ a1).1, (lwRu σ a1).2.2)) hP (by decide) ⟨hs.1, fun j hj => ?_⟩ h3 hx (fun c j w1 w2 => hf c j w1 (by omega) (by omega) (by omega) (by omega) (by omega) (by omega) (by omega) (by omega) (by omega) (by omega) (by omega) (by omega)) (fun c j w => hl c j (by omega) (by omega) (by omega) (by omega) (by omega))) (zfA_IL (fun c j w => hf c j (by omega) (by omega) (by omega) (by omega) (by omega) (by omega) (by omega) (by omega) (by omega) (by omega) (by omega) (by omega) (by omega)) (fun c j w => hl c j (by omega) (by omega) (by omega) (by omega) (by omega))) (show r32 (lwRu σ a1).2.1 from ?_)
    · obtain ⟨k, k2, _, _, _, cl, fn, vv, G, _, hok, _, hzr⟩ := hx
      obtain ⟨p, p1, p2, p3, p4, p5⟩ := zDm_R (hzr.2.2.1.2 j hj)
      exact ⟨p, scRn_dm hok1 j hj, p3, p4, p5⟩
    · have w := scRn_v (E := (lwSc σ).2.1.1) hok1
      have w2 : 0 ≤ (lwRu σ a1).2.1 ∧ (lwRu σ a1).2.1 ≤ 2 := w
      exact ⟨by omega, by omega⟩)
theorem lwB30 : lwCB 30 lf30 := ZSnd.alt3 (sn_Y_rnM.up (by decide)) (sn_Y_rnN.up (by decide)) (sn_Y_rnY.up (by decide)) (by
  rintro args I L R S Q hz ⟨σ, a1, a2, a3, a4, a5, he, hr, hS, hcc, hP, hQ⟩
  have hs : iS (lwSc σ) := hP.1.2.2.2.2.2.1
  have hsc : scB (lwSc σ).1 (lwSc σ).2.1 (lwSc σ).2.2 I L := hP.2.2.2.2.2.2.2.1
  have hI2 := hcc.2
  obtain ⟨b3, b4⟩ := lwB_b3 hP
  by_cases ha : a1 < 1 ∨ 300 < a1
  · rw [show lf30 σ a1 a2 a3 a4 a5 = (lws σ 2 (lwSc σ), -1) from if_pos ha] at hQ hI2
    have fin : ∀ I' : ZI, I' 165 0 = 2 → (∀ c j : Nat, ¬ (c = 165 ∧ j = 0) → ¬ (c = 234 ∧ j = 0) → I' c j = I c j) → Q (some (zvi (-1))) I' L R S := fun I' h3 hf => hQ I' L R S (lwB_sc hP hI2 h3 (bS_fr hsc (fun c j w => hf c j (by omega) (by omega)) (fun _ _ _ => rfl)) b3 b4 (fun c j w1 w2 _ _ => hf c j w1 (by omega)) (fun _ _ _ _ => rfl)) (zfB_I (fun c j w => hf c j (by omega) (by omega)))
    by_cases h3 : 300 < a1
    · exact Or.inl ⟨a1, he, hS, hP.2.1.1, hr.1, h3, fin⟩
    · exact Or.inr (Or.inl ⟨a1, he, hS, hP.2.1.1, hr.1, by omega, fin⟩)
  · rw [show lf30 σ a1 a2 a3 a4 a5 = lf30y σ a1 from if_neg ha] at hQ hI2
    have ea : a1 = ((a1.toNat : Nat) : Int) := by omega
    refine Or.inr (Or.inr ⟨(lwSc σ).1, (lwSc σ).2.1, (lwSc σ).2.2, a1.toNat, he.trans (congrArg (fun z => [zvr 165, zvi z]) ea), hS, hP.2.1.1, hs.1, hsc, by omega, ?_⟩)
    rintro v I' L' rfl h3 hx hf hl
    have f9 : ∀ c j : Nat, ¬ (c = 165 ∧ j = 0) → ¬ (234 ≤ c ∧ c ≤ 267) → I' c j = I c j := fun c j w1 w2 => hf c j (by omega) (by omega) (by omega) (by omega) (by omega) (by omega) (by omega) (by omega) (by omega) (by omega) (by omega) (by omega) (by omega) (by omega) (by omega) (by omega) (by omega) (by omega) (by omega) (by omega) (by omega) (by omega) (by omega) (by omega) (by omega) (by omega) (by omega) (by omega) (by omega) (by omega) (by omega) (by omega)
    have l9 : ∀ c j : Nat, ¬ (234 ≤ c ∧ c ≤ 267) → L' c j = L c j := fun c j w => hl c j (by omega) (by omega) (by omega) (by omega) (by omega) (by omega) (by omega) (by omega)
    exact hQ _ _ _ _ (lwB_sc (y := ((lwSc σ).1, (lwRu σ a1).1, (lwRu σ a1).2.2)) hP hI2 h3 hx b3 b4 (fun c j w1 w2 _ _ => f9 c j w1 w2) (fun c j w _ => l9 c j w)) (zfB_IL (fun c j w => f9 c j (by omega) (by omega)) (fun c j w => l9 c j (by omega))))
