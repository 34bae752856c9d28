
/-! THE START: both sides hold the empty state -/
theorem sc_e0 : eTx ([] : List Int).length (tC []) := ⟨Nat.zero_le _, fun p _ => if_neg (Nat.not_lt_zero p), fun p => by
  rw [show tC [] p = -1 from if_neg (Nat.not_lt_zero p)]
  decide⟩
theorem sc_n0 : ∀ p, p < ([] : List Int).length → 0 ≤ tC [] p := fun p hp => absurd hp (Nat.not_lt_zero p)
theorem scX_0 : scX [] = rdX0 := scX_e sc_e0 ⟨0, rfl⟩ (Or.inr ⟨rfl, Nat.lt_irrefl 0, rfl⟩)
theorem scV_0 : scV [] := by
  obtain ⟨x1, x2, x3⟩ := scX_ok sc_e0 sc_n0
  exact ⟨⟨sc_e0, sc_n0⟩, x1, x2, x3, by rw [scX_0]; rfl⟩
def lwD0 : DtT := ((fun _ => 0, 0, fun _ => 0, 0, fun _ => 0), (0, fun _ => 0), (0, fun _ => 0))
def lw0 : LwS := ((0, []), (0, 0, lwO, 0, []), (0, bNew 1 1 1 0 (fun _ => -1), jd0, 0), (0, fun _ _ => 0), (0, [], 0, (0, fun _ _ => 0), 0, 0), ([], lwD0, (0, -1, 0)), ((fun _ => 0, 0, st0, 0), 0, 0), ((0, fun _ _ => 0, fun _ => 0), fun _ _ => 0, fun _ => 0, 0))
theorem lwO_g : oGd lwO := ⟨Nat.zero_le _, fun j hj => absurd hj (Nat.not_lt_zero j), fun j w hj => absurd hj (Nat.not_lt_zero j), fun j w hj => absurd hj (Nat.not_lt_zero j), fun j w i hj => absurd hj (Nat.not_lt_zero j)⟩
theorem lwO_d : oD lwO = jd0 := rfl
theorem lwO_j : jGd jd0 := (oDt_k lwO_g (Nat.zero_le _) : oOk lwO (oDt lwO 0)).1
theorem stLg_00 : stLg (fun _ => 0) 0 0 := ⟨fun i hi => absurd hi (Nat.not_lt_zero i), Nat.le_refl 0, Nat.zero_le _, Or.inl rfl⟩
theorem lw0_I : lwI lw0 := by
  refine ⟨⟨⟨Int.le_refl 0, by decide⟩, tGb_0⟩, ⟨⟨by decide, by decide, by decide, by decide⟩, ⟨lwO_g, fun j a i hj => absurd hj (Nat.not_lt_zero j), fun j w hj => absurd hj (Nat.not_lt_zero j), lwO_j, Nat.zero_le _⟩, fun _ => ⟨rfl, rfl⟩, fun q => absurd rfl q⟩, ⟨by decide, fun _ => rfl, fun q => absurd rfl q⟩, fun r hr => absurd hr (Nat.not_lt_zero r), ⟨⟨by decide, by decide, fun _ => rfl, Or.inl rfl⟩, fun q => absurd rfl q⟩, ⟨scV_0, fun j hj => absurd hj (Nat.not_lt_zero j)⟩, ⟨⟨by decide, by decide⟩, fun m hm b hb => ?_⟩, ⟨by decide, fun r p hr => absurd hr (Nat.not_lt_zero r), fun r hr => absurd hr (Nat.not_lt_zero r), Int.le_refl 0, by decide⟩⟩
  have e : m = 0 := Nat.le_zero.mp hm
  subst e
  exact absurd hb (Nat.not_lt_zero b)
section
variable {M : XM} {I L : ZI} {R : ZR} {S : ZS}
theorem lw0_A (g : ∀ (c j : Nat) (v : Int), (c, j, v) ∈ xzI → I c j = v) (gr : ∀ c n j : Nat, (c, n) ∈ xzR → j < n → I c j = 0) (gl : ∀ c n j : Nat, (c, n) ∈ xzL → j < n → L c j = 0) (gs : zSt I L) (gf : ∀ e ∈ xfR ++ xfW, R e.1 e.2.1 = some e.2.2) : lwA lw0 I L R S := by
  have z : zct (jFst jd0) 960 = 0 := (jFst_E lwO_j rfl).2.2
  have c0 : cTot jd0 = 0 := by
    unfold cTot
    rw [z]
    rfl
  have rt : ∀ (k rm : Nat) (f : Nat → Nat → Int), (k, 1, (rm : Int)) ∈ xzI → (k, 2, (0 : Int)) ∈ xzI → zRT k rm 0 f I := fun k rm f h1 h2 => ⟨g _ _ _ h1, g _ _ _ h2, Nat.zero_le _, fun x y hx => absurd hx (Nat.not_lt_zero x)⟩
  obtain ⟨x1, x2, x3⟩ := scX_ok sc_e0 sc_n0
  obtain ⟨G, hG⟩ := scP_ok sc_e0 sc_n0 (fun _ => 0) x1 x2 x3 scV_0.2.2.2.2 0
  refine ⟨lw0_I, ⟨fun e he => gf e (List.mem_append_left _ he), gs⟩, ⟨g 40 3 0 (by decide +kernel), g 40 1 0 (by decide +kernel), fun i hi => absurd hi (Nat.not_lt_zero i)⟩, ⟨⟨g 40 7 0 (by decide +kernel), g 63 15 0 (by decide +kernel)⟩, ⟨43, 52, Or.inl ⟨rfl, rfl⟩, ⟨gf (40, 4, 43) (by decide +kernel), gf (40, 5, 52) (by decide +kernel)⟩, ⟨g 43 0 0 (by decide +kernel), fun j hj => absurd hj (Nat.not_lt_zero j), fun j w hj => absurd hj (Nat.not_lt_zero j), fun j w hj => absurd hj (Nat.not_lt_zero j)⟩, ⟨g 43 12 0 (by decide +kernel), fun i hi => absurd hi (Nat.not_lt_zero i)⟩⟩, ⟨fun _ => 0, rt 65 16 _ (by decide +kernel) (by decide +kernel), fun t ht => absurd ht (Nat.not_lt_zero t), rt 68 100 _ (by decide +kernel) (by decide +kernel), rt 70 50 _ (by decide +kernel) (by decide +kernel), rt 72 60 _ (by decide +kernel) (by decide +kernel), rt 74 30 _ (by decide +kernel) (by decide +kernel), rt 76 60 _ (by decide +kernel) (by decide +kernel)⟩, ?_, ?_⟩, ⟨fun q => absurd rfl q, (g 82 0 (-1) (by decide +kernel)).trans (by decide), ⟨g 88 1 40 (by decide +kernel), g 90 1 12 (by decide +kernel)⟩, fun _ => g 90 2 0 (by decide +kernel)⟩, rt 104 30 _ (by decide +kernel) (by decide +kernel), ⟨g 40 14 0 (by decide +kernel), ⟨106, 118, Or.inl ⟨rfl, rfl⟩, ⟨gf (40, 12, 106) (by decide +kernel), gf (40, 13, 118) (by decide +kernel)⟩, (g 106 0 (-1) (by decide +kernel)).trans (by decide), fun q => absurd rfl q⟩, ⟨g 107 1 60 (by decide +kernel), g 111 1 40 (by decide +kernel)⟩, g 119 1 60 (by decide +kernel), g 123 1 40 (by decide +kernel)⟩, ?_, ?_, ⟨⟨g 154 0 0 (by decide +kernel), Nat.zero_le _, fun r hr => absurd hr (Nat.not_lt_zero r)⟩, fun r p hr => absurd hr (Nat.not_lt_zero r), fun r hr => absurd hr (Nat.not_lt_zero r), g 154 6 0 (by decide +kernel)⟩⟩
  · show zCf jd0 I
    exact ⟨by rw [z]; exact g 63 14 0 (by decide +kernel), fun n hn => by rw [z] at hn; exact absurd hn (Nat.not_lt_zero n), by rw [c0]; exact g 63 13 0 (by decide +kernel), by rw [c0]; exact Nat.zero_le _, fun k hk => by rw [c0] at hk; exact absurd hk (Nat.not_lt_zero k)⟩
  · show zCw jd0 I
    exact ⟨by rw [z]; exact g 63 14 0 (by decide +kernel), fun i hi hv => absurd hv.1 (Nat.not_lt_zero _)⟩
  · exact ⟨130, 134, Or.inl ⟨rfl, rfl⟩, ⟨gf (40, 15, 130) (by decide +kernel), gf (40, 16, 134) (by decide +kernel), gf (138, 0, 130) (by decide +kernel)⟩, ⟨g 130 1 0 (by decide +kernel), sc_e0, fun p hp => absurd hp (Nat.not_lt_zero p)⟩, _, _, fun _ => 0, G, ⟨fun q hq => absurd hq (Nat.not_lt_zero q), fun h => absurd h (Nat.not_lt_zero 0)⟩, hG, fun _ => rfl, ⟨fun v hv => gl 139 26 v (by decide +kernel) hv, ⟨g 138 3 0 (by decide +kernel), Nat.zero_le _⟩, fun j hj => gl 140 72 j (by decide +kernel) hj, ⟨g 138 6 0 (by decide +kernel), Nat.zero_le _⟩, fun j hj => gl 142 20 j (by decide +kernel) hj⟩, ⟨⟨g 138 8 0 (by decide +kernel), Nat.zero_le _⟩, fun i hi => absurd hi (Nat.not_lt_zero i)⟩, ⟨⟨g 138 10 0 (by decide +kernel), Nat.zero_le _⟩, fun i hi => absurd hi (Nat.not_lt_zero i)⟩, g 138 13 0 (by decide +kernel), g 138 14 (-1) (by decide +kernel), g 138 15 0 (by decide +kernel)⟩
  · refine ⟨g 145 1 0 (by decide +kernel), g 145 10 0 (by decide +kernel), g 145 11 0 (by decide +kernel), fun j hj => gr 146 400 j (by decide +kernel) hj, ⟨Nat.zero_le _, Nat.zero_le _, rfl, stLg_00⟩, fun _ => ⟨rfl, ⟨g 145 5 0 (by decide +kernel), g 145 9 0 (by decide +kernel), fun b hb => absurd hb (Nat.not_lt_zero b), fun v hv => ?_⟩, fun b i hb => absurd hb (Nat.not_lt_zero b)⟩⟩
    have e : v = 0 := Nat.le_zero.mp hv
    subst e
    exact ⟨g 151 0 0 (by decide +kernel), g 152 0 0 (by decide +kernel), fun k hk => absurd hk (Nat.not_lt_zero k)⟩
theorem lw0_B (g : ∀ (c j : Nat) (v : Int), (c, j, v) ∈ xzI → I c j = v) (gr : ∀ c n j : Nat, (c, n) ∈ xzR → j < n → I c j = 0) (gl : ∀ c n j : Nat, (c, n) ∈ xzL → j < n → L c j = 0) (gk : ∀ j : Nat, j < 64 → I 281 j = shK j) (gf : ∀ e ∈ xfR ++ xfW, R e.1 e.2.1 = some e.2.2) (gn : ∀ e ∈ xfN, R e.1 e.2 = none) (hS : S.2.1 = 302 ∧ S.2.2 ≤ 480000) : lwB lw0 I L R S := by
  have n7 := gn (165, 7) (by decide +kernel)
  have n12 := gn (165, 12) (by decide +kernel)
  have n13 := gn (165, 13) (by decide +kernel)
  have n31 := gn (165, 31) (by decide +kernel)
  have hD : lwD R := by
    refine ⟨fun g q h => ?_, fun g q h => ?_, fun g q h => ?_, fun g q h => ?_, fun g q h => ?_⟩
    · rw [show R 165 12 = none from n12] at h; exact absurd h (by simp)
    · rw [show R 165 12 = none from n12] at h; exact absurd h (by simp)
    · rw [show R 165 31 = none from n31] at h; exact absurd h (by simp)
    · rw [show R 165 31 = none from n31] at h; exact absurd h (by simp)
    · rw [show R 165 13 = none from n13] at h; exact absurd h (by simp)
  refine ⟨lw0_I, ⟨fun e he => gf e (List.mem_append_left _ he), ⟨?_, ?_⟩, hD⟩, ⟨g 165 0 0 (by decide +kernel), g 165 2 0 (by decide +kernel), fun i hi => absurd hi (Nat.not_lt_zero i)⟩, ⟨⟨⟨g 165 5 0 (by decide +kernel), g 165 6 0 (by decide +kernel)⟩, g 168 1 0 (by decide +kernel), g 181 1 1 (by decide +kernel)⟩, fun _ => ⟨g 165 4 (-1) (by decide +kernel), n7⟩, fun q => absurd rfl q⟩, ⟨g 165 14 0 (by decide +kernel), fun _ => ⟨n12, n13⟩, fun q => absurd rfl q⟩, ⟨⟨g 165 24 0 (by decide +kernel), Nat.zero_le _⟩, fun r hr => absurd hr (Nat.not_lt_zero r)⟩, ⟨⟨g 165 29 0 (by decide +kernel), by rw [g 165 44 0 (by decide +kernel)]; exact Int.le_refl 0, fun j hj => Or.inl (gr 215 20 j (by decide +kernel) hj)⟩, fun _ => n31, fun q => absurd rfl q⟩, ?_, ⟨⟨g 268 5 0 (by decide +kernel), g 268 2 0 (by decide +kernel), fun j hj => gr 270 400 j (by decide +kernel) hj, ⟨Nat.zero_le _, rfl, stLg_00⟩, fun _ => rfl⟩, g 165 49 0 (by decide +kernel)⟩, ⟨⟨⟨g 280 8 0 (by decide +kernel), Nat.zero_le _, g 280 2 0 (by decide +kernel), gk, fun r hr => absurd hr (Nat.not_lt_zero r)⟩, fun r hr => absurd hr (Nat.not_lt_zero r), g 287 10 0 (by decide +kernel)⟩, fun r p hr => absurd hr (Nat.not_lt_zero r), fun r hr => absurd hr (Nat.not_lt_zero r), fun r _ hr => ⟨gr 296 10 r (by decide +kernel) hr, fun p hp => gr 295 160 _ (by decide +kernel) (by omega)⟩, ⟨g 280 22 0 (by decide +kernel), g 280 21 0 (by decide +kernel)⟩, by rw [g 280 24 0 (by decide +kernel)]; exact Int.le_refl 0, by rw [g 280 24 0 (by decide +kernel)]; decide⟩⟩
  · show S.2.1 ≤ 302 + 23 * 0 + 19 * 0 + 54 * 0
    omega
  · show S.2.2 ≤ 500000 + 44429 * 0 + 18613 * 0 + 32451 * 0
    omega
  · refine ⟨0, ⟨g 234 3 0 (by decide +kernel), Nat.zero_le _⟩, g 234 1 0 (by decide +kernel), ?_, ?_, fun q => absurd q (Nat.lt_irrefl 0), ⟨fun v hv => gl 253 26 v (by decide +kernel) hv, ⟨g 234 28 0 (by decide +kernel), Nat.zero_le _⟩, fun j hj => gl 251 72 j (by decide +kernel) hj, ⟨g 234 30 0 (by decide +kernel), Nat.zero_le _⟩, fun j hj => gl 252 20 j (by decide +kernel) hj⟩, ⟨⟨g 234 36 0 (by decide +kernel), Nat.zero_le _⟩, fun i hi => absurd hi (Nat.not_lt_zero i)⟩, ⟨⟨g 234 38 0 (by decide +kernel), Nat.zero_le _⟩, fun i hi => absurd hi (Nat.not_lt_zero i)⟩, ⟨g 234 46 0 (by decide +kernel), g 234 47 (-1) (by decide +kernel), g 234 48 0 (by decide +kernel)⟩, g 234 32 (-1) (by decide +kernel)⟩
    · show I 238 (600 * 0 + (scX []).2.2.1) = 20
      rw [scX_0]
      exact g 238 0 20 (by decide +kernel)
    · show orA 0 (scX []).2.2.2.1 (scX []).2.2.1 (scX []).2.2.2.2.2.2.1 I
      rw [scX_0]
      exact fun i hi => absurd hi (Nat.not_lt_zero i)
end
