/-! gz2: SCRIPTS: every text is read to an end; the class's program -/
theorem scX_ok {w : List Int} (hc : eTx w.length (tC w)) (hnn : ∀ p, p < w.length → 0 ≤ tC w p) : itR (rdS (tC w) w.length) rdX0 (scX w) ∧ rdEn w.length (scX w) ∧ rdI w.length (scX w) := by
  have h0 : rdI w.length rdX0 := rdI_1 (Nat.zero_le _) (by decide) (by show 0 + 0 ≤ 3 * 0; decide) (by decide) (by decide) True.intro
  have hI : ∀ (k : Nat) (x : RdT), rdI w.length x → rdI w.length (itN (rdS (tC w) w.length) k x) := fun k => by
    induction k with
    | zero => exact fun x h => h
    | succ k ih => exact fun x h => ih _ (rdS_I hc h).1
  have hx : ∃ x, itR (rdS (tC w) w.length) rdX0 x ∧ rdEn w.length x := by
    rcases lk_top hc (fun _ => 0) with ⟨_, z, b, d, _⟩ | ⟨_, w2, t', k', R', u', d1, _, _, _, g1, _⟩
    · exact ⟨z, b, Or.inl d⟩
    · refine ⟨_, d1, Or.inr ⟨rfl, fun q => ?_, rfl⟩⟩
      have q2 : (ls0 (tC w) (-1) (1, 0, 0, fun _ => 0, fun _ => -1)).2.1 < w.length := q
      have := hnn _ q2
      omega
  obtain ⟨x, h1, h2⟩ := hx
  have e := scX_e hc h1 h2
  rw [e]
  refine ⟨h1, h2, ?_⟩
  obtain ⟨k, hk⟩ := h1
  rw [← hk]
  exact hI k _ h0
theorem zDm_R {n : Nat} {e : Nat → Int} {x : RdT} {l o : Nat} {v : Int} (h : zDm n e (scP x l) o v) : ∃ p : Nat, v = (p : Int) + 1 ∧ p < n ∧ x.2.2.2.2.2.2.1 o = stO e p ∧ e p = 38 ∧ (exEx e 3 (p + 1)).1 = 1 := by
  obtain ⟨p, h1, h2, h3, h4, h5⟩ := h
  refine ⟨p, h1, h2, ?_, h4, h5⟩
  have h3 : upF x.2.2.2.2.2.2.1 x.2.2.1 (20, 0, 0, [], [], 0) o = stO e p := h3
  by_cases q : o = x.2.2.1
  · rw [q, upF_at, (stO_s (by omega)).1, h4] at h3
    have z : (20 : Int) = smK 38 := congrArg Prod.fst h3
    exact absurd z (by decide)
  · rw [upF_i q] at h3
    exact h3
/-- the class's machine behind a new program -/
theorem scA_new {w : List Int} {k k2 : Nat} {I L : ZI} {R : ZR} {vv : Nat → Int} {E : EvE} {cl0 : Nat → Int} (hkk : (k = 130 ∧ k2 = 134) ∨ (k = 134 ∧ k2 = 130)) (hc : eTx w.length (tC w)) (hnn : ∀ p, p < w.length → 0 ≤ tC w p) (r1 : R 40 15 = some k) (r2 : R 40 16 = some k2) (r3 : R 138 0 = some k) (hE : zEt k w.length (tC w) I) (hS : zSr k 410 (ls0 (tC w) (-1) (1, 0, 0, cl0, fun _ => -1)) I) (hf : (ls0 (tC w) (-1) (1, 0, 0, cl0, fun _ => -1)).1 = 1) (hV : zEv (vv, E.2) I L) (h8 : I 138 8 = 0) (h10 : I 138 10 = 0) (h3 : I 138 13 = 0) (h4 : I 138 14 = -1) (h5 : I 138 15 = 0) : scA w ((fun _ => 0, E.2), (0, fun _ => 0), (0, fun _ => 0)) (0, -1, 0) I L R := by
  obtain ⟨x1, x2, x3⟩ := scX_ok hc hnn
  rcases sc_rd hc hnn cl0 x1 x2 x3 with g | g
  · omega
  · obtain ⟨G, hG⟩ := scP_ok hc hnn cl0 x1 x2 x3 g.2.1 0
    rcases hS with q | q
    · exact ⟨k, k2, hkk, ⟨r1, r2, r3⟩, hE, _, _, vv, G, ⟨fun p hp => q.2.2.1 p (by have := hc.1; omega), fun _ f hf2 => q.2.2.2 f hf2⟩, hG, fun z => absurd (show 0 < 0 from z) (by decide), hV, ⟨⟨h8, Nat.zero_le _⟩, fun i hi => absurd hi (Nat.not_lt_zero i)⟩, ⟨⟨h10, Nat.zero_le _⟩, fun i hi => absurd hi (Nat.not_lt_zero i)⟩, h3, h4, h5⟩
    · omega
theorem wkNd_v {s : WkS} : 0 ≤ (wkNd s).2.1 ∧ (wkNd s).2.1 ≤ 2 := by
  unfold wkNd
  by_cases h : s.2.2.1 = 1
  · rw [if_pos h]; exact ⟨(by decide : (0 : Int) ≤ 2), (by decide : (2 : Int) ≤ 2)⟩
  · rw [if_neg h]
    by_cases h2 : s.2.2.2.1 = 0
    · rw [if_pos h2]; exact ⟨(by decide : (0 : Int) ≤ 0), (by decide : (0 : Int) ≤ 2)⟩
    · rw [if_neg h2]; exact ⟨(by decide : (0 : Int) ≤ 1), (by decide : (1 : Int) ≤ 2)⟩
theorem scRn_v {n : Nat} {c clo fn : Nat → Int} {M : WkM} {G : WkG} {E : EvE} (h : scOk n c clo fn M G) : 0 ≤ (scRn M E).2.1 ∧ (scRn M E).2.1 ≤ 2 := by
  obtain ⟨r, hG⟩ := h.2.2.1
  have hr := wf_r h.2.1 hG
  obtain ⟨s', _, z⟩ := wkEx_all h.1 h.2.1 7 r 0 0 n M.2.2.2 0 0 (wkS0 E) hG wkS0_g (Nat.zero_le _) (by decide) (by omega) (by decide)
  rw [scRn_Z h z]
  exact wkNd_v
