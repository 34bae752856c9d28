/-! go: SCRIPTS: every row of statements comes to an end -/
section
variable {n : Nat} {c clo fn : Nat → Int} {M : WkM} {G : WkG}
theorem wkEx_s {d cl p i j r tq : Nat} {s : WkS} (hc : eTx n c) (hpn : p ≤ n) (hg : wkGo s) (hi : i ≤ M.2.2.2) (hl : s.2.1 < M.2.2.1) (h1 : (stS c p).1 = 1) (hM : M.1 i = stO c p) (hnc : ¬ (65 ≤ c p ∧ c p ≤ 90)) : ∃ s', wkZ M d cl i s (i + 1) s' := by
  rcases stS_1 h1 with ⟨a1, a2, _⟩ | ⟨a1, a2, a3, _⟩ | ⟨a1, _, _, a4, _⟩ | ⟨a1, _⟩ | ⟨a1, _⟩
  · exact ⟨_, wkZ_1 (hM.trans (stO_v ⟨a1, a2⟩).1) hg hi hl ⟨by omega, by omega⟩⟩
  · exact absurd ⟨a1, a2⟩ hnc
  · exact ⟨_, wkZ_2 (hM.trans (stO_a a1).1) hg hi hl ⟨by omega, by omega⟩⟩
  · exact ⟨_, wkZ_3' (hM.trans (stO_q a1).1) hg hi hl⟩
  · have hM2 := hM.trans (stO_s a1).1
    rcases a1 with a1 | a1 | a1 | a1 | a1 | a1
    · rw [a1] at hM2; exact ⟨_, wkZ_4 (show M.1 i = (4, (p : Int), 0, [], (exEx c 3 (p + 1)).2.2, 0) from hM2) hg hi hl⟩
    · rw [a1] at hM2; exact ⟨_, wkZ_12 (show M.1 i = (12, (p : Int), 0, [], (exEx c 3 (p + 1)).2.2, 0) from hM2) hg hi hl⟩
    · rw [a1] at hM2; exact ⟨_, wkZ_13 (show M.1 i = (13, (p : Int), 0, [], (exEx c 3 (p + 1)).2.2, 0) from hM2) hg hi hl⟩
    · rw [a1] at hM2; exact ⟨_, wkZ_14 (show M.1 i = (14, (p : Int), 0, [], (exEx c 3 (p + 1)).2.2, 0) from hM2) hg hi hl⟩
    · rw [a1] at hM2; exact ⟨_, wkZ_15 (show M.1 i = (15, (p : Int), 0, [], (exEx c 3 (p + 1)).2.2, 0) from hM2) hg hi hl⟩
    · rw [a1] at hM2; exact ⟨_, wkZ_16 (show M.1 i = (16, (p : Int), 0, [], (exEx c 3 (p + 1)).2.2, 0) from hM2) hg hi hl⟩
/-- rows of statements end, up to a depth -/
def wkEx (n : Nat) (c clo fn : Nat → Int) (M : WkM) (G : WkG) (D : Nat) : Prop := ∀ r p i tq j d cl s, G r p i tq j → wkGo s → s.2.1 ≤ M.2.2.1 → cl ≤ 2 → r + 2 * (2 - cl) + 1 ≤ D → d + D ≤ 14 → ∃ s', s'.2.1 ≤ M.2.2.1 ∧ wkZ M d cl i s j s'
theorem wkZ_lm {d cl i j : Nat} {s s' : WkS} (h : wkZ M d cl i s j s') (hl : s.2.1 ≤ M.2.2.1) : s'.2.1 ≤ M.2.2.1 := by
  obtain ⟨bk, _, q⟩ := h (fun _ => 0) [] (Nat.zero_le d)
  have hk : ∀ y, wkI M (wkX s i cl (fun _ => 0) []) y → y.2.1 ≤ M.2.2.1 := fun y w => by
    obtain ⟨k, w1, _⟩ := w
    rw [← w1]
    exact (itN_kp (k := k) (x := wkX s i cl (fun _ => 0) []) ⟨hl, Nat.zero_le 1⟩).1
  rcases q with q | ⟨_, _, nx, c2, q⟩ | ⟨_, y, q, _, q2, _⟩
  · exact hk _ q.2
  · have w := hk _ q
    rw [mRa_2] at w
    exact w
  · have w := hk _ q
    rw [q2] at w
    exact w
theorem wkEx_of {d cl i j : Nat} {s s' : WkS} (hl : s.2.1 ≤ M.2.2.1) (h : wkZ M d cl i s j s') : ∃ s', s'.2.1 ≤ M.2.2.1 ∧ wkZ M d cl i s j s' := ⟨s', wkZ_lm h hl, h⟩
/-- a loop -/
theorem wkEx_l {D d cl p i j1 r1 t1 q : Nat} {l : CdL} (ih : wkEx n c clo fn M G D) (hM : M.1 i = (6, (p : Int), 0, [], l, ((j1 + 1 : Nat) : Int))) (hj : (M.1 j1).1 = 17 ∧ (M.1 j1).2.2.2.2.2 = (i : Int)) (hjt : j1 ≤ M.2.2.2) (hi : i ≤ M.2.2.2) (hG : G r1 (q + 1) (i + 1) t1 j1) (hcl : cl ≤ 2) (hr : r1 + 2 * (2 - cl) + 1 ≤ D) (hd : d + 1 + D ≤ 14) : ∀ (m : Nat) (s : WkS), wkGo s → s.2.1 + m = M.2.2.1 → ∃ s', wkZ M d cl i s (j1 + 1) s'
  | 0, s, hg, hl => ⟨_, wkL_n hM hi hl⟩
  | m + 1, s, hg, hl => by
    have hl1 : s.2.1 < M.2.2.1 := by omega
    by_cases hf : evF s.1.1 l = 0
    · by_cases hv : evV s.1.1 l = 0
      · exact ⟨_, wkI_e hM (Or.inr rfl) hg hi hl1 hf hv⟩
      · obtain ⟨s1, h1, z1⟩ := ih r1 (q + 1) (i + 1) t1 j1 (d + 1) cl (wkSp s) hG (wkGo_sp hg) hl1 hcl hr (by omega)
        have z2 := wkI_j (wkI_b (wkI_t (d := d) (cl := cl) hM (Or.inr rfl) hg hi hl1 hf hv) (wkGo_sp hg) z1) hj.1 hj.2 hjt
        by_cases g : wkGo s1
        · have hm : s.2.1 + 1 ≤ s1.2.1 := wkZ_m z1
          obtain ⟨s2, z3⟩ := wkEx_l ih hM hj hjt hi hG hcl hr hd (M.2.2.1 - s1.2.1) s1 g (by omega)
          exact ⟨s2, wkZ_t z2 g z3⟩
        · exact ⟨s1, wkZ_a z2 g⟩
    · exact ⟨_, wkI_f hM (Or.inr rfl) hg hi hl1 hf⟩
  termination_by m => m
  decreasing_by omega
theorem wkEx_st {D d cl p i tq j r : Nat} {s : WkS} (hc : eTx n c) (hA : wfA n c clo fn M G) (ih : wkEx n c clo fn M G D) (hG : G r p i tq j) (hp : p < tq) (h10 : ¬ c p = 10) (hg : wkGo s) (hl0 : s.2.1 ≤ M.2.2.1) (hcl : cl ≤ 2) (hr : r + 2 * (2 - cl) + 1 ≤ D + 1) (hd : d + (D + 1) ≤ 14) : ∃ p' i' s', wkT M G r d cl p i tq j s p' i' s' := by
  have hpt := wf_p hA hG
  have hij := wf_i hA hG
  have hi : i ≤ M.2.2.2 := by omega
  have hst := wf_s hA hG hp h10
  rcases hst with ⟨hne, h1, hM, hlj, hlt, hGn⟩ | ⟨r1, q, t1, j1, hcc, er, hcl1, ⟨hq0, hq1, hq2⟩, hG1, hj1, hh9⟩
  · by_cases hl : s.2.1 = M.2.2.1
    · have hO := stO_V h1
      exact ⟨_, _, _, wkT_1 hGn hlt (wkZ_n (s := s) (by rw [hM]; exact hO.1) hi (fun hs h9 bk => by rw [hM]; exact hO.2 _) hl)⟩
    · by_cases hnc : 65 ≤ c p ∧ c p ≤ 90
      · have hM2 := hM.trans (stO_c ⟨hnc.1, hnc.2, by
          rcases stS_1 h1 with ⟨a1, a2, _⟩ | ⟨a1, a2, a3, _⟩ | ⟨a1, _, _, a4, _⟩ | ⟨a1, _⟩ | ⟨a1, _⟩ <;> omega⟩).1
        rcases hA.2.1 (c p - 65).toNat (by omega) with ⟨f1, f2⟩ | ⟨qf, tf, kf, jf, f1, f2, f3, ⟨f4, f5⟩, f6, f7⟩
        · exact ⟨_, _, _, wkT_1 hGn hlt (wkC_6 hM2 hg ⟨by omega, by omega⟩ hi (by omega) f2)⟩
        · by_cases h2 : cl = 2
          · exact ⟨_, _, _, wkT_1 hGn hlt (wkC_5 hM2 hg ⟨by omega, by omega⟩ hi (by omega) f2 h2)⟩
          · have hjf := wf_i hA f6
            obtain ⟨s1, _, z1⟩ := ih 1 (qf + 1) kf tf jf (d + 1) (cl + 1) (wkSp s) f6 (wkGo_sp hg) (show s.2.1 + 1 ≤ M.2.2.1 by omega) (by omega) (by omega) (by omega)
            exact ⟨_, _, _, wkT_1 hGn hlt (wkC_b hM2 hg ⟨by omega, by omega⟩ hi (by omega) f2 (by omega) z1 f7 hjf.2)⟩
      · obtain ⟨s1, z1⟩ := wkEx_s (d := d) (cl := cl) (j := j) (r := r) (tq := tq) hc (by omega) hg hi (by omega) h1 hM hnc
        exact ⟨_, _, _, wkT_1 hGn hlt z1⟩
  · have hj1t : j1 ≤ M.2.2.2 := by omega
    have hO := wf_O (wf_s hA hG hp h10)
    by_cases hl : s.2.1 = M.2.2.1 ∧ c p ≠ 58
    · exact ⟨p, i, _, wkT_0 wkSt_no (wkZ_n (s := s) (hO hl.2).1 hi (fun hs h9 bk => (hO hl.2).2 _ (show hs.length ≤ 14 by omega)) hl.1)⟩
    · have hB : ∀ s0 : WkS, wkGo s0 → s0.2.1 ≤ M.2.2.1 → ∃ s', s'.2.1 ≤ M.2.2.1 ∧ wkZ M (d + 1) cl (i + 1) s0 j1 s' := fun s0 g0 l0 => ih r1 (q + 1) (i + 1) t1 j1 (d + 1) cl s0 hG1 g0 l0 hcl (by omega) (by omega)
      rcases hh9 with ⟨c1, ⟨c2, c3⟩, c4, c5, c6⟩ | ⟨t2, j2, c1, ⟨c2, c3⟩, c4, c5, ⟨c6, c7⟩, c8, ⟨c9, c10⟩, c11, c12, c13⟩ | ⟨c1, ⟨c2, c3⟩, c4, ⟨c5, c6⟩, c7, c8⟩ | ⟨c1, c2, c3, c4, c5, c6⟩ | ⟨t2, j2, c1, c2, ⟨c3, c4⟩, c5, c6, ⟨c7, c8⟩, c9, c10, c11, c12⟩ | ⟨c1, c2, ⟨c3, c4⟩, c5, c6⟩
      · have hl1 : s.2.1 < M.2.2.1 := by have z : ¬ s.2.1 = M.2.2.1 := fun z => hl ⟨z, by omega⟩; omega
        by_cases hf : evF s.1.1 (exEx c 3 (p + 1)).2.2 = 0
        · by_cases hv : evV s.1.1 (exEx c 3 (p + 1)).2.2 = 0
          · exact ⟨_, _, _, wkT_1 c6 (by omega) (wkI_e c5 (Or.inl rfl) hg hi hl1 hf hv)⟩
          · obtain ⟨s1, _, z1⟩ := hB (wkSp s) (wkGo_sp hg) hl1
            exact ⟨_, _, _, wkT_1 c6 (by omega) (wkI_b (wkI_t c5 (Or.inl rfl) hg hi hl1 hf hv) (wkGo_sp hg) z1)⟩
        · exact ⟨_, _, _, wkT_1 c6 (by omega) (wkI_f c5 (Or.inl rfl) hg hi hl1 hf)⟩
      · have hl1 : s.2.1 < M.2.2.1 := by have z : ¬ s.2.1 = M.2.2.1 := fun z => hl ⟨z, by omega⟩; omega
        by_cases hf : evF s.1.1 (exEx c 3 (p + 1)).2.2 = 0
        · by_cases hv : evV s.1.1 (exEx c 3 (p + 1)).2.2 = 0
          · obtain ⟨s1, _, z1⟩ := ih r1 (t1 + 2) (j1 + 1) t2 j2 (d + 1) cl (wkSp s) c11 (wkGo_sp hg) hl1 hcl (by omega) (by omega)
            exact ⟨_, _, _, wkT_1 c13 (by omega) (wkI_b (wkI_e c5 (Or.inl rfl) hg hi hl1 hf hv) (wkGo_sp hg) z1)⟩
          · obtain ⟨s1, _, z1⟩ := hB (wkSp s) (wkGo_sp hg) hl1
            exact ⟨_, _, _, wkT_1 c13 (by omega) (wkI_j (wkI_b (wkI_t c5 (Or.inl rfl) hg hi hl1 hf hv) (wkGo_sp hg) z1) c6 c7 hj1t)⟩
        · exact ⟨_, _, _, wkT_1 c13 (by omega) (wkI_f c5 (Or.inl rfl) hg hi hl1 hf)⟩
      · obtain ⟨s1, z1⟩ := wkEx_l (d := d) ih c4 ⟨c5, c6⟩ hj1t hi hG1 hcl (by omega) (by omega) (M.2.2.1 - s.2.1) s hg (by omega)
        exact ⟨_, _, _, wkT_1 c8 (by omega) z1⟩
      · have hl1 : s.2.1 < M.2.2.1 := by have z : ¬ s.2.1 = M.2.2.1 := fun z => hl ⟨z, by omega⟩; omega
        obtain ⟨s1, _, z1⟩ := hB (wkSp s) (wkGo_sp hg) hl1
        exact ⟨_, _, _, wkT_1 c6 (by omega) (wkZ_act hg c3 hi (by omega) hl1 z1 c4 hj1t)⟩
      · have hl1 : s.2.1 < M.2.2.1 := by have z : ¬ s.2.1 = M.2.2.1 := fun z => hl ⟨z, by omega⟩; omega
        obtain ⟨s1, l1, z1⟩ := hB (wkSp s) (wkGo_sp hg) hl1
        by_cases h0 : s1.2.2.1 = 0
        · obtain ⟨s2, _, z2⟩ := ih r1 (t1 + 2) (j1 + 1) t2 j2 (d + 1) cl (wkCl s1) c9 (wkCl_go h0) l1 hcl (by omega) (by omega)
          exact ⟨_, _, _, wkT_1 c12 (by omega) (wkZ_try hg c3 hi c4 (by omega) hl1 z1 c5 hj1t (fun _ => z2) (fun w => by omega) c10 (by omega))⟩
        · exact ⟨_, _, _, wkT_1 c12 (by omega) (wkZ_try hg c3 hi c4 (by omega) hl1 z1 c5 hj1t (fun w => absurd w h0) (fun _ => rfl) c10 (by omega))⟩
      · exact ⟨_, _, _, wkT_1 c6 (by omega) (wkZ_g hg c3 c4 hi)⟩
theorem wkEx_r {D : Nat} (hc : eTx n c) (hA : wfA n c clo fn M G) (ih : wkEx n c clo fn M G D) : ∀ (m r p i tq j d cl : Nat) (s : WkS), p + m = tq → G r p i tq j → wkGo s → s.2.1 ≤ M.2.2.1 → cl ≤ 2 → r + 2 * (2 - cl) + 1 ≤ D + 1 → d + (D + 1) ≤ 14 → ∃ s', wkZ M d cl i s j s'
  | 0, r, p, i, tq, j, d, cl, s, hm, hG, hg, hl, hcl, hr, hd => by
    rw [wf_e hA hG (by omega)]
    exact ⟨s, wkZ_r hg⟩
  | m + 1, r, p, i, tq, j, d, cl, s, hm, hG, hg, hl, hcl, hr, hd => by
    by_cases h10 : c p = 10
    · exact wkEx_r hc hA ih m r (p + 1) i tq j d cl s (by omega) (wf_n hA hG (by omega) h10) hg hl hcl hr hd
    · obtain ⟨p', i', s1, h1, z1⟩ := wkEx_st (d := d) hc hA ih hG (by omega) h10 hg hl hcl hr hd
      by_cases g : wkGo s1
      · have hp := wf_p hA (h1 g).1
        obtain ⟨s2, z2⟩ := wkEx_r hc hA ih (tq - p') r p' i' tq j d cl s1 (by omega) (h1 g).1 g (wkZ_lm z1 hl) hcl hr hd
        exact ⟨s2, wkZ_t z1 g z2⟩
      · exact ⟨s1, wkZ_a z1 g⟩
  termination_by m => m
  decreasing_by
    · omega
    · have := (h1 g).2; omega
theorem wkEx_all (hc : eTx n c) (hA : wfA n c clo fn M G) : ∀ D, wkEx n c clo fn M G D
  | 0 => fun r p i tq j d cl s hG hg hl hcl hr hd => by
    omega
  | D + 1 => fun r p i tq j d cl s hG hg hl hcl hr hd => by
    have hp := wf_p hA hG
    obtain ⟨s', z⟩ := wkEx_r hc hA (wkEx_all hc hA D) (tq - p) r p i tq j d cl s (by omega) hG hg hl hcl hr hd
    exact wkEx_of hl z
end
