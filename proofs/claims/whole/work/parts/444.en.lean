/-! PAIRS of nets and names, gathered -/
theorem cS_lab {d : JdS} (h : jGd d) {i l t : Nat} (hv : jV d i) (hl : l < dnl d) (ht : t < dns d) (hs : dL d l 0 = dbs d t) : jCl (jE d) (jNd d i) (1600 + 16 * l + t) ↔ jCl (cE d) i (960 + 16 * l + cc d t) := by
  have k1 : cU d i = jNd d i ∧ cV d (cU d i) = i := by
    have o := jV_sp hv
    have hs := h.1.1
    have ht := h.1.2.2.2.2.2
    have hp := hv.1
    have e : (dbs d (jtt d i) : Int) = dT d (i / 16) 0 := o.2.1
    have e2 : cc d (jtt d i) = i % 16 := by
      unfold cc
      rw [e]
      exact o.2.2
    have hlt : jtt d i < dns d := o.1
    have w := cU_p h (w := i / 16) (t := jtt d i) hp hlt e.symm
    rw [e2, show 16 * (i / 16) + i % 16 = i by omega] at w
    refine ⟨w, ?_⟩
    rw [w, cV_p (by omega) (by omega), e2]
    omega
  have k2 := cU_l h hl ht hs
  have g1 := h.1.1
  have g4 := h.1.2.2.2.1
  have k3 : cV d (cU d (960 + 16 * l + cc d t)) = 960 + 16 * l + cc d t := by rw [k2, cV_l (by omega) (by omega)]
  rw [← k1.1, ← k2]
  exact (jCl_map (E := cE d) (F := jE d) (u := cU d) (v := cV d) (fun x y q => jCl_e (cE_U h q)) (fun x y q => jCl_e (jE_V h q)) k1.2 k3).symm
def cEn (d : JdS) (l c n : Nat) (h : Nat → Int) : Prop := (∀ j, j < n → ∃ q : Nat, h j = q ∧ cQ d q ∧ q < 1000 * zct (jFst d) 960) ∧ (∀ l' t i, (l' < l ∨ (l' = l ∧ cc d t < c)) → l' < dnl d → t < dns d → dL d l' 0 = dbs d t → i < 960 → jV d i → jCl (cE d) i (960 + 16 * l' + cc d t) → ∃ j, j < n ∧ h j = 1000 * (jNo d i : Int) + dL d l' 3) ∧ n ≤ 16 * l + c
theorem cEn_0 {d : JdS} {h : Nat → Int} : cEn d 0 0 0 h := ⟨fun j hj => absurd hj (Nat.not_lt_zero j), fun l' t i h1 => by omega, Nat.le_refl _⟩
theorem cEn_l {d : JdS} {l c n : Nat} {h : Nat → Int} (hn : cEn d l c n h) (hc : c ≤ 16) (hall : ∀ t, t < dns d → dL d l 0 = dbs d t → cc d t < c) : cEn d (l + 1) 0 n h := by
  obtain ⟨h1, h2, h3⟩ := hn
  refine ⟨h1, fun l' t i k1 k2 k3 k4 => h2 l' t i ?_ k2 k3 k4, by omega⟩
  by_cases e : l' = l
  · rw [e] at k4
    exact Or.inr ⟨e, hall t k3 k4⟩
  · exact Or.inl (by omega)
theorem cEn_n {d : JdS} {l c n : Nat} {h : Nat → Int} {rt : Nat → Nat} (hR : jR 19520 (cE d) rt) (hU : ∀ n, n < 19520 → rt n ≤ n) (hn : cEn d l c n h) (hx : 960 + 16 * l + c < 19520) (hr : 960 ≤ rt (960 + 16 * l + c)) : cEn d l (c + 1) n h := by
  obtain ⟨h1, h2, h3⟩ := hn
  refine ⟨h1, fun l' t i k1 k2 k3 k4 k5 k6 k7 => ?_, by omega⟩
  by_cases e : l' = l ∧ cc d t = c
  · exfalso
    rw [e.1, e.2] at k7
    have w := (hR i _ (by omega) hx).2 k7
    have := hU i (by omega)
    omega
  · exact h2 l' t i (by omega) k2 k3 k4 k5 k6 k7
theorem cEn_y {d : JdS} {l c n t : Nat} {h : Nat → Int} {rt : Nat → Nat} (hg : jGd d) (hR : jR 19520 (cE d) rt) (hU : ∀ n, n < 19520 → rt n ≤ n ∧ rt (rt n) = rt n) (hn : cEn d l c n h) (hx : 960 + 16 * l + c < 19520) (hr : rt (960 + 16 * l + c) < 960) (hl : l < dnl d) (ht : t < dns d) (hc : cc d t = c) (hs : dL d l 0 = dbs d t) :
    jV d (rt (960 + 16 * l + c)) ∧ cEn d l (c + 1) (n + 1) (upF h n (1000 * (jNo d (rt (960 + 16 * l + c)) : Int) + dL d l 3)) := by
  have u := hU _ hx
  have hcl : jCl (cE d) (960 + 16 * l + c) (rt (960 + 16 * l + c)) := (hR _ _ hx (by omega)).1 u.2.symm
  have hv := cCl_v hg hcl (by omega) hr
  have gn := (hg.2.2.2.2.1 l hl).2.2.2
  refine ⟨hv, ?_⟩
  obtain ⟨h1, h2, h3⟩ := hn
  have lt := jNo_lt hv (n := 960) (by omega)
  refine ⟨fun j hj => ?_, fun l' t' i k1 k2 k3 k4 k5 k6 k7 => ?_, by omega⟩
  · by_cases e : j = n
    · rw [e, upF_at]
      refine ⟨1000 * jNo d (rt (960 + 16 * l + c)) + (dL d l 3).toNat, by omega, ?_, by omega⟩
      unfold cQ
      rw [show (1000 * jNo d (rt (960 + 16 * l + c)) + (dL d l 3).toNat) / 1000 = jNo d (rt (960 + 16 * l + c)) by omega, show (1000 * jNo d (rt (960 + 16 * l + c)) + (dL d l 3).toNat) % 1000 = (dL d l 3).toNat by omega]
      refine ⟨l, hl, by omega, t, ht, hs, _, hr, hv, rfl, (cS_lab hg hv hl ht hs).2 ?_⟩
      rw [hc]
      exact jCl_s hcl
    · rw [upF_ne e]
      exact h1 j (by omega)
  · by_cases e : l' = l ∧ cc d t' = c
    · rw [e.1, e.2] at k7
      have w := (hR i _ (by omega) hx).2 k7
      have e2 : jNo d i = jNo d (rt (960 + 16 * l + c)) := by
        by_cases z : rt i = i
        · rw [← w, z]
        · have q := (cRt hg hR hU k6).2 z
          rw [q.2.2.2, w]
      exact ⟨n, Nat.lt_succ_self n, by rw [upF_at, e2, e.1]⟩
    · obtain ⟨j, j1, j2⟩ := h2 l' t' i (by omega) k2 k3 k4 k5 k6 k7
      exact ⟨j, by omega, by rw [upF_ne (by omega)]; exact j2⟩
theorem cEn_so {d : JdS} {n : Nat} {f g : Nat → Int} (hg : jGd d) (h : cEn d (dnl d) 0 n f) (hse : zSe n g f) (hso : zSo 1 n g) : cSo d n g := by
  refine ⟨hso, fun j hj => ?_, fun q hq hlt => ?_⟩
  · obtain ⟨j', j1, j2⟩ := (hse (g j)).1 (Exists.intro j ⟨hj, rfl⟩)
    obtain ⟨q, q1, q2, q3⟩ := h.1 j' j1
    exact ⟨q, by omega, q2, q3⟩
  · obtain ⟨l, l1, l2, t, t1, t2, i, i1, i2, i3, i4⟩ := hq
    obtain ⟨j, j1, j2⟩ := h.2.1 l t i (Or.inl l1) l1 t1 t2 i1 i2 ((cS_lab hg i2 l1 t1 t2).1 i4)
    obtain ⟨k, k1, k2⟩ := (hse (f j)).2 (Exists.intro j ⟨j1, rfl⟩)
    exact ⟨k, k1, by omega⟩
theorem cTn_0 {d : JdS} {I : ZI} {rm : Nat → Int} (h : zCn d 960 I) : cTn d 0 (I 80) rm 0 := by
  refine ⟨fun m hm => Or.inr ⟨fun q hq => absurd hq (Nat.not_lt_zero q), ?_⟩, rfl, fun k hk => absurd hk (Nat.not_lt_zero k)⟩
  obtain ⟨i0, z1, z2, z3⟩ := jNo_ex hm
  have e1 := h.2.2 i0 z1 z2
  rw [z3] at e1
  rw [e1, zlow_at (P := fun i => jV d i ∧ jNo d i = m) (r := i0) ⟨z2.1, z3⟩ (fun b hb w => by
    have w1 := jNo_lt w.1 (n := i0) hb
    have w2 := jNo_f z2
    omega) z1]
  exact ⟨by omega, rfl⟩
theorem cEn_eq {d : JdS} {l c n : Nat} {f g : Nat → Int} (h : cEn d l c n f) (e : ∀ j, g j = f j) : cEn d l c n g := by
  rw [funext e]; exact h
theorem cIs_eq {d : JdS} {i rc rc' : Nat} {f g : Nat → Int} (h : cIs d i f rc) (e : ∀ j, g j = f j) (er : rc' = rc) : cIs d i g rc' := by
  rw [funext e, er]; exact h
