/-! gp: SCRIPTS: what a run comes to -/
def wkNd (s : WkS) : DtT × Int × (Int × Int × Int) := (s.1, (if s.2.2.1 = 1 then 2 else if s.2.2.2.1 = 0 then 0 else 1), (if s.2.2.1 = 1 then (0, -1, 0) else s.2.2.2))
theorem wkNd_g {s : WkS} (h : wkGo s) : wkNd s = (s.1, 0, (0, -1, 0)) := by
  unfold wkNd
  rw [if_neg (by rw [h.1]; decide), if_pos (by rw [h.2]), if_neg (by rw [h.1]; decide), h.2]
theorem wkNd_f {s : WkS} (h : s.2.2.1 = 0) (h2 : s.2.2.2.1 ≠ 0) : wkNd s = (s.1, 1, s.2.2.2) := by
  unfold wkNd
  rw [if_neg (by rw [h]; decide), if_neg h2, if_neg (by rw [h]; decide)]
theorem wkNd_s {s : WkS} (h : s.2.2.1 = 1) : wkNd s = (s.1, 2, (0, -1, 0)) := by
  unfold wkNd
  rw [if_pos h, if_pos h]
/-- the machine's end -/
def mNd (M : WkM) (x : MsT) (e : DtT × Int × (Int × Int × Int)) : Prop := ∃ N, (itN (mSt M.1 M.2.1 M.2.2.1) N x).2.2.1.1 = 1 ∧ ((itN (mSt M.1 M.2.1 M.2.2.1) N x).1, (itN (mSt M.1 M.2.1 M.2.2.1) N x).2.2.1.2, (itN (mSt M.1 M.2.1 M.2.2.1) N x).2.2.2.1) = e ∧ ∀ k, ¬ (itN (mSt M.1 M.2.1 M.2.2.1) k x).2.2.1.1 = 1 → wkC M (itN (mSt M.1 M.2.1 M.2.2.1) k x)
theorem mNd_of {M : WkM} {x y : MsT} {e : DtT × Int × (Int × Int × Int)} (h : wkI M x y) (hd : y.2.2.1.1 = 1) (he : (y.1, y.2.2.1.2, y.2.2.2.1) = e) : mNd M x e := by
  obtain ⟨N, h1, h2⟩ := h
  refine ⟨N, by rw [h1]; exact hd, by rw [h1]; exact he, fun k hk => ?_⟩
  by_cases q : k < N
  · exact h2 k q
  · exfalso
    apply hk
    have w : itN (mSt M.1 M.2.1 M.2.2.1) (N + (k - N)) x = itN (mSt M.1 M.2.1 M.2.2.1) (k - N) (itN (mSt M.1 M.2.1 M.2.2.1) N x) := itN_add
    rw [show N + (k - N) = k by omega, h1, itN_fix (mSt_d hd)] at w
    rw [w]
    exact hd
theorem mNd_u {M : WkM} {x : MsT} {e e' : DtT × Int × (Int × Int × Int)} (h : mNd M x e) (h' : mNd M x e') : e = e' := by
  obtain ⟨N, h1, h2, _⟩ := h
  obtain ⟨N', h1', h2', _⟩ := h'
  rw [← h2, ← h2', itN_det (f := mSt M.1 M.2.1 M.2.2.1) (a := N) (b := N') rfl rfl (mSt_d h1) (mSt_d h1')]
theorem raH_nil {k p v : Int} {E : EvE} {cl : Nat} : raH k p v [] E cl = (0, [], E, cl, 0) := rfl
theorem wkZ_nd {M : WkM} {i t : Nat} {s s' : WkS} (h : wkZ M 0 0 i s t s') (hT : (M.1 t).1 = 20) (ht : t ≤ M.2.2.2) (bk : Nat → Int) : mNd M (wkX s i 0 bk []) (wkNd s') := by
  obtain ⟨bk1, _, q⟩ := h bk [] (Nat.le_refl 0)
  rcases q with q | ⟨a, b, nx, c2, q⟩ | ⟨a, y, q, r1, r2, r3, r4⟩
  · rw [wkNd_g q.1]
    refine mNd_of (itC_t q.2 (itC_1 (wkC_1 ht (mVo_s (by omega))) (mSt_20 (x := wkX s' (t : Int) 0 bk1 []) (show ¬ (0 : Nat) = 1 by decide) wkX_n hT))) rfl rfl
  · rw [wkNd_f a b]
    refine mNd_of q ?_ ?_
    · unfold mRa; rfl
    · unfold mRa; rfl
  · rw [wkNd_s a]
    refine mNd_of q ?_ ?_
    · rw [r3]
    · rw [r1, r3, r4]
def wkS0 (E : EvE) : WkS := (((fun _ => 0, E.2), (0, fun _ => 0), (0, fun _ => 0)), 0, 0, (0, -1, 0))
theorem wkS0_x {E : EvE} {bk : Nat → Int} : wkX (wkS0 E) ((0 : Nat) : Int) 0 bk [] = mS0 E bk := rfl
theorem wkS0_g {E : EvE} : wkGo (wkS0 E) := ⟨rfl, rfl⟩
noncomputable def scRn (M : WkM) (E : EvE) : DtT × Int × (Int × Int × Int) := @dite _ (∃ e, ∀ bk, mNd M (mS0 E bk) e) (Classical.propDecidable _) (fun h => Classical.choose h) (fun _ => ((wkS0 E).1, 0, (0, -1, 0)))
theorem scRn_e {M : WkM} {E : EvE} {e : DtT × Int × (Int × Int × Int)} (h : ∀ bk, mNd M (mS0 E bk) e) : scRn M E = e := by
  have hx : ∃ e, ∀ bk, mNd M (mS0 E bk) e := ⟨e, h⟩
  unfold scRn
  rw [dif_pos hx]
  exact mNd_u (Classical.choose_spec hx (fun _ => 0)) (h (fun _ => 0))
/-- a program, side by side -/
def scOk (n : Nat) (c clo fn : Nat → Int) (M : WkM) (G : WkG) : Prop := eTx n c ∧ wfA n c clo fn M G ∧ (∃ r, G r 0 0 n M.2.2.2) ∧ (M.1 M.2.2.2).1 = 20 ∧ M.2.2.2 ≤ 599
theorem scOk_l {n : Nat} {c clo fn : Nat → Int} {M : WkM} {G : WkG} (h : scOk n c clo fn M G) (l : Nat) : scOk n c clo fn (M.1, M.2.1, l, M.2.2.2) G := h
theorem scRn_Z {n : Nat} {c clo fn : Nat → Int} {M : WkM} {G : WkG} {E : EvE} {s' : WkS} (h : scOk n c clo fn M G) (hZ : wkZ M 0 0 0 (wkS0 E) M.2.2.2 s') : scRn M E = wkNd s' := scRn_e (fun bk => by
  have w := wkZ_nd hZ h.2.2.2.1 (Nat.le_refl _) bk
  exact w)
theorem scRn_m {n : Nat} {c clo fn : Nat → Int} {M : WkM} {G : WkG} {E : EvE} (h : scOk n c clo fn M G) (bk : Nat → Int) : mNd M (mS0 E bk) (scRn M E) := by
  obtain ⟨r, hG⟩ := h.2.2.1
  have hr := wf_r h.2.1 hG
  obtain ⟨s', _, z⟩ := wkEx_all h.1 h.2.1 7 r 0 0 n M.2.2.2 0 0 (wkS0 E) hG wkS0_g (Nat.zero_le _) (by decide) (by omega) (by decide)
  rw [scRn_Z h z]
  exact wkZ_nd z h.2.2.2.1 (Nat.le_refl _) bk
