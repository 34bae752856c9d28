/-! LEADING, by the reference -/
theorem zBB_un {k n : Nat} {u : BdS} {I L : ZI} (h : zBB k n u I L) (h1 : I (k + 15) n = bN u n 5) (h2 : bN u n 2 = 1 → L (k + 13) n = bN u n 3) : zBB k (-1) u I L := by
  obtain ⟨h0, h2', h3, h4, h5, h6⟩ := h
  refine ⟨h0, h2', h3, h4, fun m hm => ?_, h6⟩
  obtain ⟨a1, a2, a3, a5, a6⟩ := h5 m hm
  refine ⟨a1, a2, a3, fun _ => ?_, a6⟩
  by_cases e : m = n
  · rw [e]; exact ⟨h1, h2⟩
  · exact a5 (by omega)
theorem zBB_on {k : Nat} {q : Int} {u : BdS} {I L : ZI} (h : zBB k (-1) u I L) : zBB k q u I L := by
  obtain ⟨h0, h2', h3, h4, h5, h6⟩ := h
  refine ⟨h0, h2', h3, h4, fun m hm => ?_, h6⟩
  obtain ⟨a1, a2, a3, a5, a6⟩ := h5 m hm
  exact ⟨a1, a2, a3, fun _ => a5 (by omega), a6⟩
theorem zBB_bg {k n : Nat} {s : BdS} {I L I' L' : ZI} (h : zBB k (-1) s I L) (hn : n < bnn s) (hw : bwl s n = 0) (h11 : I' (k + 11) n = 0) (hf : ∀ c j : Nat, (k ≤ c ∧ c ≤ k + 15) ∧ ¬ (c = k + 15 ∧ j = n) ∧ ¬ (c = k + 11 ∧ j = n) → I' c j = I c j) (hl : ∀ c j : Nat, (k ≤ c ∧ c ≤ k + 13) ∧ ¬ (c = k + 13 ∧ j = n) → L' c j = L c j) : zBB k n s I' L' := by
  have e : I (k + 11) n = 0 := by
    rw [(h.2.2.2.2.1 n hn).2.1, hw]; rfl
  refine zBB_i (zBB_on h) (fun c j w => ?_) hl hn
  by_cases q : c = k + 11 ∧ j = n
  · rw [q.1, q.2, h11, e]
  · exact hf c j (by omega)
theorem zBB_led {k n : Nat} {t : BdS} {a : Int} {I L I' L' : ZI} (h : zBB k n t I L) (hn : n < bnn t) (h15 : I (k + 15) n = 0) (h13 : L (k + 13) n = a) (h10 : I' (k + 10) n = 1) (hf : ∀ c j : Nat, (k ≤ c ∧ c ≤ k + 15) ∧ ¬ (c = k + 10 ∧ j = n) → I' c j = I c j) (hl : ∀ c j : Nat, k ≤ c ∧ c ≤ k + 13 → L' c j = L c j) :
    zBB k (-1) (bs_N t (up2z (up2z (up2z (bN t) n 2 1) n 3 a) n 5 0)) I' L' := by
  refine zBB_un (n := n) (zBB_N h (fun m hm => ?_) (fun m hm => ⟨hf _ _ (by omega), hf _ _ (by omega), hf _ _ (by omega)⟩) (fun c j w => hf _ _ (by omega)) (fun c j w => hl _ _ (by omega))) ?_ (fun _ => ?_)
  · obtain ⟨a1, a2, a3, a5, a6⟩ := h.2.2.2.2.1 m hm
    rw [up2z_ne (show ¬ (m = n ∧ 2 = 5) by omega), up2z_ne (show ¬ (m = n ∧ 4 = 5) by omega), up2z_ne (show ¬ (m = n ∧ 2 = 3) by omega), up2z_ne (show ¬ (m = n ∧ 4 = 3) by omega), up2z_ne (show ¬ (m = n ∧ 4 = 2) by omega)]
    by_cases e : m = n
    · subst e
      rw [up2z_at]
      exact ⟨h10, (hf _ _ (by omega)).trans a3, fun w => absurd rfl w⟩
    · rw [up2z_ne (by omega)]
      refine ⟨(hf _ _ (by omega)).trans a1, (hf _ _ (by omega)).trans a3, fun w => ?_⟩
      rw [up2z_ne (by omega), up2z_ne (by omega), up2z_ne (by omega), up2z_ne (by omega), up2z_ne (by omega), up2z_ne (by omega)]
      exact ⟨(hf _ _ (by omega)).trans (a5 w).1, fun w2 => (hl _ _ (by omega)).trans ((a5 w).2 w2)⟩
  · show I' (k + 15) n = up2z (up2z (up2z (bN t) n 2 1) n 3 a) n 5 0 n 5
    rw [up2z_at]
    exact (hf _ _ (by omega)).trans h15
  · show L' (k + 13) n = up2z (up2z (up2z (bN t) n 2 1) n 3 a) n 5 0 n 3
    rw [up2z_ne (by omega), up2z_at]
    exact (hl _ _ (by omega)).trans h13
theorem gFp {s : BdS} {n : Nat} (hg : bGd s) (hn : n < bnn s) (hp : 0 < bN s n 1) : gPj s n 0 (bFp s n) := by
  have w := (hg.2.2.2.2.1 n hn).1
  obtain ⟨p, h1, h2, h3⟩ := bcn_ix (P := bP s) (n := (n : Int)) (j := 0) (m := bnp s) (by omega)
  refine ⟨p, h1, h2, h3, ?_⟩
  unfold bFp
  rw [zlow_at (P := fun p => bP s p 3 = n) (r := p) h2 (fun b hb q => by
    have := bcn_lt hb q
    omega) h1, if_neg (by omega)]
  rfl
/-- how many pads are not in the tree -/
noncomputable def gOc (t : BdS) (n : Nat) : Nat := zct (fun p => bOut t n (bTn t n) (bP t p 2).toNat) (bnp t)
theorem gOc_le {t : BdS} {n : Nat} (hp : gPd t) (hn : n < bnn t) : gOc t n ≤ 5 := by
  have key : ∀ m, m ≤ bnp t → zct (fun p => bOut t n (bTn t n) (bP t p 2).toNat) m ≤ bcn (bP t) n m := by
    intro m
    induction m with
    | zero => intro _; exact Nat.le_refl 0
    | succ m ih =>
      intro hm
      have w := ih (by omega)
      show zct _ m + zite _ 1 0 ≤ bcn (bP t) n m + if bP t m 3 = n then 1 else 0
      by_cases e : bOut t n (bTn t n) (bP t m 2).toNat
      · have w2 := (hp.2.1 m (by omega)).2.2.2
        rw [zite_t e, if_pos (by rw [← w2]; exact e.2.2.1)]
        omega
      · rw [zite_f e]
        omega
  have w := key _ (Nat.le_refl _)
  have w2 := hp.2.2 n hn
  unfold gOc
  omega
theorem gOc_0 {t : BdS} {n : Nat} (h : gOc t n = 0) : bAll t n (bTn t n) := fun p hp q => by
  have w := zct_one (P := fun p => bOut t n (bTn t n) (bP t p 2).toNat) (c := p) q hp
  unfold gOc at h
  omega
theorem gJn_oc {u : BdS} {n : Nat} {r : Int} {c : Nat} (hb : bK u ≤ 1024) (hp : gPd u) (hp2 : gPd (bJn u n r c)) (hk : bKp (bJn u n r c) u) (hO : bOut u n (bTn u n) c) (hT : bTr (bJn u n r c) n = bTp u n (bPth u n r c) (bPl u n r c)) (h0 : 0 ≤ bDn u n r c) : gOc (bJn u n r c) n + 1 ≤ gOc u n := by
  obtain ⟨k1, -, -, k4, k5, k6, -, -, -⟩ := hk
  have kK : bK (bJn u n r c) = bK u := by
    show (bJn u n r c).1.1 * (bJn u n r c).1.2.1 * (bJn u n r c).1.2.2 = _
    rw [k1]
  have hTc : bTr (bJn u n r c) n c := by
    rw [hT]
    have w := bPl_sp hb h0
    rcases Nat.eq_zero_or_pos (bPl u n r c) with e | e
    · have w2 := w.1
      rw [e] at w2
      exact Or.inl w2
    · exact Or.inr (Exists.intro 0 ⟨e, rfl⟩)
  have hS : ∀ d, bTr u n d → bTr (bJn u n r c) n d := fun d q => by rw [hT]; exact Or.inl q
  have key : ∀ d, bOut (bJn u n r c) n (bTn (bJn u n r c) n) d → bOut u n (bTn u n) d := fun d q => by
    obtain ⟨q1, q2, q3, q4⟩ := q
    rw [kK] at q1
    rw [k4] at q2
    obtain ⟨a1, a2, a3⟩ := hp.1 d (by omega)
    have a4 := a3 q2
    have b1 := (hp.2.1 (bpa u d).toNat (by omega)).2.2.2
    have b2 := (hp2.2.1 (bpa u d).toNat (by rw [k5]; omega)).2.2.2
    rw [k6] at b2
    rw [show (bP u (bpa u d).toNat 2).toNat = d by omega] at b1 b2
    refine ⟨q1, q2, by rw [b1, ← b2]; exact q3, ?_⟩
    unfold bTn at q4 ⊢
    by_cases e : bTr u n d
    · rw [zite_t (hS d e)] at q4
      exact absurd q4 (by decide)
    · exact zite_f e
  obtain ⟨a1, a2, a3⟩ := hp.1 c (by have := hO.1; omega)
  have a4 := a3 hO.2.1
  have w := zct_lt (P := fun p => bOut (bJn u n r c) n (bTn (bJn u n r c) n) (bP u p 2).toNat) (Q := fun p => bOut u n (bTn u n) (bP u p 2).toNat) (fun d q => key _ q) (c := (bpa u c).toNat) (fun q => by
    have q4 := q.2.2.2
    rw [show (bP u (bpa u c).toNat 2).toNat = c by omega] at q4
    unfold bTn at q4
    rw [zite_t hTc] at q4
    exact absurd q4 (by decide)) (by
    show bOut u n (bTn u n) (bP u (bpa u c).toNat 2).toNat
    rw [show (bP u (bpa u c).toNat 2).toNat = c by omega]
    exact hO) (k := bnp u) (by have := hO.2.1; omega)
  unfold gOc
  rw [k5, k6]
  exact w
theorem gNx_a {t : BdS} {n : Nat} (h : bPk t n 0 (bTn t n) ≠ -1) : bNx t n = (bJn t n 0 (gPk t n 0).toNat, bDn t n 0 (gPk t n 0).toNat) := by
  rw [bNx_a rfl h]
  unfold gPk
  rw [if_neg h]
theorem gNx_b {t : BdS} {n : Nat} (h : bPk t n 0 (bTn t n) = -1) (h2 : bPk (bM5 t n) n 1 (bTn (bM5 t n) n) = -1) : bNx t n = (bM5 t n, -1) := bNx_b rfl h rfl h2
theorem gNx_c {t : BdS} {n : Nat} (h : bPk t n 0 (bTn t n) = -1) (h2 : bPk (bM5 t n) n 1 (bTn (bM5 t n) n) ≠ -1) : bNx t n = (bJn (bM5 t n) n 1 (gPk (bM5 t n) n 1).toNat, bDn (bM5 t n) n 1 (gPk (bM5 t n) n 1).toNat) := by
  rw [bNx_c rfl h rfl h2]
  unfold gPk
  rw [if_neg h2]
  rfl
/-- of the pad that is next -/
theorem gPk_p {t : BdS} {n : Nat} {r : Int} (h : bPk t n r (bTn t n) ≠ -1) : 0 ≤ bDn t n r (gPk t n r).toNat ∧ bOut t n (bTn t n) (gPk t n r).toNat ∧ (gPk t n r).toNat < bK t := by
  obtain ⟨p, h1, h2, h3, h4, h5⟩ := bPk_sp h
  unfold gPk
  rw [if_neg h, h1]
  exact ⟨h4, h3, h3.1⟩
/-- what comes of one more pad -/
theorem gNx_p {t : BdS} {n hb rb : Nat} {u : BdS} {r : Int} (hu : u = t ∨ u = bM5 t n) (hLi : bLi t n hb rb) (h2 : bN t n 2 = 0) (h : bPk u n r (bTn u n) ≠ -1) :
    bLi (bJn u n r (gPk u n r).toNat) n hb (rb + 1) ∧ bN (bJn u n r (gPk u n r).toNat) n 2 = 0 ∧ gOc (bJn u n r (gPk u n r).toNat) n + 1 ≤ gOc t n := by
  have hnn : bnn t ≤ 12 := hLi.1.2.1.2
  have hM := bMc_b (n := n) (s := t) hLi.1.1.2.2.2 (fun c hc => by have := bLi_h hLi c hc; omega) (bK t)
  have hLu : bLi u n hb rb := by
    rcases hu with e | e
    · rw [e]; exact hLi
    · rw [e]; exact bLi_5 hLi hM
  have h2u : bN u n 2 = 0 := by
    rcases hu with e | e
    · rw [e]; exact h2
    · rw [e]
      show up2z (bN t) n 5 _ n 2 = 0
      rw [up2z_ne (by omega)]
      exact h2
  have hOu : gOc u n = gOc t n := by
    rcases hu with e | e
    · rw [e]
    · rw [e]; rfl
  obtain ⟨w1, w2, w3⟩ := gPk_p h
  have hK : bK u ≤ 1024 := hLu.1.1.2.2.2
  have hn2 : bnn u ≤ 12 := hLu.1.2.1.2
  have hnu : n < bnn u := hLu.2.1
  have hL2 := bJn_li hLu w1
  have hPl := bPl_sp hK w1
  have hf9 : ∀ j, j < bPl u n r (gPk u n r).toNat → bPth u n r (gPk u n r).toNat j < 1024 := fun j hj => by
    have := (bPth_sp hK w1 j (fun i hi => hPl.2 i (by omega))).1
    omega
  have hJ := bJ1_p (s := u) (n := n) (k := bPl u n r (gPk u n r).toNat) (f := bPth u n r (gPk u n r).toNat) hn2 hnu (bLi_h hLu) hf9
  refine ⟨hL2, (gJn_2 (s := u) hn2 hnu (bLi_h hLu) hf9).trans h2u, ?_⟩
  rw [← hOu]
  have e1 : gPd u := gPd_of (f := up2z (bN u) n 2 1) hLu.1
  have e2 : gPd (bJn u n r (gPk u n r).toNat) := gPd_of (f := up2z (bN (bJn u n r (gPk u n r).toNat)) n 2 1) hL2.1
  have e3 : bTr (bJn u n r (gPk u n r).toNat) n = bTp u n (bPth u n r (gPk u n r).toNat) (bPl u n r (gPk u n r).toNat) := hJ.2.2.2.2.2.2.2.2.2
  exact gJn_oc hK e1 e2 (bJn_kp u n r (gPk u n r).toNat) w2 e3 w1
