
/-! THE STORE: blocks stay fours of bytes -/
/-- blocks are as they were: places, lengths -/
def stBk (s t : StS) : Prop := sB t = sB s ∧ sF t = sF s ∧ sL t = sL s
theorem stM4_bk {g : Nat → Int} {s t : StS} (h : stM4 g s) (e : stBk s t) : stM4 g t := by
  obtain ⟨e1, e2, e3⟩ := e
  unfold stM4
  rw [e1, e2, e3]
  exact h
theorem stM4_lo {g g' : Nat → Int} {s : StS} {z : Nat} (h : stM4 g s) (hG : stG z s) (hx : ∀ j, j < z → g j = g' j) : stM4 g' s := fun b hb => ⟨(h b hb).1, fun i hi => by
  have w := (h b hb).2 i hi
  have w2 := (hG.2.2.2 b hb).2.2
  rw [← hx _ (by omega)]
  exact w⟩
theorem stBk_app {b : Nat} {s : StS} : stBk s (stApp b s) := ⟨rfl, rfl, rfl⟩
theorem stM4_nw {g : Nat → Int} {s : StS} {p N : Nat} (h : stM4 g s) (hN : N % 4 = 0) (hb : ∀ i, i < N → 0 ≤ g (p + i) ∧ g (p + i) ≤ 255) : stM4 g (stNw p N s) := fun b hb2 => by
  have hb3 : b < sB s + 1 := hb2
  show upF (sL s) (sB s) N b % 4 = 0 ∧ ∀ i, i < upF (sL s) (sB s) N b → 0 ≤ g (upF (sF s) (sB s) p b + i) ∧ g (upF (sF s) (sB s) p b + i) ≤ 255
  by_cases e : b = sB s
  · rw [e, upF_at, upF_at]; exact ⟨hN, hb⟩
  · rw [upF_ne e, upF_ne e]; exact h b (by omega)
/-- what the store keeps along its log -/
def stAl (g : Nat → Int) (m : Nat) (s : StS) (z : Nat) : Prop := (stLg g m z ∧ (stN g m).1 = z ∧ s = (stN g m).2) ∧ ∀ i, i ≤ m → stM4 g (stN g i).2
theorem stLg_G {g : Nat → Int} {m z : Nat} (h : stLg g m z) : stG (stN g m).1 (stN g m).2 := (stN_G h.1).1
theorem stAl_add {g g' : Nat → Int} {m : Nat} {s : StS} {z : Nat} (h : stAl g m s z) (hx : ∀ j, j < z → g j = g' j) (hok : stOk g' z s) (h4 : stM4 g' (stAct g' z s)) : stAl g' (m + 1) (stAct g' z s) (z + stSz g' z) := by
  obtain ⟨⟨h1, h2, h3⟩, h5⟩ := h
  obtain ⟨a1, a2, a3⟩ := stLg_add h1 h2 hx (by rw [← h3]; exact hok)
  refine ⟨⟨a1, a2, ?_⟩, fun i hi => ?_⟩
  · rw [a3, h3]
  · by_cases e : i = m + 1
    · rw [e, a3, ← h3]; exact h4
    · have hi2 : i ≤ m := by omega
      have w1 := stN_1 g hi2
      have w2 : (stN g i).1 ≤ z := by omega
      rw [stN_ext hx w2]
      refine stM4_lo (h5 i hi2) (z := (stN g i).1) (stN_G (fun j hj => h1.1 j (by omega))).1 (fun j hj => hx j (by omega))
/-- a drop, a sweep, an end: blocks stay -/
theorem stAl_o {g g' : Nat → Int} {m : Nat} {s : StS} {z : Nat} (h : stAl g m s z) (hx : ∀ j, j < z → g j = g' j) (hok : stOk g' z s) (hb : stBk s (stAct g' z s)) : stAl g' (m + 1) (stAct g' z s) (z + stSz g' z) := by
  have hG : stG z s := by rw [h.1.2.2, ← h.1.2.1]; exact stLg_G h.1.1
  have h4 : stM4 g s := by rw [h.1.2.2]; exact h.2 m (Nat.le_refl m)
  exact stAl_add h hx hok (stM4_bk (stM4_lo h4 hG hx) hb)
theorem stAl_iX {g : Nat → Int} {m : Nat} {s : StS} {z cr cn : Nat} (h : stAl g m s z) (h1 : cr ≤ 1) (h2 : cn ≤ 16) : iX ((g, m, s, z), cr, cn) := ⟨⟨h1, h2⟩, h.2⟩
theorem stAl_c {x : StL} {I : ZI} (h : aX x I) (hi : iX x) (h0 : x.2.1 = 0) : stAl x.1.1 x.1.2.1 x.1.2.2.1 x.1.2.2.2 := ⟨⟨h.2.2.2.2.1.2.2.2, (h.2.2.2.2.2 h0).1, h.2.2.2.2.1.2.2.1⟩, hi.2⟩
theorem stAl_svK {s : BdS} {x : SvK} (hg : bGd s) (hf : svFit s x) (h : stAl x.1 x.2.1 x.2.2.1 x.2.2.2) : ∀ n, n ≤ bnn s → svIn s x n ∧ stAl (svK s x n).1 (svK s x n).2.1 (svK s x n).2.2.1 (svK s x n).2.2.2
  | 0, _ => ⟨svIn_0 (by rw [h.1.2.2, ← h.1.2.1]; exact stLg_G h.1.1), h⟩
  | n + 1, hn => by
    obtain ⟨w1, w2⟩ := stAl_svK hg hf h n (by omega)
    refine ⟨svIn_s hg w1 hf (by omega), ?_⟩
    by_cases hz : gaN s n (bnp s) = 0
    · rw [svK_n hz]; exact w2
    · have hN := gaN_le hg (show n < bnn s by omega) (Nat.le_refl (bnp s))
      obtain ⟨f1, f2, f3⟩ := svIn_f w1 hf (by omega) hz
      rw [svK_y hz]
      refine stAl_add w2 sv_lo (sv_ok (by omega) f1 ⟨f2, f3⟩) ?_
      generalize svK s x n = y at *
      have hG : stG y.2.2.2 y.2.2.1 := by rw [w2.1.2.2, ← w2.1.2.1]; exact stLg_G w2.1.1
      have h4 : stM4 y.1 y.2.2.1 := by rw [w2.1.2.2]; exact w2.2 _ (Nat.le_refl _)
      have h4' := stM4_lo h4 hG (sv_lo (g := y.1) (s := y.2.2.1) (z := y.2.2.2) (f := gaF s n (bnp s)) (N := gaN s n (bnp s)))
      by_cases e : svR y.1 y.2.2.1 (gaF s n (bnp s)) (gaN s n (bnp s)) = -1
      · rw [(sv_n e).2.1]
        refine stM4_bk (stM4_nw h4' (by unfold gaN; omega) (fun i hi => ?_)) stBk_app
        rw [(sv_n e).1]
        have e2 : lgN y.1 y.2.2.2 (gaN s n (bnp s)) (gaF s n (bnp s)) (y.2.2.2 + 2 + i) = gaF s n (bnp s) i := by
          unfold lgN
          rw [if_neg (by omega), if_neg (by omega), if_pos (by omega), show y.2.2.2 + 2 + i - y.2.2.2 - 2 = i by omega]
        show 0 ≤ lgN y.1 y.2.2.2 (gaN s n (bnp s)) (gaF s n (bnp s)) (y.2.2.2 + 2 + i) ∧ lgN y.1 y.2.2.2 (gaN s n (bnp s)) (gaF s n (bnp s)) (y.2.2.2 + 2 + i) ≤ 255
        rw [e2]
        exact gaF_b hg (Nat.le_refl _)
      · rw [(sv_o e).2.1]
        exact stM4_bk h4' stBk_app
theorem stAl_svE {s : BdS} {x : SvK} (hg : bGd s) (hf : svFit s x) (h : stAl x.1 x.2.1 x.2.2.1 x.2.2.2) : stAl (svE s x).1 (svE s x).2.1 (svE s x).2.2.1 (svE s x).2.2.2 := by
  obtain ⟨w1, w2⟩ := stAl_svK hg hf h (bnn s) (Nat.le_refl _)
  obtain ⟨e1, e2, e3⟩ := svE_ok w1 hf
  have z := stAl_o w2 lg2_lo e1 (by rw [e3]; exact ⟨rfl, rfl, rfl⟩)
  rw [e2, e3] at z
  exact z
theorem stAl_drp {g : Nat → Int} {m : Nat} {s : StS} {z cr : Nat} {e : Int} (h : stAl g m s z) (hv : stDv s z cr e = 0) : stAl (lg2 g z 4 e) (m + 1) (stDrp e.toNat s) (z + 2) := by
  have q : ¬ cr = 1 ∧ (0 ≤ e ∧ e < sV s) ∧ z ≤ 398 := by
    unfold stDv at hv
    split at hv
    · exact absurd hv (by decide)
    · split at hv
      · exact absurd hv (by decide)
      · split at hv
        · exact absurd hv (by decide)
        · split at hv
          · exact absurd hv (by decide)
          · refine ⟨by assumption, ?_, by omega⟩
            rename_i w _ _
            exact Classical.byContradiction (fun k => w k)
  have a1 : lg2 g z 4 e z = 4 := lg2_at
  have a2 : lg2 g z 4 e (z + 1) = e := lg2_at1 (by omega)
  have a3 := stSz_2 (g := lg2 g z 4 e) (a := z) (Or.inr a1)
  have a4 := stAct_4 (s := s) a1
  rw [a2] at a4
  have w := stAl_o h lg2_lo (show stOk (lg2 g z 4 e) z s from ⟨by rw [a3]; omega, Or.inr (Or.inr (Or.inr (Or.inl ⟨a1, by rw [a2]; exact q.2.1.1, by rw [a2]; exact q.2.1.2⟩)))⟩) (by rw [a4]; exact ⟨rfl, rfl, rfl⟩)
  rw [a3, a4] at w
  exact w
theorem stAl_swp {g : Nat → Int} {m : Nat} {s : StS} {z : Nat} (h : stAl g m s z) (hz : z < 400) : stAl (lg2 g z 5 (-1)) (m + 1) (stSwp s) (z + 1) := by
  have a1 : lg2 g z 5 (-1) z = 5 := lg2_at
  have a3 := stSz_3 (g := lg2 g z 5 (-1)) (a := z) (Or.inr a1)
  have a4 := stAct_5 (s := s) a1
  have w := stAl_o h lg2_lo (show stOk (lg2 g z 5 (-1)) z s from ⟨by rw [a3]; omega, Or.inr (Or.inr (Or.inr (Or.inr a1)))⟩) (by rw [a4]; exact ⟨rfl, rfl, rfl⟩)
  rw [a3, a4] at w
  exact w
theorem stLg_le {g : Nat → Int} {m m' z z' : Nat} (h : stLg g m z) (h' : stLg g m' z') (hz : z' ≤ z) : m' ≤ m := by
  refine Classical.byContradiction (fun k => ?_)
  have w1 := stN_1 g (show m + 1 ≤ m' by omega)
  have w2 := h'.2.1
  have w3 : (stN g (m + 1)).1 = (stN g m).1 + stSz g (stN g m).1 := rfl
  have w4 := stSz_1 g (stN g m).1
  rcases h.2.2.2 with q | q
  · omega
  · have := q.2; omega
/-- how many records are whole -/
noncomputable def lwCm (g : Nat → Int) (z : Nat) : Nat := @dite _ (∃ m, stLg g m z) (Classical.propDecidable _) (fun h => Classical.choose h) (fun _ => 0)
theorem lwCm_e {g : Nat → Int} {m z : Nat} (h : stLg g m z) : lwCm g z = m := by
  unfold lwCm
  rw [dif_pos ⟨m, h⟩]
  exact stLg_one (Classical.choose_spec (⟨m, h⟩ : ∃ m, stLg g m z)) h
theorem stOut_b {g : Nat → Int} {s : StS} {v a : Nat} (hG : stG a s) (hv : v ≤ sV s) (h4 : stM4 g s) : ∀ (n k : Nat) (x : Int), k + n ≤ sC s v → 0 ≤ x → -1 ≤ stOut g s v n k x ∧ stOut g s v n k x ≤ 255
  | 0, k, x, _, _ => ⟨Int.le_refl _, (show (-1 : Int) ≤ 255 by decide)⟩
  | n + 1, k, x, hk, hx => by
    unfold stOut
    have hb := ((hG.2.2.1 v hv).2.2 k (by omega))
    split
    · have w := (h4 _ hb).2 x.toNat (by omega)
      omega
    · exact stOut_b hG hv h4 n (k + 1) _ (by omega) (by omega)
theorem stQ_r {g : Nat → Int} {s : StS} {cr a : Nat} {e i : Int} (hG : stG a s) (h4 : stM4 g s) : r32 (stQ g s cr e i) := by
  unfold stQ
  split
  · have w := stOut_b hG (show e.toNat ≤ sV s by omega) h4 (sC s e.toNat) 0 i (by omega) (by omega)
    exact ⟨by omega, by omega⟩
  · exact zRb rfl
