/-! CUTS, the reference: one piece more told to the copper; one shape more told to the checks -/
def zPw (k n : Nat) (lo hi pin x y a b r : Int) (I L : ZI) : Prop := (I (k + 1) n = 1 ∧ I (k + 2) n = lo ∧ I (k + 3) n = hi ∧ I (k + 9) n = pin) ∧ (L (k + 4) n = x ∧ L (k + 5) n = y) ∧ (L (k + 6) n = a ∧ L (k + 7) n = b) ∧ L (k + 8) n = r
theorem zPw_fr {k n : Nat} {lo hi pin x y a b r : Int} {I I' L L' : ZI} (h : zPw k n lo hi pin x y a b r I L) (hf : ∀ c j : Nat, (k + 1 ≤ c ∧ c ≤ k + 3) ∨ c = k + 9 → I' c j = I c j) (hl : ∀ c j : Nat, k + 4 ≤ c ∧ c ≤ k + 8 → L' c j = L c j) : zPw k n lo hi pin x y a b r I' L' := by
  obtain ⟨⟨h1, h2, h3, h4⟩, ⟨h5, h6⟩, ⟨h7, h8⟩, h9⟩ := h
  exact ⟨⟨(hf _ _ (by omega)).trans h1, (hf _ _ (by omega)).trans h2, (hf _ _ (by omega)).trans h3, (hf _ _ (by omega)).trans h4⟩, ⟨(hl _ _ (by omega)).trans h5, (hl _ _ (by omega)).trans h6⟩, ⟨(hl _ _ (by omega)).trans h7, (hl _ _ (by omega)).trans h8⟩, (hl _ _ (by omega)).trans h9⟩
theorem cuNp_a {w : List CuR} {r : CuR} : (r 0 ≠ 2 → cuNp (w ++ [r]) = cuNp w + 1) ∧ (r 0 = 2 → cuNp (w ++ [r]) = cuNp w) := by
  have e : zct (cuPn (w ++ [r])) w.length = zct (cuPn w) w.length := zct_on (fun i hi => by unfold cuPn; rw [cg_l hi])
  have en : cg (w ++ [r]) w.length 0 = r 0 := cg_e
  constructor
  · intro h
    unfold cuNp
    rw [cLn, zct_t (show cuPn (w ++ [r]) w.length by unfold cuPn; rw [en]; exact h), e]
  · intro h
    unfold cuNp
    rw [cLn, zct_f (show ¬ cuPn (w ++ [r]) w.length by unfold cuPn; rw [en]; exact fun q => q h), e]
theorem cuPx_a {w : List CuR} {r : CuR} {p : Nat} (h : p < cuNp w) : cuPx (w ++ [r]) p = cuPx w p := by
  obtain ⟨h1, h2, h3⟩ := cuPx_b h
  have e : zct (cuPn (w ++ [r])) (cuPx w p) = zct (cuPn w) (cuPx w p) := zct_on (fun i hi => by unfold cuPn; rw [cg_l (by omega)])
  have z := cuPx_at (w := w ++ [r]) (i := cuPx w p) (by rw [cLn]; omega) (by unfold cuPn; rw [cg_l h1]; exact h2)
  rw [e, h3] at z
  exact z
theorem cuPx_n {w : List CuR} {r : CuR} (h : r 0 ≠ 2) : cuPx (w ++ [r]) (cuNp w) = w.length := by
  have e : zct (cuPn (w ++ [r])) w.length = zct (cuPn w) w.length := zct_on (fun i hi => by unfold cuPn; rw [cg_l hi])
  have z := cuPx_at (w := w ++ [r]) (i := w.length) (by rw [cLn]; omega) (by unfold cuPn; rw [cg_e]; exact h)
  rw [e] at z
  exact z
theorem cuE_a {w x : List CuR} {i ax e : Nat} (h : i < w.length) : cuE (w ++ x) i ax e = cuE w i ax e := by
  unfold cuE
  rw [cg_l h]
theorem zPi_a {k pc pc' p : Nat} {w : List CuR} {r : CuR} {I L : ZI} (hp : p < cuNp w) (hpc : cuPi pc' p = cuPi pc p) (h : zPi k w pc p (cuPx w p) I L) : zPi k (w ++ [r]) pc' p (cuPx (w ++ [r]) p) I L := by
  have hx := (cuPx_b hp).1
  rw [cuPx_a hp]
  unfold zPi at h ⊢
  have e1 : cuTp (w ++ [r]) (cuPx w p) = cuTp w (cuPx w p) := by unfold cuTp; rw [cg_l hx, cg_l hx]
  have e2 : cuEw (w ++ [r]) (cuPx w p) = cuEw w (cuPx w p) := by unfold cuEw; rw [cg_l hx]
  have e3 : cuEr (w ++ [r]) (cuPx w p) = cuEr w (cuPx w p) := by unfold cuEr; rw [cg_l hx]
  rw [e1, e2, e3, cg_l hx, cuE_a hx, cuE_a hx, cuE_a hx, cuE_a hx, hpc]
  exact h
def cuQ (p : Int) (ax : Nat) : Int := 1000 * (if ax = 1 then p % 16 else p / 16)
theorem cuE_n {w : List CuR} {r : CuR} {ax e : Nat} : cuE (w ++ [r]) w.length ax e = cuQ (r (if e = 1 then 4 else 3)) ax := by
  unfold cuE cuQ
  rw [cg_e]
/-- the piece of a new shape -/
theorem zPi_n {k pc n : Nat} {w : List CuR} {a b d e g : Int} {I L : ZI} (ha : a ≠ 2) (hn : n = cuNp w) (h : zPw k n d (d + if a = 3 then 1 else 0) (cuPi pc n) (cuQ e 1 - if a = 0 then 100 else 0) (cuQ e 0 - if a = 0 then 100 else 0) (cuQ g 1 - cuQ e 1 + if a = 0 then 200 else 0) (cuQ g 0 - cuQ e 0 + if a = 0 then 200 else 0) (if a = 0 then 0 else cuRa a) I L) : zPi k (w ++ [cRw a b d e g]) pc n (cuPx (w ++ [cRw a b d e g]) n) I L := by
  subst hn
  obtain ⟨c0, c1, c2, c3, c4⟩ := cRw_c (a := a) (b := b) (d := d) (e := e) (g := g)
  have hx : cuPx (w ++ [cRw a b d e g]) (cuNp w) = w.length := cuPx_n (by rw [c0]; exact ha)
  rw [hx]
  have e0 : ∀ ax, cuE (w ++ [cRw a b d e g]) w.length ax 0 = cuQ e ax := fun ax => by rw [cuE_n, if_neg (by decide), c3]
  have e1 : ∀ ax, cuE (w ++ [cRw a b d e g]) w.length ax 1 = cuQ g ax := fun ax => by rw [cuE_n, if_pos rfl, c4]
  have t1 : cuTp (w ++ [cRw a b d e g]) w.length = d + if a = 3 then 1 else 0 := by unfold cuTp; rw [cg_e, cg_e, c2, c0]
  have t2 : cuEw (w ++ [cRw a b d e g]) w.length = if a = 0 then 100 else 0 := by
    unfold cuEw
    rw [cg_e, c0]
    by_cases q : a = 0
    · rw [if_pos q, if_pos q, q]; rfl
    · rw [if_neg q, if_neg q]
  have t3 : cuEr (w ++ [cRw a b d e g]) w.length = if a = 0 then 0 else cuRa a := by unfold cuEr; rw [cg_e, c0]
  unfold zPi
  rw [e0, e0, e1, e1, t1, t2, t3, cg_e, c2]
  obtain ⟨⟨h1, h2, h3, h4⟩, ⟨h5, h6⟩, ⟨h7, h8⟩, h9⟩ := h
  by_cases q : a = 0
  · rw [if_pos q] at h5 h6 h7 h8 ⊢
    exact ⟨⟨h1, h2, h3, h4⟩, ⟨h5, h6⟩, ⟨by omega, by omega⟩, h9⟩
  · rw [if_neg q] at h5 h6 h7 h8 ⊢
    exact ⟨⟨h1, h2, h3, h4⟩, ⟨h5, h6⟩, ⟨by omega, by omega⟩, h9⟩
/-- copper, as it is told: a shape that is no piece; a piece -/
theorem zPc_2 {k pc : Nat} {w : List CuR} {r : CuR} {I L : ZI} (h : zPc k w pc I L) (hr : r 0 = 2) (hpc : pc ≤ w.length) : zPc k (w ++ [r]) pc I L := by
  have e := (cuNp_a (w := w) (r := r)).2 hr
  refine ⟨by rw [e]; exact h.1, fun p hp => ?_, fun q hq => ?_⟩
  · rw [e] at hp
    exact zPi_a hp rfl (h.2.1 p hp)
  · have z := h.2.2 q hq
    unfold cuNn at z ⊢
    by_cases y : q < pc
    · rw [if_pos y] at z ⊢
      rw [cg_l (by omega)]
      exact z
    · rw [if_neg y] at z ⊢
      exact z
theorem zPc_a {k pc pc' n : Nat} {w : List CuR} {a b d e g : Int} {I I' L L' : ZI} (h : zPc k w pc I L) (ha : a ≠ 2) (hn : n = cuNp w) (h2 : I' k 2 = n + 1)
    (hw : zPw k n d (d + if a = 3 then 1 else 0) (cuPi pc' n) (cuQ e 1 - if a = 0 then 100 else 0) (cuQ e 0 - if a = 0 then 100 else 0) (cuQ g 1 - cuQ e 1 + if a = 0 then 200 else 0) (cuQ g 0 - cuQ e 0 + if a = 0 then 200 else 0) (if a = 0 then 0 else cuRa a) I' L')
    (hf : ∀ c j : Nat, ((k + 1 ≤ c ∧ c ≤ k + 3) ∨ c = k + 9) ∧ j ≠ n → I' c j = I c j) (hl : ∀ c j : Nat, (k + 4 ≤ c ∧ c ≤ k + 8) ∧ j ≠ n → L' c j = L c j)
    (hpi : ∀ p : Nat, p < n → cuPi pc' p = cuPi pc p) (hnn : ∀ q : Nat, q < 40 → I' (k + 10) q = cuNn (w ++ [cRw a b d e g]) pc' q) : zPc k (w ++ [cRw a b d e g]) pc' I' L' := by
  obtain ⟨c0, c1, c2, c3, c4⟩ := cRw_c (a := a) (b := b) (d := d) (e := e) (g := g)
  have en := (cuNp_a (w := w) (r := cRw a b d e g)).1 (by rw [c0]; exact ha)
  refine ⟨by rw [en, h2, hn]; rfl, fun p hp => ?_, hnn⟩
  rw [en] at hp
  by_cases q : p = n
  · subst q
    exact zPi_n ha hn hw
  · have hp2 : p < cuNp w := by omega
    have z := zPi_a (r := cRw a b d e g) hp2 (hpi p (by omega)) (h.2.1 p hp2)
    unfold zPi at z ⊢
    rw [hf (k + 1) p (by omega), hf (k + 2) p (by omega), hf (k + 3) p (by omega), hf (k + 9) p (by omega), hl (k + 4) p (by omega), hl (k + 5) p (by omega), hl (k + 6) p (by omega), hl (k + 7) p (by omega), hl (k + 8) p (by omega)]
    exact z
