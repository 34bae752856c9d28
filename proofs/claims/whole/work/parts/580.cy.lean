/-! CUTS: airlines, shorts -/
def cuAp (w : List CuR) (pc : Nat) (net : Int) (mk : Nat → Int) (a b : Nat) : Prop := (a < b ∧ b < pc) ∧ cg w a 1 = net ∧ cg w b 1 = net ∧ mk a ≠ mk b
def cuBf (a b x y : Nat) : Prop := x < a ∨ (x = a ∧ y < b)
/-- the nearest pair of those ahead of a, b -/
def cuNq (w : List CuR) (pc : Nat) (net : Int) (mk : Nat → Int) (a b : Nat) (r le : Int) : Prop := (r = -1 ∧ ∀ x y, cuAp w pc net mk x y → ¬ cuBf a b x y) ∨
  ∃ p q : Nat, r = 60 * p + q ∧ le = cuSq w p q 0 ∧ (cuAp w pc net mk p q ∧ cuBf a b p q) ∧ ∀ x y, cuAp w pc net mk x y → cuBf a b x y → cuSq w p q 0 < cuSq w x y 0 ∨ (cuSq w p q 0 = cuSq w x y 0 ∧ (p < x ∨ (p = x ∧ q ≤ y)))
def cuNx (w : List CuR) (pc : Nat) (net : Int) (mk : Nat → Int) (r : Int) : Prop := (r = -1 ∧ ∀ x y, ¬ cuAp w pc net mk x y) ∨
  ∃ p q : Nat, r = 60 * p + q ∧ cuAp w pc net mk p q ∧ ∀ x y, cuAp w pc net mk x y → cuSq w p q 0 < cuSq w x y 0 ∨ (cuSq w p q 0 = cuSq w x y 0 ∧ (p < x ∨ (p = x ∧ q ≤ y)))
section
variable {w : List CuR} {pc a b : Nat} {net r le : Int} {mk : Nat → Int}
theorem cuNq_0 : cuNq w pc net mk 0 1 (-1) le := Or.inl ⟨rfl, fun x y h1 h2 => by have := h1.1; unfold cuBf at h2; omega⟩
theorem cuNq_s (h : cuNq w pc net mk a b r le) (hn : ¬ cuAp w pc net mk a b) : cuNq w pc net mk a (b + 1) r le := by
  rcases h with ⟨h1, h2⟩ | ⟨p, q, h1, h2, h3, h4⟩
  · refine Or.inl ⟨h1, fun x y g1 g2 => ?_⟩
    unfold cuBf at g2
    by_cases e : x = a ∧ y = b
    · obtain ⟨rfl, rfl⟩ := e
      exact hn g1
    · exact h2 x y g1 (by unfold cuBf; omega)
  · refine Or.inr ⟨p, q, h1, h2, ⟨h3.1, by have := h3.2; unfold cuBf at this ⊢; omega⟩, fun x y g1 g2 => ?_⟩
    unfold cuBf at g2
    by_cases e : x = a ∧ y = b
    · obtain ⟨rfl, rfl⟩ := e
      exact absurd g1 hn
    · exact h4 x y g1 (by unfold cuBf; omega)
theorem cuNq_u (h : cuNq w pc net mk a b r le) (hp : cuAp w pc net mk a b) (hr : r = -1 ∨ cuSq w a b 0 < le) : cuNq w pc net mk a (b + 1) (60 * (a : Int) + b) (cuSq w a b 0) := by
  refine Or.inr ⟨a, b, rfl, rfl, ⟨hp, by unfold cuBf; omega⟩, fun x y g1 g2 => ?_⟩
  unfold cuBf at g2
  by_cases e : x = a ∧ y = b
  · obtain ⟨rfl, rfl⟩ := e
    exact Or.inr ⟨rfl, Or.inr ⟨rfl, Nat.le_refl _⟩⟩
  · rcases h with ⟨h1, h2⟩ | ⟨p, q, h1, h2, h3, h4⟩
    · exact absurd (show cuBf a b x y by unfold cuBf; omega) (h2 x y g1)
    · have z := h4 x y g1 (by unfold cuBf; omega)
      left
      omega
theorem cuNq_k (h : cuNq w pc net mk a b r le) (hr : r ≠ -1) (hl : le ≤ cuSq w a b 0) : cuNq w pc net mk a (b + 1) r le := by
  rcases h with ⟨h1, h2⟩ | ⟨p, q, h1, h2, h3, h4⟩
  · exact absurd h1 hr
  · refine Or.inr ⟨p, q, h1, h2, ⟨h3.1, by have := h3.2; unfold cuBf at this ⊢; omega⟩, fun x y g1 g2 => ?_⟩
    unfold cuBf at g2
    by_cases e : x = a ∧ y = b
    · obtain ⟨rfl, rfl⟩ := e
      have := h3.2
      unfold cuBf at this
      omega
    · exact h4 x y g1 (by unfold cuBf; omega)
theorem cuNq_i (h : cuNq w pc net mk a b r le) (hb : pc ≤ b) : cuNq w pc net mk (a + 1) (a + 1 + 1) r le := by
  rcases h with ⟨h1, h2⟩ | ⟨p, q, h1, h2, h3, h4⟩
  · exact Or.inl ⟨h1, fun x y g1 g2 => h2 x y g1 (by have := g1.1; unfold cuBf at g2 ⊢; omega)⟩
  · exact Or.inr ⟨p, q, h1, h2, ⟨h3.1, by have := h3.2; unfold cuBf at this ⊢; omega⟩, fun x y g1 g2 => h4 x y g1 (by have := g1.1; unfold cuBf at g2 ⊢; omega)⟩
theorem cuNq_e (h : cuNq w pc net mk a b r le) (ha : pc ≤ a) : cuNx w pc net mk r := by
  rcases h with ⟨h1, h2⟩ | ⟨p, q, h1, h2, h3, h4⟩
  · exact Or.inl ⟨h1, fun x y g1 => h2 x y g1 (by have := g1.1; unfold cuBf; omega)⟩
  · exact Or.inr ⟨p, q, h1, h3.1, fun x y g1 => h4 x y g1 (by have := g1.1; unfold cuBf; omega)⟩
theorem cuNq_b (hp : pc ≤ 60) (h : cuNq w pc net mk a b r le) : r = -1 ∨ (0 ≤ r ∧ r < 3600) := by
  rcases h with ⟨h1, h2⟩ | ⟨p, q, h1, h2, h3, h4⟩
  · exact Or.inl h1
  · have := h3.1.1
    right
    omega
theorem cuNq_l (hG : cuG w) (hp : pc ≤ w.length) (h : cuNq w pc net mk a b r le) : r = -1 ∨ (0 ≤ le ∧ le ≤ 450000000) := by
  rcases h with ⟨h1, h2⟩ | ⟨p, q, h1, h2, h3, h4⟩
  · exact Or.inl h1
  · have z := h3.1.1
    have z2 := cuSq_b hG (show p < w.length by omega) (show q < w.length by omega) (Int.le_refl 0)
    right
    omega
theorem cuNx_b (hp : pc ≤ 60) (h : cuNx w pc net mk r) : r = -1 ∨ ((0 ≤ r ∧ r < 3600) ∧ cuAp w pc net mk (r / 60).toNat (r % 60).toNat) := by
  rcases h with ⟨h1, h2⟩ | ⟨p, q, h1, h2, h3⟩
  · exact Or.inl h1
  · have z := h2.1
    right
    have e1 : (r / 60).toNat = p := by omega
    have e2 : (r % 60).toNat = q := by omega
    rw [e1, e2]
    exact ⟨by omega, h2⟩
theorem cuNx_u {r' : Int} (h : cuNx w pc net mk r) (h' : cuNx w pc net mk r') : r = r' := by
  rcases h with ⟨h1, h2⟩ | ⟨p, q, h1, h2, h3⟩
  · rcases h' with ⟨g1, g2⟩ | ⟨p', q', g1, g2, g3⟩
    · omega
    · exact absurd g2 (h2 _ _)
  · rcases h' with ⟨g1, g2⟩ | ⟨p', q', g1, g2, g3⟩
    · exact absurd h2 (g2 _ _)
    · have a1 := h3 _ _ g2
      have a2 := g3 _ _ h2
      omega
end
noncomputable def cuNf (w : List CuR) (pc : Nat) (net : Int) (mk : Nat → Int) : Int := @dite Int (∃ r, cuNx w pc net mk r) (Classical.propDecidable _) (fun h => Classical.choose h) (fun _ => -1)
theorem cuNf_e {w : List CuR} {pc : Nat} {net r : Int} {mk : Nat → Int} (h : cuNx w pc net mk r) : cuNf w pc net mk = r := by
  have hx : ∃ r, cuNx w pc net mk r := ⟨r, h⟩
  unfold cuNf
  rw [dif_pos hx]
  exact cuNx_u (Classical.choose_spec hx) h
/-- what an airline joins is marked alike -/
def cuJm (mk : Nat → Int) (r : Int) (p : Nat) : Int := if mk p = mk (r % 60).toNat then mk (r / 60).toNat else mk p
noncomputable def cuMs (w : List CuR) (pc : Nat) (net : Int) (mk : Nat → Int) : Nat → Nat → Int
  | 0 => mk
  | t + 1 => if cuNf w pc net (cuMs w pc net mk t) = -1 then cuMs w pc net mk t else cuJm (cuMs w pc net mk t) (cuNf w pc net (cuMs w pc net mk t))
/-- pads of a net whose mark is new -/
def cuRp (w : List CuR) (net : Int) (mk : Nat → Int) (p : Nat) : Prop := cg w p 1 = net ∧ ∀ q, q < p → cg w q 1 = net → mk q ≠ mk p
theorem cuRp_f {w : List CuR} {net : Int} {mk : Nat → Int} {a : Nat} (ha : cg w a 1 = net) : ∃ c, c ≤ a ∧ mk c = mk a ∧ cuRp w net mk c := by
  rcases zlow_sp (fun c => cg w c 1 = net ∧ mk c = mk a) (a + 1) with ⟨_, h2⟩ | ⟨c, h1, h2, h3, h4⟩
  · exact absurd ⟨ha, rfl⟩ (h2 a (Nat.lt_succ_self a))
  · exact ⟨c, by omega, h3.2, h3.1, fun q hq hn e => h4 q hq ⟨hn, e.trans h3.2⟩⟩
theorem cuRp_j {w : List CuR} {pc : Nat} {net : Int} {mk : Nat → Int} {r : Int} (h : cuAp w pc net mk (r / 60).toNat (r % 60).toNat) : zct (cuRp w net (cuJm mk r)) pc + 1 ≤ zct (cuRp w net mk) pc := by
  obtain ⟨h1, h2, h3, h4⟩ := h
  generalize ha : (r / 60).toNat = a at *
  generalize hb : (r % 60).toNat = b at *
  have hj : ∀ p, cuJm mk r p = if mk p = mk b then mk a else mk p := fun p => by
    unfold cuJm
    rw [ha, hb]
  have sub : ∀ p, cuRp w net (cuJm mk r) p → cuRp w net mk p := fun p g => ⟨g.1, fun q hq hn e => g.2 q hq hn (by rw [hj, hj, e])⟩
  obtain ⟨c, c1, c2, c3⟩ := cuRp_f (mk := mk) h2
  obtain ⟨d, d1, d2, d3⟩ := cuRp_f (mk := mk) h3
  have hcd : c ≠ d := fun e => h4 (by rw [← c2, ← d2, e])
  have ec : cuJm mk r c = mk a := by
    rw [hj, c2]
    split <;> rfl
  have ed : cuJm mk r d = mk a := by
    rw [hj, if_pos d2]
  rcases Nat.lt_or_ge c d with q | q
  · exact zct_lt sub (c := d) (fun g => g.2 c q c3.1 (ec.trans ed.symm)) d3 (by omega)
  · exact zct_lt sub (c := c) (fun g => g.2 d (by omega) d3.1 (ed.trans ec.symm)) c3 (by omega)
theorem zct_add {P Q R : Nat → Prop} (h1 : ∀ x, P x → R x ∧ ¬ Q x) (h2 : ∀ x, Q x → R x) : ∀ n, zct P n + zct Q n ≤ zct R n
  | 0 => Nat.le_refl _
  | n + 1 => by
    have ih := zct_add h1 h2 n
    by_cases p : P n
    · have z := h1 n p
      rw [zct_t p, zct_f z.2, zct_t z.1]
      omega
    · rw [zct_f p]
      by_cases q : Q n
      · rw [zct_t q, zct_t (h2 n q)]
        omega
      · rw [zct_f q]
        have := zct_le2 (P := R) (show n ≤ n + 1 by omega)
        omega
def cuNz (w : List CuR) (net : Int) (p : Nat) : Prop := cg w p 1 = net
def cuNl (w : List CuR) (net : Int) (p : Nat) : Prop := cg w p 1 < net
/-- airlines of a net -/
noncomputable def cuAr (w : List CuR) (pc : Nat) (net : Int) (t : Nat) : Int := cuNf w pc net (cuMs w pc net (fun p => (cuNm w p : Int)) t)
noncomputable def cuAn (w : List CuR) (pc : Nat) (net : Int) : Nat := (zlow (fun t => cuAr w pc net t = -1) (pc + 1)).toNat
noncomputable def cuA1 (w : List CuR) (pc : Nat) (net : Int) (t : Nat) : CuR := cRw net (cuAr w pc net t / 60) (cuAr w pc net t % 60) 0 0
noncomputable def cuAL (w : List CuR) (pc : Nat) (net : Nat) : List CuR := cuC (fun t => [cuA1 w pc net t]) (cuAn w pc net)
noncomputable def cuAA (w : List CuR) (pc : Nat) : List CuR := cuC (cuAL w pc) 12
theorem cuC_1 {α : Type} {f : Nat → α} : ∀ n, (cuC (fun t => [f t]) n).length = n
  | 0 => rfl
  | n + 1 => by
    show (cuC (fun t => [f t]) n ++ [f n]).length = n + 1
    rw [List.length_append, cuC_1 n]
    rfl
theorem cuAn_at {w : List CuR} {pc t : Nat} {net : Int} (h : cuAr w pc net t = -1) (hl : ∀ s, s < t → cuAr w pc net s ≠ -1) (ht : t ≤ pc) : cuAn w pc net = t := by
  unfold cuAn
  rw [zlow_at (P := fun t => cuAr w pc net t = -1) h hl (by omega)]
  rfl
theorem zRT_up {k rm : Nat} {w : List CuR} {a b d e g : Int} {I : ZI} (h : zRT k rm (w.length + 1) (upR (cg w) w.length a b d e g) I) : zRT k rm (w ++ [cRw a b d e g]).length (cg (w ++ [cRw a b d e g])) I := by
  obtain ⟨t1, t2, t3, t4⟩ := h
  rw [cLn]
  exact ⟨t1, t2, t3, fun x y hx hy => (t4 x y hx hy).trans (cg_up hx)⟩
/-- shorts -/
def cuSx (w : List CuR) (pc c : Nat) : Prop := ∃ p q, p < pc ∧ q < pc ∧ cuNm w p = c ∧ cuNm w q = c ∧ cg w p 1 ≠ cg w q 1
noncomputable def cuSc (w : List CuR) (pc : Nat) : Nat := zct (cuSx w pc) (cuNp w)
/-- what the class has seen of one piece of copper's pads: the net of the last one, whether two are unlike -/
def cuSy (w : List CuR) (c m : Nat) (net u : Int) : Prop := (net = -1 ∧ u = 0 ∧ ∀ p, p < m → cuNm w p ≠ c) ∨ (net ≠ -1 ∧ (u = 0 ∨ u = 1) ∧ (∃ p, p < m ∧ cuNm w p = c ∧ cg w p 1 = net) ∧ (u = 0 → ∀ p, p < m → cuNm w p = c → cg w p 1 = net) ∧ (u = 1 → ∃ p q, p < m ∧ q < m ∧ cuNm w p = c ∧ cuNm w q = c ∧ cg w p 1 ≠ cg w q 1))
theorem cuSy_0 {w : List CuR} {c : Nat} : cuSy w c 0 (-1) 0 := Or.inl ⟨rfl, rfl, fun p h => absurd h (Nat.not_lt_zero p)⟩
theorem cuSy_n {w : List CuR} {c m : Nat} {net u : Int} (h : cuSy w c m net u) (hc : cuNm w m ≠ c) : cuSy w c (m + 1) net u := by
  have h9 : ∀ p, p < m + 1 → cuNm w p = c → p < m := fun p hp e => by
    by_cases q : p = m
    · rw [q] at e; exact absurd e hc
    · omega
  rcases h with ⟨h1, h2, h3⟩ | ⟨h1, h2, ⟨p, p1, p2, p3⟩, h4, h5⟩
  · exact Or.inl ⟨h1, h2, fun p hp e => h3 p (h9 p hp e) e⟩
  · refine Or.inr ⟨h1, h2, ⟨p, by omega, p2, p3⟩, fun q p hp e => h4 q p (h9 p hp e) e, fun q => ?_⟩
    obtain ⟨x, y, x1, y1, r⟩ := h5 q
    exact ⟨x, y, by omega, by omega, r⟩
theorem cuSy_y {w : List CuR} {c m : Nat} {net u u' : Int} (h : cuSy w c m net u) (hc : cuNm w m = c) (hm : cg w m 1 ≠ -1) (hu : (u' = 1 ∧ (u = 1 ∨ (net ≠ -1 ∧ net ≠ cg w m 1))) ∨ (u' = 0 ∧ u = 0 ∧ (net = -1 ∨ net = cg w m 1))) : cuSy w c (m + 1) (cg w m 1) u' := by
  refine Or.inr ⟨hm, by omega, ⟨m, Nat.lt_succ_self m, hc, rfl⟩, fun q p hp e => ?_, fun q => ?_⟩
  · by_cases z : p = m
    · rw [z]
    · rcases h with ⟨h1, h2, h3⟩ | ⟨h1, h2, h3, h4, h5⟩
      · exact absurd e (h3 p (by omega))
      · have y := h4 (by clear h3 h5; omega) p (by omega) e
        clear h3 h5
        omega
  · rcases h with ⟨h1, h2, h3⟩ | ⟨h1, h2, ⟨p, p1, p2, p3⟩, h4, h5⟩
    · omega
    · by_cases z : u = 1
      · obtain ⟨x, y, x1, y1, r⟩ := h5 z
        exact ⟨x, y, by omega, by omega, r⟩
      · clear h5
        exact ⟨p, m, by omega, by omega, p2, hc, by omega⟩
theorem cuSy_e {w : List CuR} {c m : Nat} {net u : Int} (h : cuSy w c m net u) : (u = 1 ∧ cuSx w m c) ∨ (u = 0 ∧ ¬ cuSx w m c) := by
  rcases h with ⟨h1, h2, h3⟩ | ⟨h1, h2, h3, h4, h5⟩
  · refine Or.inr ⟨h2, ?_⟩
    rintro ⟨p, q, p1, q1, p2, q2, r⟩
    exact h3 p p1 p2
  · rcases h2 with z | z
    · refine Or.inr ⟨z, ?_⟩
      rintro ⟨p, q, p1, q1, p2, q2, r⟩
      exact r ((h4 z p p1 p2).trans (h4 z q q1 q2).symm)
    · exact Or.inl ⟨z, h5 z⟩
/-- pads come first -/
def cuPq (w : List CuR) (pc : Nat) : Prop := pc ≤ 40 ∧ pc ≤ w.length ∧ ∀ p, p < pc → cg w p 0 = 1
theorem cuPq_n {w : List CuR} {pc : Nat} (h : cuPq w pc) : ∀ {p}, p ≤ pc → zct (cuPn w) p = p
  | 0, _ => rfl
  | p + 1, hp => by
    have e : cuPn w p := by
      unfold cuPn
      rw [h.2.2 p (by omega)]
      decide
    rw [zct_t e, cuPq_n h (by omega)]
theorem cuPq_p {w : List CuR} {pc : Nat} (h : cuPq w pc) : pc ≤ cuNp w ∧ ∀ p, p < pc → cuPx w p = p := by
  have h2 := h.2.1
  refine ⟨?_, fun p hp => ?_⟩
  · have z := zct_le2 (P := cuPn w) h2
    rw [cuPq_n h (Nat.le_refl _)] at z
    exact z
  · have e : cuPn w p := by
      unfold cuPn
      rw [h.2.2 p hp]
      decide
    have z := cuPx_at (show p < w.length by omega) e
    rw [cuPq_n h (by omega)] at z
    exact z
theorem cuNx_c {w : List CuR} {pc : Nat} {net r : Int} {mk mk' : Nat → Int} (e : ∀ p, p < pc → mk p = mk' p) (h : cuNx w pc net mk r) : cuNx w pc net mk' r := by
  have ha : ∀ x y, cuAp w pc net mk x y ↔ cuAp w pc net mk' x y := fun x y => by
    constructor
    · rintro ⟨h1, h2, h3, h4⟩
      exact ⟨h1, h2, h3, by rw [← e x (by omega), ← e y (by omega)]; exact h4⟩
    · rintro ⟨h1, h2, h3, h4⟩
      exact ⟨h1, h2, h3, by rw [e x (by omega), e y (by omega)]; exact h4⟩
  rcases h with ⟨h1, h2⟩ | ⟨p, q, h1, h2, h3⟩
  · exact Or.inl ⟨h1, fun x y g => h2 x y ((ha x y).mpr g)⟩
  · exact Or.inr ⟨p, q, h1, (ha p q).mp h2, fun x y g => h3 x y ((ha x y).mpr g)⟩
noncomputable def cuM (w : List CuR) (pc : Nat) (net : Int) (t : Nat) : Nat → Int := cuMs w pc net (fun p => (cuNm w p : Int)) t
theorem cuM_s {w : List CuR} {pc : Nat} {net : Int} {t : Nat} (h : cuAr w pc net t ≠ -1) : cuM w pc net (t + 1) = cuJm (cuM w pc net t) (cuAr w pc net t) := if_neg h
theorem cuAr_e {w : List CuR} {pc : Nat} {net r : Int} {t : Nat} (h : cuNx w pc net (cuM w pc net t) r) : cuAr w pc net t = r := cuNf_e h
def cuAB (w : List CuR) (pc N t : Nat) : Prop := (cuC (cuAL w pc) N).length + t + zct (cuRp w N (cuM w pc N t)) pc ≤ zct (cuNl w ((N : Int) + 1)) pc
theorem cuAB_0 {w : List CuR} {pc N : Nat} (h : (cuC (cuAL w pc) N).length ≤ zct (cuNl w N) pc) : cuAB w pc N 0 := by
  have w1 := zct_mono (P := cuRp w N (cuM w pc N 0)) (Q := cuNz w N) (fun d g => g.1) pc
  have w2 := zct_add (P := cuNl w N) (Q := cuNz w N) (R := cuNl w ((N : Int) + 1)) (fun x g => ⟨by unfold cuNl at g ⊢; omega, by unfold cuNl at g; unfold cuNz; omega⟩) (fun x g => by unfold cuNz at g; unfold cuNl; omega) pc
  unfold cuAB
  omega
theorem cuAB_r {w : List CuR} {pc N t : Nat} {r : Int} (hp : pc ≤ 60) (hx : cuNx w pc N (cuM w pc N t) r) (hr : r ≠ -1) : zct (cuRp w N (cuM w pc N (t + 1))) pc + 1 ≤ zct (cuRp w N (cuM w pc N t)) pc := by
  have e := cuAr_e hx
  rw [cuM_s (by rw [e]; exact hr), e]
  rcases cuNx_b hp hx with z | z
  · exact absurd z hr
  · exact cuRp_j z.2
theorem cuAB_s {w : List CuR} {pc N t : Nat} {r : Int} (hp : pc ≤ 60) (h : cuAB w pc N t) (hx : cuNx w pc N (cuM w pc N t) r) (hr : r ≠ -1) : cuAB w pc N (t + 1) := by
  have w1 := cuAB_r hp hx hr
  unfold cuAB at h ⊢
  omega
theorem cuAB_l {w : List CuR} {pc N t : Nat} (h : cuAB w pc N t) : (cuC (cuAL w pc) N).length + t + zct (cuRp w N (cuM w pc N t)) pc ≤ pc := Nat.le_trans h (zct_le _ _)
theorem cuAB_e {w : List CuR} {pc N t : Nat} (h : cuAB w pc N t) (ha : cuAn w pc N = t) : (cuC (cuAL w pc) (N + 1)).length ≤ zct (cuNl w ((N : Int) + 1)) pc := by
  have e : (cuC (cuAL w pc) (N + 1)).length = (cuC (cuAL w pc) N).length + cuAn w pc N := by
    show (cuC (cuAL w pc) N ++ cuAL w pc N).length = _
    rw [List.length_append]
    unfold cuAL
    rw [cuC_1]
  unfold cuAB at h
  omega
theorem cuAn_e {w : List CuR} {pc N t : Nat} {r : Int} (hp : pc ≤ 60) (h : cuAB w pc N t) (hx : cuNx w pc N (cuM w pc N t) r) (hl : ∀ s, s < t → cuAr w pc N s ≠ -1) (hs : pc ≤ t ∨ r = -1) : cuAn w pc N = t := by
  have e := cuAr_e hx
  have hb := cuAB_l h
  have hr : r = -1 := by
    rcases hs with q | q
    · by_cases z : r = -1
      · exact z
      · have := cuAB_r hp hx z
        omega
    · exact q
  exact cuAn_at (by rw [e]; exact hr) hl (by omega)
theorem cuNl_0 {w : List CuR} {pc : Nat} : (cuC (cuAL w pc) 0).length ≤ zct (cuNl w ((0 : Nat) : Int)) pc := Nat.zero_le _
/-- the airlines in the class's cut -/
def zUa (k : Nat) (w : List CuR) (pc : Nat) (I : ZI) : Prop := zRT (k + 5) 40 (cuAA w pc).length (cg (cuAA w pc)) I
theorem zUa_fr {k pc : Nat} {w : List CuR} {I I' : ZI} (h : zUa k w pc I) (hf : ∀ c j : Nat, (c = k + 5 ∧ (j = 1 ∨ j = 2)) ∨ c = k + 6 → I' c j = I c j) : zUa k w pc I' := zRT_fr h (fun c j q => hf c j (by omega))
theorem zRT_0 {k rm : Nat} {f : Nat → Nat → Int} {I : ZI} (h1 : I k 1 = rm) (h2 : I k 2 = 0) : zRT k rm ([] : List CuR).length f I := ⟨h1, h2, Nat.zero_le _, fun x y h => absurd h (Nat.not_lt_zero x)⟩
theorem zRT_g {k rm c c' : Nat} {f f' : Nat → Nat → Int} {I : ZI} (h : zRT k rm c f I) (e : c = c') (ef : f = f') : zRT k rm c' f' I := by subst e; subst ef; exact h
